/-! what comes of a run, once -/
theorem Run_of {S : Sys} {G : GB} {L mi : Nat} {is : List Instr} {ls st : List AV} {h : AH} {P : Option AV → AH → Prop} (hr : Run S G L mi is ls st h P) : ∃ r g, P r g ∧ ∀ Q, (Run S G L mi is ls st h Q ↔ Q r g) := by
  obtain ⟨n, r, g, e, p⟩ := hr
  refine ⟨r, g, p, fun Q => ⟨?_, fun q => ⟨n, r, g, e, q⟩⟩⟩
  rintro ⟨m, r', g', e', q⟩
  have e1 := exec_le (Nat.le_max_left n m) e
  have e2 := exec_le (Nat.le_max_right n m) e'
  rw [e1] at e2
  cases e2
  exact q
/-- a call comes to r and g, whatever is asked of them -/
def En (G : GB) (L k : Nat) (as : List AV) (h : AH) (r : Option AV) (g : AH) : Prop := ∀ Q, Call sysS G L k as h Q ↔ Q r g
theorem En_of {G : GB} {L k : Nat} {as : List AV} {h : AH} {P : Option AV → AH → Prop} (hr : Call sysS G L k as h P) : ∃ r g, P r g ∧ En G L k as h r g := Run_of hr
/-- steps one after another -/
def Itr (f : Cd) (b : Nat) (E : Ev) : Nat → Nat → Nat → Rw → (Int ⊕ (Nat × Nat × Rw)) → Prop
  | 0, pc, n, S, w => w = .inr (pc, n, S)
  | k + 1, pc, n, S, w => pc < b ∧ ((∃ e, StA E (f pc) pc n S (.inl e) ∧ w = .inl e) ∨ ∃ pc' n' S', StA E (f pc) pc n S (.inr (pc', n', S')) ∧ Itr f b E k pc' n' S' w)
theorem StA_up {E : Ev} {c : Int × Int} {pc n pc' n' : Nat} {S S' : Rw} (h : StA E c pc n S (.inr (pc', n', S'))) : pc < pc' ∧ (n ≤ pc → n' ≤ pc') := by
  rcases h with ⟨hc, hd, e⟩ | ⟨hc, e⟩ | ⟨hc, e⟩ | ⟨hc, e⟩ | ⟨hc, e⟩ | ⟨hc, h1, e⟩ | ⟨hc, h1, h2, e⟩ | ⟨hc, k, b, hd, h1, h2, h3, hh⟩ | ⟨hc, h1, k, hd, h2, h3, hh⟩ | ⟨hc, h1, hh⟩
  case inr.inr.inr.inr.inr.inr.inr.inl =>
    rcases hh with ⟨-, e⟩ | ⟨i, hi, hb, e⟩ <;> cases e <;> omega
  case inr.inr.inr.inr.inr.inr.inr.inr.inl =>
    rcases hh with ⟨-, e⟩ | ⟨-, e⟩ <;> cases e <;> omega
  case inr.inr.inr.inr.inr.inr.inr.inr.inr =>
    rcases hh with ⟨-, -, e⟩ | ⟨-, e⟩ <;> cases e <;> omega
  all_goals (cases e; omega)
section IT
variable {f g : Cd} {b b' pc n : Nat} {E : Ev} {S : Rw} {w : Int ⊕ (Nat × Nat × Rw)}
theorem Itr_mono (hb : b ≤ b') : ∀ {k pc n S}, Itr f b E k pc n S w → Itr f b' E k pc n S w
  | 0, _, _, _, h => h
  | k + 1, pc, n, S, ⟨h1, h2⟩ => by
    refine ⟨by omega, ?_⟩
    rcases h2 with h2 | ⟨pc', n', S', h3, h4⟩
    · exact Or.inl h2
    · exact Or.inr ⟨pc', n', S', h3, Itr_mono hb h4⟩
theorem Itr_congr {a : Nat} (hfg : ∀ j, a ≤ j → j < b → f j = g j) : ∀ {k pc n S}, a ≤ pc → Itr f b E k pc n S w → Itr g b E k pc n S w
  | 0, _, _, _, _, h => h
  | k + 1, pc, n, S, ha, ⟨h1, h2⟩ => by
    refine ⟨h1, ?_⟩
    rw [← hfg pc ha h1]
    rcases h2 with h2 | ⟨pc', n', S', h3, h4⟩
    · exact Or.inl h2
    · exact Or.inr ⟨pc', n', S', h3, Itr_congr hfg (by have := (StA_up h3).1; omega) h4⟩
theorem Itr_comp {k2 : Nat} {pc1 n1 : Nat} {S1 : Rw} (h2 : Itr f b E k2 pc1 n1 S1 w) : ∀ {k1 pc n S}, Itr f b E k1 pc n S (.inr (pc1, n1, S1)) → Itr f b E (k1 + k2) pc n S w
  | 0, pc, n, S, h => by
    have h : (.inr (pc1, n1, S1) : Int ⊕ (Nat × Nat × Rw)) = .inr (pc, n, S) := h
    cases h
    rw [Nat.zero_add]
    exact h2
  | k1 + 1, pc, n, S, ⟨h3, h4⟩ => by
    rw [show k1 + 1 + k2 = (k1 + k2) + 1 by omega]
    refine ⟨h3, ?_⟩
    rcases h4 with ⟨e, _, h5⟩ | ⟨pc', n', S', h5, h6⟩
    · cases h5
    · exact Or.inr ⟨pc', n', S', h5, Itr_comp h2 h6⟩
theorem Itr_one {pc' n' : Nat} {S' : Rw} (hb : pc < b) (h : StA E (f pc) pc n S (.inr (pc', n', S'))) : Itr f b E 1 pc n S (.inr (pc', n', S')) := ⟨hb, Or.inr ⟨pc', n', S', h, rfl⟩⟩
theorem Itr_bad {e : Int} (hb : pc < b) (h : StA E (f pc) pc n S (.inl e)) : Itr f b E 1 pc n S (.inl e) := ⟨hb, Or.inl ⟨e, h, rfl⟩⟩
end IT
theorem x_sim {h : AH} {q N e2 b : Nat} {f : Cd} (hp : PgX h q f N) (hb : b ≤ e2) (he2 : e2 ≤ N) (hN : N ≤ 200) {w : Int ⊕ (Nat × Nat × Rw)} {L : Nat} {l2 : AV} : ∀ {k pc n S}, n ≤ pc → Itr f b (EvX h) k pc n S w → ∀ l5 l6, (∀ pc' n' S', w = .inr (pc', n', S') → n' ≤ pc' ∧ ∃ l5' l6', ∀ Q, (lpX L q e2 pc l2 l5 l6 (mX h n S 0) Q ↔ lpX L q e2 pc' l2 l5' l6' (mX h n' S' 0) Q)) ∧ ∀ e, w = .inl e → e ≠ 0 ∧ ∃ n' S', ∀ Q, (lpX L q e2 pc l2 l5 l6 (mX h n S 0) Q ↔ Q none (mX h n' S' e))
  | 0, pc, n, S, hn, hi, l5, l6 => by
    have hi : w = .inr (pc, n, S) := hi
    subst hi
    refine ⟨fun _ _ _ e => ?_, fun e he => by cases he⟩
    cases e
    exact ⟨hn, l5, l6, fun _ => Iff.rfl⟩
  | k + 1, pc, n, S, hn, ⟨hi, hj⟩, l5, l6 => by
    rcases hj with ⟨e, h1, rfl⟩ | ⟨pc1, n1, S1, h1, h2⟩
    · refine ⟨fun _ _ _ e => (by cases e), fun e he => ?_⟩
      cases he
      have X : ∀ Q, _ := fun Q => (x_step (L := L) (l2 := l2) (l5 := l5) (l6 := l6) (Q := Q) hp (by omega) he2 hN hn h1).2 e rfl
      refine ⟨(X (fun _ _ => True)).1, ?_⟩
      obtain ⟨-, n', S', X1⟩ := X (fun r g => ∃ n' S', r = none ∧ g = mX h n' S' e)
      obtain ⟨r, g, ⟨n2, S2, rfl, rfl⟩, X3⟩ := Run_of (X1.mpr ⟨n', S', rfl, rfl⟩)
      exact ⟨n2, S2, X3⟩
    · have X : ∀ Q, _ := fun Q => (x_step (L := L) (l2 := l2) (l5 := l5) (l6 := l6) (Q := Q) hp (by omega) he2 hN hn h1).1 pc1 n1 S1 rfl
      obtain ⟨Y1, Y2⟩ := x_sim hp hb he2 hN (L := L) (l2 := l2) ((StA_up h1).2 hn) h2 (vI (f pc).1) (vI (f pc).2)
      refine ⟨fun pc' n' S' e => ?_, fun e he => ?_⟩
      · obtain ⟨a1, l5', l6', a2⟩ := Y1 pc' n' S' e
        exact ⟨a1, l5', l6', fun Q => (X Q).trans (a2 Q)⟩
      · obtain ⟨a1, n', S', a2⟩ := Y2 e he
        exact ⟨a1, n', S', fun Q => (X Q).trans (a2 Q)⟩
theorem m_sim {h : AH} {base N b : Nat} {e2 : Int} {f : Cd} (hp : PgM h base f N) (hb : b ≤ N) (he2 : ((base + b : Nat) : Int) ≤ e2) {w : Int ⊕ (Nat × Nat × Rw)} {L : Nat} {l1 l2 : AV} : ∀ {k pc n S}, n ≤ pc → Itr f b (EvM h) k pc n S w → ∀ l5 l6 l7, (∀ pc' n' S', w = .inr (pc', n', S') → n' ≤ pc' ∧ ∃ l5' l6' l7', ∀ Q, (lpM L e2 (base + pc) l1 l2 l5 l6 l7 (mM h n S 0) Q ↔ lpM L e2 (base + pc') l1 l2 l5' l6' l7' (mM h n' S' 0) Q)) ∧ ∀ e, w = .inl e → ∃ n' S', ∀ Q, (lpM L e2 (base + pc) l1 l2 l5 l6 l7 (mM h n S 0) Q ↔ Q (some (vL 0)) (mM h n' S' e))
  | 0, pc, n, S, hn, hi, l5, l6, l7 => by
    have hi : w = .inr (pc, n, S) := hi
    subst hi
    refine ⟨fun _ _ _ e => ?_, fun e he => by cases he⟩
    cases e
    exact ⟨hn, l5, l6, l7, fun _ => Iff.rfl⟩
  | k + 1, pc, n, S, hn, ⟨hi, hj⟩, l5, l6, l7 => by
    rcases hj with ⟨e, h1, rfl⟩ | ⟨pc1, n1, S1, h1, h2⟩
    · refine ⟨fun _ _ _ e => (by cases e), fun e he => ?_⟩
      cases he
      have X : ∀ Q, _ := fun Q => (m_step (L := L) (l1 := l1) (l2 := l2) (l5 := l5) (l6 := l6) (l7 := l7) (Q := Q) (e2 := e2) hp (by omega) (by omega) hn h1).2 e rfl
      obtain ⟨n', S', X1⟩ := X (fun r g => ∃ n' S', r = some (vL 0) ∧ g = mM h n' S' e)
      obtain ⟨r, g, ⟨n2, S2, rfl, rfl⟩, X3⟩ := Run_of (X1.mpr ⟨n', S', rfl, rfl⟩)
      exact ⟨n2, S2, X3⟩
    · have X : ∀ Q, _ := fun Q => (m_step (L := L) (l1 := l1) (l2 := l2) (l5 := l5) (l6 := l6) (l7 := l7) (Q := Q) (e2 := e2) hp (by omega) (by omega) hn h1).1 pc1 n1 S1 rfl
      obtain ⟨Y1, Y2⟩ := m_sim hp hb he2 (L := L) (l1 := l1) (l2 := l2) ((StA_up h1).2 hn) h2 (vL (rdL h 66 (base + pc))) l6 (vI (rdI h 65 (base + pc)))
      refine ⟨fun pc' n' S' e => ?_, fun e he => ?_⟩
      · obtain ⟨a1, l5', l6', l7', a2⟩ := Y1 pc' n' S' e
        exact ⟨a1, l5', l6', l7', fun Q => (X Q).trans (a2 Q)⟩
      · obtain ⟨n', S', a2⟩ := Y2 e he
        exact ⟨n', S', fun Q => (X Q).trans (a2 Q)⟩
/-- from a to b the steps bring k values, of which K tells, or a failure, whatever there was before -/
def Sq (f : Cd) (a b k : Nat) (K : Rw → Prop) : Prop := a < b ∧ ∀ E : Ev, (∃ e : Int, ∀ n S, ∃ j, Itr f b E j a n S (.inl e)) ∨ ∃ v : Rw, K v ∧ ∀ n S, ∃ j S', Itr f b E j a n S (.inr (b, n + k, S')) ∧ (∀ i < k, S' (n + i) = v i) ∧ ∀ i < n, S' i = S i
abbrev kT : Rw → Prop := fun _ => True
abbrev kB : Rw → Prop := fun v => v 0 = 0 ∨ v 0 = 1
section SQ
variable {f g : Cd} {a b c k m : Nat} {K : Rw → Prop}
theorem Sq_congr (hfg : ∀ j, a ≤ j → j < b → f j = g j) (h : Sq f a b k K) : Sq g a b k K := by
  refine ⟨h.1, fun E => ?_⟩
  rcases h.2 E with ⟨e, h2⟩ | ⟨v, hv, h2⟩
  · refine Or.inl ⟨e, fun n S => ?_⟩
    obtain ⟨j, h3⟩ := h2 n S
    exact ⟨j, Itr_congr hfg (Nat.le_refl _) h3⟩
  · refine Or.inr ⟨v, hv, fun n S => ?_⟩
    obtain ⟨j, S', h3, h4⟩ := h2 n S
    exact ⟨j, S', Itr_congr hfg (Nat.le_refl _) h3, h4⟩
theorem Sq_T (h : Sq f a b k K) : Sq f a b k kT := by
  refine ⟨h.1, fun E => ?_⟩
  rcases h.2 E with h2 | ⟨v, hv, h2⟩
  · exact Or.inl h2
  · exact Or.inr ⟨v, trivial, h2⟩
theorem Sq_comp (h1 : Sq f a b k kT) (h2 : Sq f b c m kT) : Sq f a c (k + m) kT := by
  have l1 := h1.1
  have l2 := h2.1
  refine ⟨by omega, fun E => ?_⟩
  rcases h1.2 E with ⟨e, h3⟩ | ⟨v, -, h3⟩
  · refine Or.inl ⟨e, fun n S => ?_⟩
    obtain ⟨j, h4⟩ := h3 n S
    exact ⟨j, Itr_mono (by omega) h4⟩
  · rcases h2.2 E with ⟨e, h4⟩ | ⟨u, -, h4⟩
    · refine Or.inl ⟨e, fun n S => ?_⟩
      obtain ⟨j, S', h5, -⟩ := h3 n S
      obtain ⟨j2, h6⟩ := h4 (n + k) S'
      exact ⟨j + j2, Itr_comp h6 (Itr_mono (by omega) h5)⟩
    · refine Or.inr ⟨fun i => if i < k then v i else u (i - k), trivial, fun n S => ?_⟩
      obtain ⟨j, S', h5, h6, h7⟩ := h3 n S
      obtain ⟨j2, S2, h8, h9, h10⟩ := h4 (n + k) S'
      refine ⟨j + j2, S2, ?_, fun i hi => (show S2 (n + i) = if i < k then v i else u (i - k) from ?_), fun i hi => ?_⟩
      · rw [show n + (k + m) = n + k + m by omega]
        exact Itr_comp h8 (Itr_mono (by omega) h5)
      · by_cases c : i < k
        · rw [if_pos c, h10 (n + i) (by omega), h6 i c]
        · rw [if_neg c, ← h9 (i - k) (by omega), show n + k + (i - k) = n + i by omega]
      · rw [h10 i (by omega), h7 i hi]
/-- k values, then a step that makes one of them -/
theorem Sq_op {v' : Ev → Rw → Int ⊕ Int64} (h1 : Sq f a b k K) (hs : ∀ E v, K v → (∀ e, v' E v = .inl e → ∀ n S, (∀ i < k, S (n + i) = v i) → StA E (f b) b (n + k) S (.inl e)) ∧ ∀ u, v' E v = .inr u → ∀ n S, (∀ i < k, S (n + i) = v i) → StA E (f b) b (n + k) S (.inr (b + 1, n + 1, up S n u))) {K' : Rw → Prop} (hK : ∀ E v u, K v → v' E v = .inr u → K' (fun _ => u)) : Sq f a (b + 1) 1 K' := by
  have l1 := h1.1
  refine ⟨by omega, fun E => ?_⟩
  rcases h1.2 E with ⟨e, h3⟩ | ⟨v, hv, h3⟩
  · refine Or.inl ⟨e, fun n S => ?_⟩
    obtain ⟨j, h4⟩ := h3 n S
    exact ⟨j, Itr_mono (by omega) h4⟩
  · obtain ⟨s1, s2⟩ := hs E v hv
    cases hq : v' E v with
    | inl e =>
      refine Or.inl ⟨e, fun n S => ?_⟩
      obtain ⟨j, S', h5, h6, -⟩ := h3 n S
      exact ⟨j + 1, Itr_comp (Itr_bad (by omega) (s1 e hq n S' h6)) (Itr_mono (by omega) h5)⟩
    | inr u =>
      refine Or.inr ⟨fun _ => u, hK E v u hv hq, fun n S => ?_⟩
      obtain ⟨j, S', h5, h6, h7⟩ := h3 n S
      refine ⟨j + 1, up S' n u, Itr_comp (Itr_one (by omega) (s2 u hq n S' h6)) (Itr_mono (by omega) h5), fun i hi => ?_, fun i hi => ?_⟩
      · have : i = 0 := by omega
        subst this
        simp [up]
      · rw [← h7 i hi]
        simp [up]; omega
end SQ
