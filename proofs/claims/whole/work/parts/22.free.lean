/-! what holds with fixed references and kinds holds without; and what may not be written stays -/
def G0 : GB := (fun _ _ => none, fun _ => none, fun a => decide (4 ≤ a))
def AG (G : GB) (h : AH) : Prop := (∀ a k r, G.1 a k = some r → rdQ h a k = some r ∧ a < hpN h) ∧ (∀ a K, G.2.1 a = some K → rdK h a = K ∧ a < hpN h) ∧ ∀ a, G.2.2 a = true → 4 ≤ a
def FR (G : GB) (h h' : AH) : Prop := hpN h ≤ hpN h' ∧ ∀ a, a < hpN h → rdK h' a = rdK h a ∧ (G.2.2 a = false → ∀ k, rdI h' a k = rdI h a k ∧ rdL h' a k = rdL h a k ∧ rdQ h' a k = rdQ h a k)
theorem FR.refl {G : GB} {h : AH} : FR G h h := ⟨Nat.le_refl _, fun _ _ => ⟨rfl, fun _ _ => ⟨rfl, rfl, rfl⟩⟩⟩
theorem FR.trans {G : GB} {h h1 h2 : AH} (a : FR G h h1) (b : FR G h1 h2) : FR G h h2 := by
  refine ⟨Nat.le_trans a.1 b.1, fun x hx => ?_⟩
  obtain ⟨a1, a2⟩ := a.2 x hx
  obtain ⟨b1, b2⟩ := b.2 x (Nat.lt_of_lt_of_le hx a.1)
  refine ⟨b1.trans a1, fun hg k => ?_⟩
  obtain ⟨c1, c2, c3⟩ := a2 hg k
  obtain ⟨d1, d2, d3⟩ := b2 hg k
  exact ⟨d1.trans c1, d2.trans c2, d3.trans c3⟩
section FD
variable {G : GB} {h h' : AH} {a k : Nat}
theorem ag_knd (hA : AG G h) (a : Nat) : knd G h a = knd G0 h a := by
  show knd G h a = rdK h a
  unfold knd
  cases hG : G.2.1 a with
  | none => rfl
  | some K => exact (hA.2.1 a K hG).1.symm
theorem ag_rdR (hA : AG G h) (a k : Nat) : rdR G h a k = rdR G0 h a k := by
  show rdR G h a k = rdQ h a k
  unfold rdR
  cases hG : G.1 a k with
  | none => rfl
  | some r => exact (hA.1 a k r hG).1.symm
theorem ag_gf (hA : AG G h) (a k t : Nat) : gfA G h a k t = gfA G0 h a k t := by
  unfold gfA
  rw [ag_rdR hA]
theorem FR.wI {x : Int} (hw : G.2.2 a = true) : FR G h (wrI h a k x) := by
  refine ⟨Nat.le_refl _, fun b _ => ⟨rfl, fun hb j => ?_⟩⟩
  have : b ≠ a := fun e => by rw [e, hw] at hb; cases hb
  exact ⟨by rw [rdI_wrI, if_neg (fun q => this q.1)], rfl, rfl⟩
theorem FR.wL {x : Int64} (hw : G.2.2 a = true) : FR G h (wrL h a k x) := by
  refine ⟨Nat.le_refl _, fun b _ => ⟨rfl, fun hb j => ?_⟩⟩
  have : b ≠ a := fun e => by rw [e, hw] at hb; cases hb
  exact ⟨rfl, by rw [rdL_wrL, if_neg (fun q => this q.1)], rfl⟩
theorem FR.wR {x : Option Nat} (hw : G.2.2 a = true) : FR G h (wrR h a k x) := by
  refine ⟨Nat.le_refl _, fun b _ => ⟨rfl, fun hb j => ?_⟩⟩
  have : b ≠ a := fun e => by rw [e, hw] at hb; cases hb
  exact ⟨rfl, rfl, by rw [rdQ_wrR, if_neg (fun q => this q.1)]⟩
theorem FR.nw {K : Nat × Nat} : FR G h (hpA h K) := by
  refine ⟨Nat.le_succ _, fun b hb => ?_⟩
  have hne : b ≠ hpN h := by omega
  refine ⟨by simp [rdK, hpA, hne], fun _ j => ⟨by rw [rdI_hpA, if_neg hne], by rw [rdL_hpA, if_neg hne], by rw [rdQ_hpA, if_neg hne]⟩⟩
theorem AG.wR {x : Option Nat} (hA : AG G h) (hg : G.1 a k = none) : AG G (wrR h a k x) := by
  refine ⟨fun b j r hr => ⟨?_, (hA.1 b j r hr).2⟩, hA.2.1, hA.2.2⟩
  rw [rdQ_wrR, if_neg (fun q => by rw [q.1, q.2, hg] at hr; cases hr)]
  exact (hA.1 b j r hr).1
theorem AG.nw {K : Nat × Nat} (hA : AG G h) : AG G (hpA h K) := by
  refine ⟨fun b j r hr => ?_, fun b K' hK => ?_, hA.2.2⟩
  · obtain ⟨e1, e2⟩ := hA.1 b j r hr
    have hne : b ≠ hpN h := by omega
    exact ⟨by rw [rdQ_hpA, if_neg hne]; exact e1, by rw [hpN_hpA]; omega⟩
  · obtain ⟨e1, e2⟩ := hA.2.1 b K' hK
    have hne : b ≠ hpN h := by omega
    exact ⟨by simp [rdK, hpA, hne]; exact e1, by rw [hpN_hpA]; omega⟩
theorem g0w (hA : AG G h) (hw : G.2.2 a = true) : G0.2.2 a = true := decide_eq_true (hA.2.2 a hw)
theorem heap_dyn {nF : Nat → Nat} {i : Instr} {st st' : List AV} (hA : AG G h) (hp : heapOp nF G i st h = some (st', h')) : heapOp nF G0 i st h = some (st', h') ∧ AG G h' ∧ FR G h h' := by
  have g1 : ∀ a k, G0.1 a k = none := fun _ _ => rfl
  have g2 : ∀ a, G0.2.1 a = none := fun _ => rfl
  cases i <;> simp only [heapOp, reduceCtorEq] at hp ⊢
  case getfield c0 =>
    split at hp
    · rename_i a q
      rw [ag_knd hA] at hp
      split at hp
      · rename_i hc
        cases hp
        exact ⟨by rw [if_pos hc, ag_gf hA], hA, FR.refl⟩
      · cases hp
    · cases hp
  case putfield c0 =>
    split at hp
    · rename_i v a q
      rw [ag_knd hA] at hp
      split at hp
      · rename_i hc
        have hc0 : (knd G0 h a).1 = c0 / 1000 ∧ G0.2.2 a = true := ⟨hc.1, g0w hA hc.2⟩
        (try dsimp only)
        rw [if_pos hc0]
        split at hp
        · split at hp
          · rename_i hx; cases hp; exact ⟨by rw [if_pos hx], hA, FR.wI hc.2⟩
          · cases hp
        · split at hp
          · rename_i hx; cases hp; exact ⟨by rw [if_pos hx], hA, FR.wL hc.2⟩
          · cases hp
        · split at hp
          · rename_i hx; cases hp; exact ⟨by rw [if_pos ⟨hx.1, rfl⟩], hA.wR hx.2, FR.wR hc.2⟩
          · cases hp
        · cases hp
      · cases hp
    · cases hp
  case arraylength =>
    split at hp
    · rename_i a q
      rw [ag_knd hA] at hp
      split at hp
      · rename_i hc; cases hp; exact ⟨by rw [if_pos hc], hA, FR.refl⟩
      · cases hp
    · cases hp
  case iaload =>
    split at hp
    · rename_i j a q
      rw [ag_knd hA] at hp
      split at hp
      · rename_i hc; cases hp; exact ⟨by rw [if_pos hc], hA, FR.refl⟩
      · cases hp
    · cases hp
  case baload =>
    split at hp
    · rename_i j a q
      rw [ag_knd hA] at hp
      split at hp
      · rename_i hc; cases hp; exact ⟨by rw [if_pos hc], hA, FR.refl⟩
      · cases hp
    · cases hp
  case laload =>
    split at hp
    · rename_i j a q
      rw [ag_knd hA] at hp
      split at hp
      · rename_i hc; cases hp; exact ⟨by rw [if_pos hc], hA, FR.refl⟩
      · cases hp
    · cases hp
  case aaload =>
    split at hp
    · rename_i j a q
      rw [ag_knd hA, ag_rdR hA] at hp
      split at hp
      · rename_i hc; cases hp; exact ⟨by rw [if_pos hc], hA, FR.refl⟩
      · cases hp
    · cases hp
  case iastore =>
    split at hp
    · rename_i x j a q
      rw [ag_knd hA] at hp
      split at hp
      · rename_i hc; cases hp; exact ⟨by rw [if_pos ⟨hc.1, g0w hA hc.2.1, hc.2.2⟩], hA, FR.wI hc.2.1⟩
      · cases hp
    · cases hp
  case bastore =>
    split at hp
    · rename_i x j a q
      rw [ag_knd hA] at hp
      split at hp
      · rename_i hc
        (try dsimp only)
        rw [if_pos (⟨g0w hA hc.1, hc.2⟩ : G0.2.2 a = true ∧ inA j (knd G0 h a).2 = true)]
        split at hp
        · rename_i hb; cases hp; exact ⟨by rw [if_pos hb], hA, FR.wI hc.1⟩
        · rename_i hb
          split at hp
          · rename_i hz; cases hp; exact ⟨by rw [if_neg hb, if_pos hz], hA, FR.wI hc.1⟩
          · cases hp
      · cases hp
    · cases hp
  case lastore =>
    split at hp
    · rename_i x j a q
      rw [ag_knd hA] at hp
      split at hp
      · rename_i hc; cases hp; exact ⟨by rw [if_pos ⟨hc.1, g0w hA hc.2.1, hc.2.2⟩], hA, FR.wL hc.2.1⟩
      · cases hp
    · cases hp
  case aastore =>
    split at hp
    · rename_i y j a q
      rw [ag_knd hA, ag_knd hA] at hp
      split at hp
      · rename_i hc
        cases hp
        refine ⟨by rw [if_pos ⟨hc.1, hc.2.1, g0w hA hc.2.2.1, hc.2.2.2.1, rfl, hc.2.2.2.2.2⟩], hA.wR hc.2.2.2.2.1, FR.wR hc.2.2.1⟩
      · cases hp
    · cases hp
  case new c0 =>
    split at hp
    · rename_i hc; cases hp; exact ⟨by rw [if_pos ⟨rfl, hc.2⟩], hA.nw, FR.nw⟩
    · cases hp
  case newarray t =>
    split at hp
    · rename_i n q
      split at hp
      · rename_i sN hs
        split at hp
        · rename_i hc
          cases hp
          refine ⟨?_, hA.nw, FR.nw⟩
          (try dsimp only)
          (try rw [hs])
          (try dsimp only)
          rw [if_pos ⟨rfl, hc.2⟩]
        · cases hp
      · cases hp
    · cases hp
  case anewarray c0 =>
    split at hp
    · rename_i n q
      split at hp
      · rename_i hc; cases hp; exact ⟨by rw [if_pos ⟨rfl, hc.2⟩], hA.nw, FR.nw⟩
      · cases hp
    · cases hp
theorem inv_dyn {S : Sys} {i : Instr} {st : List AV} (hA : AG G h) : invA S G i st h = invA S G0 i st h := by
  have hr : ∀ (M : MInf) (as : List AV), rcvA G h M as = rcvA G0 h M as := by
    intro M as
    unfold rcvA
    split
    · rfl
    · split
      · rw [ag_knd hA]
      · rfl
  unfold invA
  split <;> simp only [hr]
theorem exec_dyn {S : Sys} : ∀ (n L mi : Nat) (is : List Instr) (ls st : List AV) (h : AH) (r : Option AV) (hF : AH), AG G h → exec S G n L mi is ls st h = some (r, hF) → exec S G0 n L mi is ls st h = some (r, hF) ∧ AG G hF ∧ FR G h hF := by
  intro n
  induction n with
  | zero => intro L mi is ls st h r hF _ hx; simp [exec] at hx
  | succ n ih =>
    intro L mi is ls st h r hF hA hx
    cases is with
    | nil => simp [exec] at hx
    | cons i is =>
      rw [exec_cons] at hx ⊢
      cases h1 : pureOp i st with
      | some st' => rw [h1] at hx; exact ih _ _ _ _ _ _ _ _ hA hx
      | none =>
        rw [h1] at hx
        dsimp only at hx ⊢
        cases h2 : locOp i ls st with
        | some q => rw [h2] at hx; exact ih _ _ _ _ _ _ _ _ hA hx
        | none =>
          rw [h2] at hx
          dsimp only at hx ⊢
          cases h3 : heapOp S.2.2 G i st h with
          | some q =>
            obtain ⟨st', h'⟩ := q
            rw [h3] at hx
            obtain ⟨e1, e2, e3⟩ := heap_dyn hA h3
            rw [e1]
            obtain ⟨f1, f2, f3⟩ := ih _ _ _ _ _ _ _ _ e2 hx
            exact ⟨f1, f2, e3.trans f3⟩
          | none =>
            rw [h3] at hx
            have h3' : jmpA i st ≠ none ∨ retA (S.1 mi).2.1 i st ≠ none ∨ invA S G i st h ≠ none → heapOp S.2.2 G0 i st h = none := by
              intro q
              cases i <;> simp only [heapOp, jmpA, retA, invA, ne_eq, not_true_eq_false, or_self] at q ⊢
            dsimp only at hx
            cases h4 : jmpA i st with
            | some q =>
              obtain ⟨t, st'⟩ := q
              rw [h4] at hx
              rw [h3' (Or.inl (by rw [h4]; simp))]
              cases t with
              | some t => exact ih _ _ _ _ _ _ _ _ hA hx
              | none => exact ih _ _ _ _ _ _ _ _ hA hx
            | none =>
              rw [h4] at hx
              dsimp only at hx ⊢
              cases h5 : retA (S.1 mi).2.1 i st with
              | some r' =>
                rw [h5] at hx
                rw [h3' (Or.inr (Or.inl (by rw [h5]; simp)))]
                cases hx
                exact ⟨rfl, hA, FR.refl⟩
              | none =>
                rw [h5] at hx
                dsimp only at hx ⊢
                rw [← inv_dyn hA]
                cases h6 : invA S G i st h with
                | none => rw [h6] at hx; simp at hx
                | some q =>
                  obtain ⟨k, as, rest⟩ := q
                  rw [h3' (Or.inr (Or.inr (by rw [h6]; simp)))]
                  cases L with
                  | zero => rw [h6] at hx; simp at hx
                  | succ L =>
                    rw [h6] at hx
                    dsimp only at hx ⊢
                    cases h7 : exec S G n L k (S.2.1 k 0) (lay0 (S.1 k).2.2.1 as) [] h with
                    | none => rw [h7] at hx; simp at hx
                    | some y =>
                      obtain ⟨r1, h1'⟩ := y
                      rw [h7] at hx
                      obtain ⟨e1, e2, e3⟩ := ih _ _ _ _ _ _ _ _ hA h7
                      rw [e1]
                      obtain ⟨f1, f2, f3⟩ := ih _ _ _ _ _ _ _ _ e2 hx
                      exact ⟨f1, f2, e3.trans f3⟩
/-- a call with fixed things is a call without -/
theorem Call_dyn {S : Sys} {L kk : Nat} {as : List AV} {Q : Option AV → AH → Prop} (hA : AG G h) (hc : Call S G L kk as h Q) : Call S G0 L kk as h (fun r g => Q r g ∧ AG G g ∧ FR G h g) := by
  obtain ⟨n, r, g, e, q⟩ := hc
  obtain ⟨e1, e2, e3⟩ := exec_dyn _ _ _ _ _ _ _ _ _ hA e
  exact ⟨n, r, g, e1, q, e2, e3⟩
end FD
