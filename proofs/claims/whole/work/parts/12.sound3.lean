/-! jumps, locals -/
section S3J
variable {p : Program} {l : Launch} {e : Env} {R : Room} {s : State} {m : MethodId} {args : Array Value} {below : List Frame} {meth : Method} {c : Code} {H : Heap} {locs : List Loc} {cells slots : Nat} {Q : State → Prop}
variable {cc : ByteArray} {pc o len : Nat} {ini : Bool} {lo : List Nat} {ls : Array Slot} {rest : List Value} {tr : Nat → Nat} {st st' : List AV} {i r : Instr}
theorem tgt_nat {pc : Nat} {off t : Int} (h : (pc : Int) + off = t) (h0 : 0 ≤ t) : (pc : Int) + off = (t.toNat : Int) := by omega
theorem sp_if (C : p.tables.exec = Jvm.exec ∧ c.code = cc) {q : ClassFile.Cond} {x off t : Int} (hx : inr x) (hd : decode cc pc = .ok (.ifCond q off, 3)) (ht : (pc : Int) + off = t) (h0 : 0 ≤ t)
    (kt : cmpA q x 0 = true → W p l e R s m args below meth c H locs cells slots Q (F0 m t.toNat ls rest)) (kf : ¬ cmpA q x 0 = true → W p l e R s m args below meth c H locs cells slots Q (F0 m (pc + 3) ls rest)) : W p l e R s m args below meth c H locs cells slots Q (F0 m pc ls (.int (Int32.ofInt x) :: rest)) := by
  have z : (0 : Int32) = Int32.ofInt 0 := rfl
  cases q <;> simp only [cmpA, decide_eq_true_eq] at kt kf
  case eq => exact lv_if_eq C.1 C.2 hd (tgt_nat ht h0) (fun h => kt ((oi_eq hx inr0).mp h)) (fun h => kf fun g => h ((oi_eq hx inr0).mpr g))
  case ne => exact lv_if_ne C.1 C.2 hd (tgt_nat ht h0) (fun h => kt fun g => h ((oi_eq hx inr0).mpr g)) (fun h => kf fun g => g ((oi_eq hx inr0).mp h))
  case lt => exact lv_if_lt C.1 C.2 hd (tgt_nat ht h0) (fun h => kt ((oi_lt hx inr0).mp h)) (fun h => kf fun g => h ((oi_lt hx inr0).mpr g))
  case ge => exact lv_if_ge C.1 C.2 hd (tgt_nat ht h0) (fun h => kt ((oi_le inr0 hx).mp h)) (fun h => kf fun g => h ((oi_le inr0 hx).mpr g))
  case gt => exact lv_if_gt C.1 C.2 hd (tgt_nat ht h0) (fun h => kt ((oi_lt inr0 hx).mp h)) (fun h => kf fun g => h ((oi_lt inr0 hx).mpr g))
  case le => exact lv_if_le C.1 C.2 hd (tgt_nat ht h0) (fun h => kt ((oi_le hx inr0).mp h)) (fun h => kf fun g => h ((oi_le hx inr0).mpr g))
theorem sp_icmp (C : p.tables.exec = Jvm.exec ∧ c.code = cc) {q : ClassFile.Cond} {x y off t : Int} (hx : inr x) (hy : inr y) (hd : decode cc pc = .ok (.if_icmp q off, 3)) (ht : (pc : Int) + off = t) (h0 : 0 ≤ t)
    (kt : cmpA q x y = true → W p l e R s m args below meth c H locs cells slots Q (F0 m t.toNat ls rest)) (kf : ¬ cmpA q x y = true → W p l e R s m args below meth c H locs cells slots Q (F0 m (pc + 3) ls rest)) : W p l e R s m args below meth c H locs cells slots Q (F0 m pc ls (.int (Int32.ofInt y) :: .int (Int32.ofInt x) :: rest)) := by
  cases q <;> simp only [cmpA, decide_eq_true_eq] at kt kf
  case eq => exact lv_icmp_eq C.1 C.2 hd (tgt_nat ht h0) (fun h => kt ((oi_eq hx hy).mp h)) (fun h => kf fun g => h ((oi_eq hx hy).mpr g))
  case ne => exact lv_icmp_ne C.1 C.2 hd (tgt_nat ht h0) (fun h => kt fun g => h ((oi_eq hx hy).mpr g)) (fun h => kf fun g => g ((oi_eq hx hy).mp h))
  case lt => exact lv_icmp_lt C.1 C.2 hd (tgt_nat ht h0) (fun h => kt ((oi_lt hx hy).mp h)) (fun h => kf fun g => h ((oi_lt hx hy).mpr g))
  case ge => exact lv_icmp_ge C.1 C.2 hd (tgt_nat ht h0) (fun h => kt ((oi_le hy hx).mp h)) (fun h => kf fun g => h ((oi_le hy hx).mpr g))
  case gt => exact lv_icmp_gt C.1 C.2 hd (tgt_nat ht h0) (fun h => kt ((oi_lt hy hx).mp h)) (fun h => kf fun g => h ((oi_lt hy hx).mpr g))
  case le => exact lv_icmp_le C.1 C.2 hd (tgt_nat ht h0) (fun h => kt ((oi_le hx hy).mp h)) (fun h => kf fun g => h ((oi_le hx hy).mpr g))
theorem sw_in (b : Int) : ∀ (l : List Int) (lo' d x : Int), lo' ≤ x → x < lo' + l.length → ∃ off, l[(x - lo').toNat]? = some off ∧ swA d lo' (l.map (fun z => b + z)) x = b + off
  | [], lo', d, x, h1, h2 => by simp at h2; omega
  | a :: l, lo', d, x, h1, h2 => by
    simp only [List.length_cons] at h2
    by_cases hx : x = lo'
    · subst hx
      exact ⟨a, by simp, by simp [swA]⟩
    · obtain ⟨off, e1, e2⟩ := sw_in b l (lo' + 1) d x (by omega) (by push_cast at h2; omega)
      refine ⟨off, ?_, ?_⟩
      · rw [show (x - lo').toNat = (x - (lo' + 1)).toNat + 1 by omega, List.getElem?_cons_succ]
        exact e1
      · simp only [List.map_cons, swA, if_neg hx]
        exact e2
theorem sw_out (b : Int) : ∀ (l : List Int) (lo' d x : Int), (x < lo' ∨ lo' + l.length ≤ x) → swA d lo' (l.map (fun z => b + z)) x = d
  | [], lo', d, x, h => rfl
  | a :: l, lo', d, x, h => by
    simp only [List.length_cons] at h
    push_cast at h
    simp only [List.map_cons, swA]
    rw [if_neg (by omega)]
    exact sw_out b l (lo' + 1) d x (by omega)
theorem lk_map (b : Int) : ∀ (l : List (Int × Int)) (d x : Int), lkA (b + d) (l.map (fun z => (z.1, b + z.2))) x = b + Op.lookupswitch.offset l d x
  | [], d, x => rfl
  | (a, o) :: l, d, x => by
    simp only [List.map_cons, lkA, Op.lookupswitch.offset_cons]
    by_cases h : x = a
    · rw [if_pos h, if_pos h.symm]
    · rw [if_neg h, if_neg (fun g => h g.symm)]
      exact lk_map b l d x
theorem sw_nn : ∀ (l : List Int) (lo' d x : Int), 0 ≤ d → l.all (fun z => decide (0 ≤ z)) = true → 0 ≤ swA d lo' l x
  | [], lo', d, x, h, _ => h
  | a :: l, lo', d, x, h, g => by
    simp only [List.all_cons, Bool.and_eq_true, decide_eq_true_eq] at g
    simp only [swA]
    split
    · exact g.1
    · exact sw_nn l (lo' + 1) d x h g.2
theorem lk_nn : ∀ (l : List (Int × Int)) (d x : Int), 0 ≤ d → l.all (fun z => decide (0 ≤ z.2)) = true → 0 ≤ lkA d l x
  | [], d, x, h, _ => h
  | a :: l, d, x, h, g => by
    simp only [List.all_cons, Bool.and_eq_true, decide_eq_true_eq] at g
    simp only [lkA]
    split
    · exact g.1
    · exact lk_nn l d x h g.2
theorem sp_jmp (C : p.tables.exec = Jvm.exec ∧ c.code = cc) (hn : NS st) {t : Option Nat} (hj : jmpA i st = some (t, st')) (hc : chk1 o ini lo pc r len i = true) (hd : decode cc pc = .ok (r, len))
    (kt : ∀ t', t = some t' → W p l e R s m args below meth c H locs cells slots Q (F0 m t' ls (st'.map (tvA tr)))) (kn : t = none → W p l e R s m args below meth c H locs cells slots Q (F0 m (pc + len) ls (st'.map (tvA tr)))) : W p l e R s m args below meth c H locs cells slots Q (F0 m pc ls (st.map (tvA tr))) := by
  cases i <;> simp only [jmpA, reduceCtorEq] at hj <;> unfold chk1 at hc <;> dsimp only at hc
  case goto t0 =>
    cases hj
    split at hc <;> simp only [Bool.and_eq_true, decide_eq_true_eq, Bool.false_eq_true] at hc
    obtain ⟨rfl, h1, h2⟩ := hc
    exact lv_goto C.1 C.2 hd (tgt_nat h1 h2) (kt _ rfl)
  case goto_w t0 => cases hc
  case ifCond q t0 =>
    split at hj
    · cases hj
      split at hc <;> simp only [Bool.and_eq_true, decide_eq_true_eq, Bool.false_eq_true] at hc
      obtain ⟨rfl, rfl, h1, h2⟩ := hc
      exact sp_if C hn.hd hd h1 h2 (fun h => kt _ (if_pos h)) (fun h => kn (if_neg h))
    · cases hj
  case if_icmp q t0 =>
    split at hj
    · cases hj
      split at hc <;> simp only [Bool.and_eq_true, decide_eq_true_eq, Bool.false_eq_true] at hc
      obtain ⟨rfl, rfl, h1, h2⟩ := hc
      exact sp_icmp C hn.tl.hd hn.hd hd h1 h2 (fun h => kt _ (if_pos h)) (fun h => kn (if_neg h))
    · cases hj
  case ifnull t0 =>
    split at hc <;> simp only [Bool.and_eq_true, decide_eq_true_eq, Bool.false_eq_true] at hc
    obtain ⟨rfl, h1, h2⟩ := hc
    split at hj
    · cases hj; exact lv_ifnullN C.1 C.2 hd (tgt_nat h1 h2) (kt _ rfl)
    · cases hj; exact lv_ifnull C.1 C.2 hd (kn rfl)
    · cases hj
  case ifnonnull t0 =>
    split at hc <;> simp only [Bool.and_eq_true, decide_eq_true_eq, Bool.false_eq_true] at hc
    obtain ⟨rfl, h1, h2⟩ := hc
    split at hj
    · cases hj; exact lv_ifnonnullN C.1 C.2 hd (kn rfl)
    · cases hj; exact lv_ifnonnull C.1 C.2 hd (tgt_nat h1 h2) (kt _ rfl)
    · cases hj
  case tableswitch d lo' hi os =>
    split at hj
    · rename_i x q
      cases hj
      split at hc <;> simp only [Bool.and_eq_true, decide_eq_true_eq, Bool.false_eq_true] at hc
      rename_i d' lo2 hi2 os'
      obtain ⟨h1, h2, h3, h4, h5, h6⟩ := hc
      subst h1
      have hx : (Int32.ofInt x).toInt = x := to_oi hn.hd
      by_cases hin : lo2 ≤ x ∧ x < lo2 + os'.toList.length
      · obtain ⟨off, e1, e2⟩ := sw_in (pc : Int) os'.toList lo2 d x hin.1 hin.2
        have e3 : (pc : Int) + off = ((swA d lo2 os.toList x).toNat : Int) := by
          have := sw_nn os.toList lo2 d x h5 h6
          rw [h4] at this ⊢
          rw [e2] at this ⊢
          omega
        exact lv_tableIn C.1 C.2 hd (by rw [hx]; omega) (by rw [hx]; omega) (by rw [hx, ← Array.getElem?_toList]; exact e1) e3 (kt _ rfl)
      · have e2 := sw_out (pc : Int) os'.toList lo2 d x (by omega)
        have e3 : (pc : Int) + d' = ((swA d lo2 os.toList x).toNat : Int) := by
          rw [h4, e2]
          omega
        exact lv_tableOut C.1 C.2 hd (by rw [hx]; omega) e3 (kt _ rfl)
    · cases hj
  case lookupswitch d ps =>
    split at hj
    · rename_i x q
      cases hj
      split at hc <;> simp only [Bool.and_eq_true, decide_eq_true_eq, Bool.false_eq_true] at hc
      rename_i d' ps'
      obtain ⟨h1, h2, h3, h4, h5⟩ := hc
      have hx : (Int32.ofInt x).toInt = x := to_oi hn.hd
      have e3 : (pc : Int) + Op.lookupswitch.offset ps'.toList d' x = ((lkA d ps.toList x).toNat : Int) := by
        have := lk_nn ps.toList d x h4 h5
        rw [h3, ← h2, lk_map] at this ⊢
        omega
      exact lv_lookup C.1 C.2 hd h1 (by rw [hx]) e3 (kt _ rfl)
    · cases hj
theorem ns_jmp {t : Option Nat} (hn : NS st) (hj : jmpA i st = some (t, st')) : NS st' := by
  cases i <;> simp only [jmpA, reduceCtorEq] at hj
  all_goals (repeat' split at hj) <;> first
    | (cases hj; first | exact hn | exact hn.tl | exact hn.tl.tl)
    | cases hj
end S3J
/-! locals -/
def isU : AV → Bool
  | .inr (.inr (.inr _)) => true
  | _ => false
def lvL (tr : Nat → Nat) (ls : List AV) : List (Nat × Value) := (List.range ls.length).filterMap (fun i => match ls[i]? with
  | some v => if isU v = true then none else some (i, tvA tr v)
  | none => none)
theorem lvL_mem {tr : Nat → Nat} {ls : List AV} {q : Nat × Value} : q ∈ lvL tr ls ↔ ∃ v, ls[q.1]? = some v ∧ isU v = false ∧ q.2 = tvA tr v := by
  unfold lvL
  rw [List.mem_filterMap]
  constructor
  · rintro ⟨i, -, h⟩
    cases hv : ls[i]? with
    | none => rw [hv] at h; cases h
    | some v =>
      rw [hv] at h
      dsimp only at h
      by_cases hu : isU v = true
      · rw [if_pos hu] at h; cases h
      · rw [if_neg hu] at h
        cases h
        exact ⟨v, hv, by simpa using hu, rfl⟩
  · rintro ⟨v, h1, h2, h3⟩
    refine ⟨q.1, List.mem_range.mpr (List.getElem?_eq_some_iff.mp h1).1, ?_⟩
    rw [h1]
    simp [h2, ← h3]
/-- the real locals hold mine; longs stand where the method's list of longs says, and nothing of mine stands behind them -/
def LR (tr : Nat → Nat) (lo : List Nat) (nL : Nat) (rl : Array Slot) (ls : List AV) : Prop := ls.length = nL ∧ lv_has rl nL (lvL tr ls) ∧ (∀ (j : Nat) (u : Int64), ls[j]? = some (vL u) → lo.contains j = true) ∧ (∀ j : Nat, lo.contains j = true → ∀ v, ls[j + 1]? = some v → isU v = true) ∧ NS ls
theorem LR.at {tr : Nat → Nat} {lo : List Nat} {nL : Nat} {rl : Array Slot} {ls : List AV} (h : LR tr lo nL rl ls) {k : Nat} {v : AV} (hv : ls[k]? = some v) (hu : isU v = false) : rl[k]? = some (.val (tvA tr v)) := h.2.1.2.2 (k, tvA tr v) (lvL_mem.mpr ⟨v, hv, hu, rfl⟩)
theorem LR.set1 {tr : Nat → Nat} {lo : List Nat} {nL : Nat} {rl rl' : Array Slot} {ls : List AV} (h : LR tr lo nL rl ls) {k : Nat} {v : AV} (hk : k < nL) (hc : catA v = 1) (hlo : lo.contains k = false) (hlo1 : k = 0 ∨ lo.contains (k - 1) = false) (hnv : ∀ x, v = Sum.inl x → inr x)
    (h' : lv_has rl' nL ((k, tvA tr v) :: (lvL tr ls).filter (fun q => !(q.1 == k) && !(q.1 + 1 == k && q.2.category == 2)))) : LR tr lo nL rl' (ls.set k v) := by
  obtain ⟨h1, h2, h3, h4, h5⟩ := h
  have key : ∀ (j : Nat) (w : AV), (ls.set k v)[j]? = some w → (j = k ∧ w = v) ∨ (j ≠ k ∧ ls[j]? = some w) := by
    intro j w hj
    by_cases e : j = k
    · subst e
      rw [List.getElem?_set_self (by omega)] at hj
      cases hj
      exact Or.inl ⟨rfl, rfl⟩
    · rw [List.getElem?_set_ne (Ne.symm e)] at hj
      exact Or.inr ⟨e, hj⟩
  refine ⟨by simpa using h1, ⟨h'.1, h'.2.1, fun q hq => ?_⟩, fun j u hj => ?_, fun j hj w hw => ?_, fun x hx => ?_⟩
  · obtain ⟨w, g1, g2, g3⟩ := lvL_mem.mp hq
    apply h'.2.2
    rcases key _ _ g1 with ⟨e1, e2⟩ | ⟨e1, e2⟩
    · refine List.mem_cons.mpr (Or.inl ?_)
      obtain ⟨q1, q2⟩ := q
      dsimp only at e1 g3
      rw [e1, g3, e2]
    · refine List.mem_cons_of_mem _ (List.mem_filter.mpr ⟨lvL_mem.mpr ⟨w, e2, g2, g3⟩, ?_⟩)
      simp only [Bool.and_eq_true, Bool.not_eq_true', beq_eq_false_iff_ne, ne_eq, Bool.and_eq_false_iff]
      refine ⟨e1, ?_⟩
      by_cases g : q.1 + 1 = k
      · right
        rw [g3, tvA_cat]
        intro g4
        have : ∃ u, w = vL u := by
          rcases w with x | x | (_ | x) | x
          · cases g4
          · exact ⟨x, rfl⟩
          · cases g4
          · cases g4
          · cases g4
        obtain ⟨u, rfl⟩ := this
        have h6 := h3 _ _ e2
        rcases hlo1 with h7 | h7
        · omega
        · rw [show k - 1 = q.1 by omega, h6] at h7
          cases h7
      · left
        exact g
  · rcases key _ _ hj with ⟨e1, e2⟩ | ⟨e1, e2⟩
    · rw [← e2] at hc; cases hc
    · exact h3 j u e2
  · rcases key _ _ hw with ⟨e1, e2⟩ | ⟨e1, e2⟩
    · rcases hlo1 with h7 | h7
      · omega
      · rw [show k - 1 = j by omega, hj] at h7
        cases h7
    · exact h4 j hj w e2
  · obtain ⟨j, hj⟩ := List.getElem?_of_mem hx
    rcases key _ _ hj with ⟨e1, e2⟩ | ⟨e1, e2⟩
    · exact hnv x e2.symm
    · exact h5 x (List.mem_of_getElem? e2)
theorem LR.set2 {tr : Nat → Nat} {lo : List Nat} {nL : Nat} {rl rl' : Array Slot} {ls : List AV} (h : LR tr lo nL rl ls) {k : Nat} {u : Int64} (hk : k + 1 < nL) (hlo : lo.contains k = true) (hlo1 : k = 0 ∨ lo.contains (k - 1) = false)
    (h' : lv_has rl' nL ((k, Value.long u) :: (lvL tr ls).filter (fun q => !(q.1 == k) && (!(q.1 == k + 1) && !(q.1 + 1 == k && q.2.category == 2))))) : LR tr lo nL rl' (ls.set k (vL u)) := by
  obtain ⟨h1, h2, h3, h4, h5⟩ := h
  have key : ∀ (j : Nat) (w : AV), (ls.set k (vL u))[j]? = some w → (j = k ∧ w = vL u) ∨ (j ≠ k ∧ ls[j]? = some w) := by
    intro j w hj
    by_cases e : j = k
    · subst e
      rw [List.getElem?_set_self (by omega)] at hj
      cases hj
      exact Or.inl ⟨rfl, rfl⟩
    · rw [List.getElem?_set_ne (Ne.symm e)] at hj
      exact Or.inr ⟨e, hj⟩
  refine ⟨by simpa using h1, ⟨h'.1, h'.2.1, fun q hq => ?_⟩, fun j u' hj => ?_, fun j hj w hw => ?_, fun x hx => ?_⟩
  · obtain ⟨w, g1, g2, g3⟩ := lvL_mem.mp hq
    apply h'.2.2
    rcases key _ _ g1 with ⟨e1, e2⟩ | ⟨e1, e2⟩
    · refine List.mem_cons.mpr (Or.inl ?_)
      obtain ⟨q1, q2⟩ := q
      dsimp only at e1 g3
      rw [e1, g3, e2]
      rfl
    · refine List.mem_cons_of_mem _ (List.mem_filter.mpr ⟨lvL_mem.mpr ⟨w, e2, g2, g3⟩, ?_⟩)
      simp only [Bool.and_eq_true, Bool.not_eq_true', beq_eq_false_iff_ne, ne_eq, Bool.and_eq_false_iff]
      refine ⟨e1, ?_, ?_⟩
      · intro g
        have h6 := h4 k hlo w (by rw [← g]; exact e2)
        rw [h6] at g2
        cases g2
      by_cases g : q.1 + 1 = k
      · right
        rw [g3, tvA_cat]
        intro g4
        have : ∃ u, w = vL u := by
          rcases w with x | x | (_ | x) | x
          · cases g4
          · exact ⟨x, rfl⟩
          · cases g4
          · cases g4
          · cases g4
        obtain ⟨u2, rfl⟩ := this
        have h6 := h3 _ _ e2
        rcases hlo1 with h7 | h7
        · omega
        · rw [show k - 1 = q.1 by omega, h6] at h7
          cases h7
      · left
        exact g
  · rcases key _ _ hj with ⟨e1, e2⟩ | ⟨e1, e2⟩
    · rw [e1]; exact hlo
    · exact h3 j u' e2
  · rcases key _ _ hw with ⟨e1, e2⟩ | ⟨e1, e2⟩
    · rcases hlo1 with h7 | h7
      · omega
      · rw [show k - 1 = j by omega, hj] at h7
        cases h7
    · exact h4 j hj w e2
  · obtain ⟨j, hj⟩ := List.getElem?_of_mem hx
    rcases key _ _ hj with ⟨e1, e2⟩ | ⟨e1, e2⟩
    · cases e2
    · exact h5 x (List.mem_of_getElem? e2)
section S3L'
variable {p : Program} {l : Launch} {e : Env} {R : Room} {s : State} {m : MethodId} {args : Array Value} {below : List Frame} {meth : Method} {c : Code} {H : Heap} {locs : List Loc} {cells slots : Nat} {Q : State → Prop}
variable {cc : ByteArray} {pc o len nL : Nat} {ini : Bool} {lo : List Nat} {rl : Array Slot} {tr : Nat → Nat} {ls ls' st st' : List AV} {i r : Instr}
theorem sp_loc (C : p.tables.exec = Jvm.exec ∧ c.code = cc) (hL : LR tr lo nL rl ls) (hn : NS st) (hp : locOp i ls st = some (ls', st')) (hlen : ls'.length = nL) (hc : chk1 o ini lo pc r len i = true) (hd : decode cc pc = .ok (r, len))
    (k : ∀ rl' : Array Slot, LR tr lo nL rl' ls' → NS st' → W p l e R s m args below meth c H locs cells slots Q (F0 m (pc + len) rl' (st'.map (tvA tr)))) (hlt : okN nL i = true) : W p l e R s m args below meth c H locs cells slots Q (F0 m pc rl (st.map (tvA tr))) := by
  cases i <;> simp only [locOp, reduceCtorEq] at hp <;> unfold chk1 at hc <;> dsimp only at hc
  case iload j =>
    split at hp
    · rename_i x hx
      cases hp
      have hr := hL.at hx rfl
      have k := k rl hL (NS.ci (hL.2.2.2.2 x (List.mem_of_getElem? hx)) hn)
      split at hc <;> simp only [Bool.and_eq_true, decide_eq_true_eq, Bool.false_eq_true] at hc
      · obtain ⟨rfl, rfl⟩ := hc; exact lv_iload C.1 C.2 hd hr k
      · obtain ⟨rfl, h1⟩ := hc; exact lv_iload_n C.1 C.2 hd h1 hr k
    · cases hp
  case lload j =>
    split at hp
    · rename_i x hx
      cases hp
      have hr := hL.at hx rfl
      have k := k rl hL (NS.cv (by simp) hn)
      split at hc <;> simp only [Bool.and_eq_true, decide_eq_true_eq, Bool.false_eq_true] at hc
      · obtain ⟨rfl, rfl⟩ := hc; exact lv_lload C.1 C.2 hd hr k
      · obtain ⟨rfl, h1⟩ := hc; exact lv_lload_n C.1 C.2 hd h1 hr k
    · cases hp
  case aload j =>
    split at hp
    · rename_i x hx
      cases hp
      have hr := hL.at hx rfl
      have k := k rl hL (NS.cv (by simp) hn)
      cases x with
      | none =>
        split at hc <;> simp only [Bool.and_eq_true, decide_eq_true_eq, Bool.false_eq_true] at hc
        · obtain ⟨rfl, rfl⟩ := hc; exact lv_aloadN C.1 C.2 hd hr k
        · obtain ⟨rfl, h1⟩ := hc; exact lv_aload_nN C.1 C.2 hd h1 hr k
      | some a =>
        split at hc <;> simp only [Bool.and_eq_true, decide_eq_true_eq, Bool.false_eq_true] at hc
        · obtain ⟨rfl, rfl⟩ := hc; exact lv_aload C.1 C.2 hd hr k
        · obtain ⟨rfl, h1⟩ := hc; exact lv_aload_n C.1 C.2 hd h1 hr k
    · cases hp
  case istore j =>
    split at hp
    · rename_i x q
      cases hp
      simp only [Bool.and_eq_true, Bool.not_eq_true', Bool.or_eq_true, beq_iff_eq] at hc
      obtain ⟨h1, h2, hc⟩ := hc
      have hj : j < nL := of_decide_eq_true hlt
      have kk : ∀ rl' : Array Slot, lv_has rl' nL ((j, Value.int (Int32.ofInt x)) :: (lvL tr ls).filter (fun q => !(q.1 == j) && !(q.1 + 1 == j && q.2.category == 2))) → W p l e R s m args below meth c H locs cells slots Q (F0 m (pc + len) rl' (st'.map (tvA tr))) := fun rl' h' => k rl' (hL.set1 (v := vI x) hj rfl h1 h2 (fun y e => by cases e; exact hn.hd) h') hn.tl
      split at hc <;> simp only [Bool.and_eq_true, decide_eq_true_eq, Bool.false_eq_true] at hc
      · obtain ⟨rfl, rfl⟩ := hc; exact lv_istore C.1 C.2 hd hL.2.1 hj rfl kk
      · obtain ⟨rfl, h3⟩ := hc; exact lv_istore_n C.1 C.2 hd h3 hL.2.1 hj rfl kk
    · cases hp
  case astore j =>
    split at hp
    · rename_i x q
      cases hp
      simp only [Bool.and_eq_true, Bool.not_eq_true', Bool.or_eq_true, beq_iff_eq] at hc
      obtain ⟨h1, h2, hc⟩ := hc
      have hj : j < nL := of_decide_eq_true hlt
      have kk : ∀ rl' : Array Slot, lv_has rl' nL ((j, tvA tr (vR x)) :: (lvL tr ls).filter (fun q => !(q.1 == j) && !(q.1 + 1 == j && q.2.category == 2))) → W p l e R s m args below meth c H locs cells slots Q (F0 m (pc + len) rl' (st'.map (tvA tr))) := fun rl' h' => k rl' (hL.set1 (v := vR x) hj rfl h1 h2 (fun y e => by cases e) h') hn.tl
      cases x with
      | none =>
        split at hc <;> simp only [Bool.and_eq_true, decide_eq_true_eq, Bool.false_eq_true] at hc
        · obtain ⟨rfl, rfl⟩ := hc; exact lv_astoreN C.1 C.2 hd hL.2.1 hj rfl kk
        · obtain ⟨rfl, h3⟩ := hc; exact lv_astore_nN C.1 C.2 hd h3 hL.2.1 hj rfl kk
      | some a =>
        split at hc <;> simp only [Bool.and_eq_true, decide_eq_true_eq, Bool.false_eq_true] at hc
        · obtain ⟨rfl, rfl⟩ := hc; exact lv_astore C.1 C.2 hd hL.2.1 hj rfl kk
        · obtain ⟨rfl, h3⟩ := hc; exact lv_astore_n C.1 C.2 hd h3 hL.2.1 hj rfl kk
    · cases hp
  case lstore j =>
    split at hp
    · rename_i x q
      cases hp
      simp only [Bool.and_eq_true, Bool.not_eq_true', Bool.or_eq_true, beq_iff_eq] at hc
      obtain ⟨h1, h2, h3, hc⟩ := hc
      have hj : j + 1 < nL := of_decide_eq_true hlt
      have kk : ∀ rl' : Array Slot, lv_has rl' nL ((j, Value.long x) :: (lvL tr ls).filter (fun q => !(q.1 == j) && (!(q.1 == j + 1) && !(q.1 + 1 == j && q.2.category == 2)))) → W p l e R s m args below meth c H locs cells slots Q (F0 m (pc + len) rl' (st'.map (tvA tr))) := fun rl' h' => k rl' (hL.set2 hj h1 h3 h') hn.tl
      split at hc <;> simp only [Bool.and_eq_true, decide_eq_true_eq, Bool.false_eq_true] at hc
      · obtain ⟨rfl, rfl⟩ := hc; exact lv_lstore C.1 C.2 hd hL.2.1 hj rfl kk
      · obtain ⟨rfl, h4⟩ := hc; exact lv_lstore_n C.1 C.2 hd h4 hL.2.1 hj rfl kk
    · cases hp
  case iinc j n =>
    split at hp
    · rename_i x hx
      cases hp
      simp only [Bool.and_eq_true, Bool.not_eq_true', Bool.or_eq_true, beq_iff_eq, decide_eq_true_eq] at hc
      obtain ⟨h1, h2, rfl, rfl⟩ := hc
      have hj : j < nL := of_decide_eq_true hlt
      obtain ⟨q0, hq0⟩ := List.getElem?_of_mem (lvL_mem (tr := tr) (ls := ls) (q := (j, Value.int (Int32.ofInt x))).mpr ⟨vI x, hx, rfl, rfl⟩)
      refine lv_iinc C.1 C.2 hd hL.2.1 hq0 (v := Int32.ofInt (w32 (x + n))) (by rw [oi_w32, Int32.ofInt_add]) hj rfl (fun rl' h' => k rl' (hL.set1 (v := vI (w32 (x + n))) hj rfl h1 h2 (fun y e => by cases e; exact inr_to _) h') hn)
    · cases hp
end S3L'
