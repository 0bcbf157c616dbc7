/-! MY MACHINE IS THE REAL ONE: whatever it comes to, the real one comes to -/
theorem heapOp_grow {G : GB} {i : Instr} {st st' : List AV} {h h' : AH} (hp : heapOp sysS.2.2 G i st h = some (st', h')) : hpN h ≤ hpN h' ∧ hpS h ≤ hpS h' := by
  cases i <;> simp only [heapOp, reduceCtorEq] at hp
  all_goals (repeat' split at hp) <;> first
    | (cases hp; first | exact ⟨Nat.le_refl _, Nat.le_refl _⟩ | exact ⟨Nat.le_succ _, Nat.le_add_right _ _⟩)
    | cases hp
theorem exec_grow {G : GB} : ∀ (n L mi : Nat) (is : List Instr) (ls st : List AV) (h : AH) (r : Option AV) (hF : AH), exec sysS G n L mi is ls st h = some (r, hF) → hpN h ≤ hpN hF ∧ hpS h ≤ hpS hF := by
  intro n
  induction n with
  | zero => intro L mi is ls st h r hF hx; simp [exec] at hx
  | succ n ih =>
    intro L mi is ls st h r hF hx
    cases is with
    | nil => simp [exec] at hx
    | cons i is =>
      rw [exec_cons] at hx
      cases h1 : pureOp i st with
      | some st' => rw [h1] at hx; exact ih _ _ _ _ _ _ _ _ hx
      | none =>
        rw [h1] at hx
        dsimp only at hx
        cases h2 : locOp i ls st with
        | some q => rw [h2] at hx; exact ih _ _ _ _ _ _ _ _ hx
        | none =>
          rw [h2] at hx
          dsimp only at hx
          cases h3 : heapOp sysS.2.2 G i st h with
          | some q =>
            rw [h3] at hx
            have g1 := heapOp_grow h3
            have g2 := ih _ _ _ _ _ _ _ _ hx
            exact ⟨Nat.le_trans g1.1 g2.1, Nat.le_trans g1.2 g2.2⟩
          | none =>
            rw [h3] at hx
            dsimp only at hx
            cases h4 : jmpA i st with
            | some q =>
              obtain ⟨t, st'⟩ := q
              rw [h4] at hx
              cases t with
              | some t => exact ih _ _ _ _ _ _ _ _ hx
              | none => exact ih _ _ _ _ _ _ _ _ hx
            | none =>
              rw [h4] at hx
              dsimp only at hx
              cases h5 : retA (sysS.1 mi).2.1 i st with
              | some r' => rw [h5] at hx; cases hx; exact ⟨Nat.le_refl _, Nat.le_refl _⟩
              | none =>
                rw [h5] at hx
                dsimp only at hx
                cases h6 : invA sysS G i st h with
                | none => rw [h6] at hx; simp at hx
                | some q =>
                  obtain ⟨k, as, rest⟩ := q
                  cases L with
                  | zero => rw [h6] at hx; simp at hx
                  | succ L =>
                    rw [h6] at hx
                    dsimp only at hx
                    cases h7 : exec sysS G n L k (sysS.2.1 k 0) (lay0 (sysS.1 k).2.2.1 as) [] h with
                    | none => rw [h7] at hx; simp at hx
                    | some y =>
                      rw [h7] at hx
                      have g1 := ih _ _ _ _ _ _ _ _ h7
                      have g2 := ih _ _ _ _ _ _ _ _ hx
                      exact ⟨Nat.le_trans g1.1 g2.1, Nat.le_trans g1.2 g2.2⟩
theorem popA_spec : ∀ (ts : List Nat) (acc st as r : List AV), popA ts acc st = some (as, r) → ∃ xs, st = xs ++ r ∧ as = xs.reverse ++ acc ∧ xs.map tyA = ts
  | [], acc, st, as, r, h => by cases h; exact ⟨[], rfl, rfl, rfl⟩
  | t :: ts, acc, [], as, r, h => by simp [popA] at h
  | t :: ts, acc, v :: st, as, r, h => by
    simp only [popA] at h
    split at h
    · rename_i hv
      obtain ⟨xs, e1, e2, e3⟩ := popA_spec ts (v :: acc) st as r h
      exact ⟨v :: xs, by rw [e1]; rfl, by rw [e2]; simp, by simp [hv, e3]⟩
    · cases h
theorem retA_spec {t : Nat} {i : Instr} {st : List AV} {r : Option AV} (h : retA t i st = some r) : st = opt2 r [] := by
  cases i <;> simp only [retA, reduceCtorEq] at h
  all_goals (repeat' split at h) <;> first
    | (cases h; rfl)
    | cases h
/-- the locals at a method's entry -/
def layS : List Nat → List Nat
  | [] => []
  | 1 :: l => 1 :: 9 :: layS l
  | t :: l => t :: layS l
def layOK (mi : Nat) : Bool := decide ((layS (mtb mi).1.reverse).length ≤ (mtb mi).2.2.1) && ((List.range (layS (mtb mi).1.reverse).length).all (fun j => !decide ((layS (mtb mi).1.reverse)[j]? = some 1) || (los mi).contains j) && ((los mi).all (fun j => decide ((layS (mtb mi).1.reverse)[j + 1]? = some 9) || decide ((layS (mtb mi).1.reverse)[j + 1]? = none)) && decide ((mtb mi).2.2.1 ≤ 20)))
theorem lay_ok : ∀ mi, mi < nM → layOK mi = true := by decide +kernel
theorem lay_sorts : ∀ as : List AV, (∀ v ∈ as, tyA v < 9) → (lay as).map tyA = layS (as.map tyA)
  | [], _ => rfl
  | v :: as, h => by
    have ih := lay_sorts as (fun w hw => h w (List.mem_cons_of_mem _ hw))
    rcases v with x | x | x | x
    · simp only [lay, List.map_cons, tyA, layS, ih]
    · simp only [lay, List.map_cons, tyA, layS, ih]
    · simp only [lay, List.map_cons, tyA, layS, ih]
    · have := h _ List.mem_cons_self; simp [tyA] at this
theorem lay_args (tr : Nat → Nat) : ∀ (as : List AV) (k i : Nat) (v : AV), (lay as)[i]? = some v → isU v = false → (k + i, tvA tr v) ∈ lv_args k (as.map (tvA tr))
  | [], k, i, v, h, _ => by simp [lay] at h
  | w :: as, k, i, v, h, hu => by
    have two : ∀ x : Int64, (∀ (k i : Nat) (v : AV), (lay as)[i]? = some v → isU v = false → (k + i, tvA tr v) ∈ lv_args k (as.map (tvA tr))) → (vL x :: vU :: lay as)[i]? = some v → (k + i, tvA tr v) ∈ lv_args k ((vL x :: as).map (tvA tr)) := by
      intro x ih h
      match i, h with
      | 0, h => cases h; exact List.mem_cons_self
      | 1, h => cases h; cases hu
      | j + 2, h =>
        have := ih (k + 2) j v h hu
        rw [show k + (j + 2) = k + 2 + j by omega]
        exact List.mem_cons_of_mem _ this
    have one : catA w = 1 → (∀ (k i : Nat) (v : AV), (lay as)[i]? = some v → isU v = false → (k + i, tvA tr v) ∈ lv_args k (as.map (tvA tr))) → (w :: lay as)[i]? = some v → (k + i, tvA tr v) ∈ lv_args k ((w :: as).map (tvA tr)) := by
      intro hc ih h
      match i, h with
      | 0, h => cases h; exact List.mem_cons_self
      | j + 1, h =>
        have := ih (k + 1) j v h hu
        rw [show k + (j + 1) = k + 1 + j by omega]
        refine List.mem_cons_of_mem _ ?_
        show _ ∈ lv_args (if (tvA tr w).category = 2 then k + 2 else k + 1) _
        rw [tvA_cat, hc, if_neg (by decide)]
        exact this
    have ih := fun k i v => lay_args tr as k i v
    rcases w with x | x | x | x
    · exact one rfl ih h
    · exact two x ih h
    · exact one rfl ih h
    · exact one rfl ih h
theorem lay_len (tr : Nat → Nat) : ∀ as : List AV, (lg_sl (as.map (tvA tr))).length = (lay as).length
  | [] => rfl
  | w :: as => by
    have ih := lay_len tr as
    have hc : lg_sl ((w :: as).map (tvA tr)) = (if (tvA tr w).category = 2 then [Slot.val (tvA tr w), Slot.second] else [Slot.val (tvA tr w)]) ++ lg_sl (as.map (tvA tr)) := by
      simp only [lg_sl, List.map_cons, List.flatMap_cons]
    rw [hc, List.length_append, ih, tvA_cat]
    rcases w with x | x | (_ | x) | x <;> simp [lay, catA] <;> omega
theorem LR_entry {tr : Nat → Nat} {mi : Nat} {as : List AV} (hm : mi < nM) (hty : as.map tyA = (mtb mi).1.reverse) (h9 : ∀ v ∈ as, tyA v < 9) (hn : NS as) : (lg_sl (as.map (tvA tr))).length ≤ (mtb mi).2.2.1 ∧ LR tr (los mi) (mtb mi).2.2.1 ((lg_sl (as.map (tvA tr)) ++ List.replicate ((mtb mi).2.2.1 - (lg_sl (as.map (tvA tr))).length) Slot.unset).toArray) (lay0 (mtb mi).2.2.1 as) := by
  have hok := lay_ok mi hm
  unfold layOK at hok
  simp only [Bool.and_eq_true, decide_eq_true_eq, List.all_eq_true, Bool.or_eq_true, Bool.not_eq_true', decide_eq_false_iff_not] at hok
  obtain ⟨k1, k2, k3, k4⟩ := hok
  have hs : (lay as).map tyA = layS (mtb mi).1.reverse := by rw [lay_sorts as h9, hty]
  have hl : (lay as).length = (layS (mtb mi).1.reverse).length := by rw [← hs, List.length_map]
  have hlen : (lg_sl (as.map (tvA tr))).length ≤ (mtb mi).2.2.1 := by rw [lay_len, hl]; exact k1
  have hget : ∀ (j : Nat) (v : AV), (lay0 (mtb mi).2.2.1 as)[j]? = some v → (lay as)[j]? = some v ∨ ((lay as).length ≤ j ∧ v = vU) := by
    intro j v hj
    unfold lay0 at hj
    by_cases e : j < (lay as).length
    · rw [List.getElem?_append_left e] at hj; exact Or.inl hj
    · rw [List.getElem?_append_right (by omega)] at hj
      have := List.mem_of_getElem? hj
      exact Or.inr ⟨by omega, List.eq_of_mem_replicate this⟩
  have hsrt : ∀ (j : Nat) (v : AV), (lay as)[j]? = some v → (layS (mtb mi).1.reverse)[j]? = some (tyA v) := by
    intro j v hj
    rw [← hs, List.getElem?_map, hj]
    rfl
  refine ⟨hlen, by unfold lay0; rw [List.length_append, List.length_replicate]; omega, ?_, fun j u hj => ?_, fun j hj v hv => ?_, fun x hx => ?_⟩
  · have hE := lv_entry (as.map (tvA tr)) hlen
    refine ⟨hE.1, hE.2.1, fun q hq => ?_⟩
    obtain ⟨v, g1, g2, g3⟩ := lvL_mem.mp hq
    rcases hget _ _ g1 with g4 | ⟨-, g4⟩
    · have := lay_args tr as 0 q.1 v g4 g2
      rw [Nat.zero_add] at this
      have := hE.2.2 _ this
      rw [g3]
      exact this
    · rw [g4] at g2; cases g2
  · rcases hget _ _ hj with g4 | ⟨-, g4⟩
    · have g5 := hsrt _ _ g4
      have g6 := (List.getElem?_eq_some_iff.mp g5).1
      rcases k2 j (List.mem_range.mpr g6) with g7 | g7
      · exact absurd g5 g7
      · exact g7
    · cases g4
  · rcases hget _ _ hv with g4 | ⟨-, g4⟩
    · have g5 := hsrt _ _ g4
      rcases k3 j (List.contains_iff_mem.mp hj) with g7 | g7
      · rw [g5] at g7
        rcases v with x | x | x | x
        · cases g7
        · cases g7
        · cases g7
        · rfl
      · rw [g5] at g7; cases g7
    · rw [g4]; rfl
  · obtain ⟨j, hj⟩ := List.getElem?_of_mem hx
    rcases hget _ _ hj with g4 | ⟨-, g4⟩
    · have : ∀ (as : List AV) (x : Int), Sum.inl x ∈ lay as → Sum.inl x ∈ as := by
        intro as
        induction as with
        | nil => intro x h; simp [lay] at h
        | cons w as ih =>
          intro x h
          rcases w with y | y | y | y
          · simp only [lay, List.mem_cons] at h ⊢
            rcases h with h | h
            · exact Or.inl h
            · exact Or.inr (ih x h)
          · simp only [lay, List.mem_cons, reduceCtorEq, false_or, Sum.inr.injEq] at h ⊢
            first
              | exact ih x h
              | (rcases h with h | h
                 · cases h
                 · exact ih x h)
          · simp only [lay, List.mem_cons] at h ⊢
            rcases h with h | h
            · exact Or.inl h
            · exact Or.inr (ih x h)
          · simp only [lay, List.mem_cons] at h ⊢
            rcases h with h | h
            · exact Or.inl h
            · exact Or.inr (ih x h)
      exact hn x (this as x (List.mem_of_getElem? g4))
    · cases g4
