/-! one call of the law: x's, then the reference's, over one heap -/
section ST
variable {hx hm gx gm h g : AH} {B B' n ns k L L' : Nat} {Q : Option AV → AH → Prop}
/-- the relation sees the reference's own cells alone -/
theorem Rel.m (h : Rel B hx hm) (c : ∀ b, 61 ≤ b → b < 93 → ∀ j, rdI gm b j = rdI hm b j ∧ rdL gm b j = rdL hm b j) : Rel B hx gm := by
  obtain ⟨n, ns, k, ⟨⟨k1, k6, h0⟩, h1, h2, h3, h4, h5, h6, h7, h8, h9, h10, h11⟩, hJ, hW⟩ := h
  have cI : ∀ b j, 61 ≤ b → b < 93 → rdI gm b j = rdI hm b j := fun b j q r => (c b q r j).1
  have cL : ∀ b j, 61 ≤ b → b < 93 → rdL gm b j = rdL hm b j := fun b j q r => (c b q r j).2
  refine ⟨n, ns, k, ⟨⟨k1, k6, h0⟩, ?_, ?_, ?_, ?_, ?_, ?_, ?_, ?_, ?_, ?_, h11⟩, ?_, fun y hy => ?_⟩
  · exact h1.c (fun b j q => rfl) (fun b j q => cI b j (by omega) (by omega))
  · exact h2.c rfl (fun j => rfl) (cI _ _ (by omega) (by omega)) (fun j => cL _ _ (by omega) (by omega))
  · exact h3.c (fun b j q => rfl) (fun j => rfl) (fun b j q => cI b j (by omega) (by omega)) (fun j => cL _ _ (by omega) (by omega))
  · exact h4.c (hx := hx) (hm := hm) (fun j _ => rfl) (fun b hb hl => ⟨rfl, fun j => ⟨rfl, rfl⟩⟩) (Nat.le_refl _) (fun j _ => cI _ _ (by omega) (by omega)) (fun b j q => cI b j (by omega) (by omega)) (fun j _ => cL _ _ (by omega) (by omega))
  · exact h5.c (fun y hy => rfl) (fun j => cI _ _ (by omega) (by omega))
  · exact h6.c (fun y hy => rfl) (fun j => cI _ _ (by omega) (by omega))
  · exact h7.c (fun y hy b j q => rfl) (fun y hy j => rfl) (fun b j q => cI b j (by omega) (by omega)) (fun j => cL _ _ (by omega) (by omega))
  · exact h8.c (fun y hy j q => rfl) (fun b j q => cI b j (by omega) (by omega))
  · exact h9.c rfl (fun m hm4 => rfl) (fun m hm4 j => rfl) (fun b j q => cI b j (by omega) (by omega))
  · exact h10.c (fun j q r s => rfl) (fun j q => cI _ _ (by omega) (by omega))
  · exact hJ.c (fun y hy => rfl) rfl (fun j => cI _ _ (by omega) (by omega)) (cI _ _ (by omega) (by omega))
  · exact (hW y hy).c (hx := hx) (hm := hm) rfl (fun j => rfl) (fun b hb hl => ⟨rfl, fun j => ⟨rfl, rfl⟩⟩) (Nat.le_refl _) (cI _ _ (by omega) (by omega)) (fun j hj => cI _ _ (by omega) (by omega)) (fun j hj => cL _ _ (by omega) (by omega))
/-- and x's own -/
theorem Rel.x (h : Rel B hx hm) (hN : hpN gx = hpN hx) (a : ∀ b, b < hpN hx → ¬ (61 ≤ b ∧ b < 93) → rdK gx b = rdK hx b ∧ ∀ j, rdI gx b j = rdI hx b j ∧ rdL gx b j = rdL hx b j ∧ rdQ gx b j = rdQ hx b j) : Rel B gx hm := by
  obtain ⟨n, ns, k, ⟨⟨k1, k6, h0⟩, h1, h2, h3, h4, h5, h6, h7, h8, h9, h10, h11⟩, hJ, hW⟩ := h
  have aI : ∀ b j, b < 61 → rdI gx b j = rdI hx b j := fun b j q => ((a b (by omega) (by omega)).2 j).1
  have aL : ∀ b j, b < 61 → rdL gx b j = rdL hx b j := fun b j q => ((a b (by omega) (by omega)).2 j).2.1
  have aQ : ∀ b j, b < 61 → rdQ gx b j = rdQ hx b j := fun b j q => ((a b (by omega) (by omega)).2 j).2.2
  have aI2 : ∀ b j, 93 ≤ b → b < hpN hx → rdI gx b j = rdI hx b j := fun b j q r => ((a b r (by omega)).2 j).1
  have aL2 : ∀ b j, 93 ≤ b → b < hpN hx → rdL gx b j = rdL hx b j := fun b j q r => ((a b r (by omega)).2 j).2.1
  have aQ2 : ∀ b j, 93 ≤ b → b < hpN hx → rdQ gx b j = rdQ hx b j := fun b j q r => ((a b r (by omega)).2 j).2.2
  have aK : ∀ b, 93 ≤ b → b < hpN hx → rdK gx b = rdK hx b := fun b q r => (a b r (by omega)).1
  refine ⟨n, ns, k, ⟨⟨k1, k6, by omega⟩, ?_, ?_, ?_, ?_, ?_, ?_, ?_, ?_, ?_, ?_, ?_⟩, ?_, fun y hy => ?_⟩
  · exact h1.c (fun b j q => aI b j (by omega)) (fun b j q => rfl)
  · exact h2.c (aI _ _ (by omega)) (fun j => aL _ _ (by omega)) rfl (fun j => rfl)
  · exact h3.c (fun b j q => aI b j (by omega)) (fun j => aL _ _ (by omega)) (fun b j q => rfl) (fun j => rfl)
  · exact h4.c (hx := hx) (hm := hm) (fun j _ => aQ _ _ (by omega)) (fun b hb hl => ⟨aK b hb hl, fun j => ⟨aI2 b j hb hl, aQ2 b j hb hl⟩⟩) (by omega) (fun j _ => rfl) (fun b j q => rfl) (fun j _ => rfl)
  · exact h5.c (fun y hy => aI _ _ (by omega)) (fun j => rfl)
  · exact h6.c (fun y hy => aL _ _ (by omega)) (fun j => rfl)
  · exact h7.c (fun y hy b j q => aI b j (by omega)) (fun y hy j => aL _ _ (by omega)) (fun b j q => rfl) (fun j => rfl)
  · exact h8.c (fun y hy j q => aI _ j (by omega)) (fun b j q => rfl)
  · exact h9.c (aI _ _ (by omega)) (fun m hm4 => aI _ _ (by omega)) (fun m hm4 j => aL _ _ (by omega)) (fun b j q => rfl)
  · exact h10.c (fun j q r s => aI _ _ (by omega)) (fun j q => rfl)
  · exact h11.c (fun b j q => aI b j (by omega))
  · exact hJ.c (fun y hy => aI _ _ (by omega)) (aI _ _ (by omega)) (fun j => rfl) rfl
  · exact (hW y hy).c (hx := hx) (hm := hm) (aI _ _ (by omega)) (fun j => aQ _ _ (by omega)) (fun b hb hl => ⟨aK b hb hl, fun j => ⟨aI2 b j hb hl, aL2 b j hb hl⟩⟩) (by omega) rfl (fun j hj => rfl) (fun j hj => rfl)
theorem Lk.le {B2 kx km : Nat} {ax am : List AV} (hB : B' ≤ B2) (h : Lk B B' hx hm kx ax km am) : Lk B B2 hx hm kx ax km am := by
  obtain ⟨r, gx, gm, e1, e2, e3, e4⟩ := h
  exact ⟨r, gx, gm, e1, e2, e3.le hB, e4⟩
/-- answers have their method's sort -/
def okR (t : Nat) (r : Option AV) : Prop := (t = 0 → ∃ x, r = some (vI x)) ∧ (t = 1 → ∃ u, r = some (vL u))
theorem ret_ty {t : Nat} {i : Instr} {st : List AV} {r : Option AV} (h : retA t i st = some r) : okR t r := by
  cases i <;> simp only [retA, reduceCtorEq] at h
  case ireturn =>
    split at h
    · split at h
      · rename_i x hc
        cases h
        exact ⟨fun _ => ⟨x, rfl⟩, fun z => by omega⟩
      · cases h
    · cases h
  case lreturn =>
    split at h
    · split at h
      · rename_i x hc
        cases h
        exact ⟨fun z => by omega, fun _ => ⟨x, rfl⟩⟩
      · cases h
    · cases h
  case areturn =>
    split at h
    · split at h
      · cases h
        exact ⟨fun z => by omega, fun z => by omega⟩
      · cases h
    · cases h
  case return_ =>
    split at h
    · split at h
      · cases h
        exact ⟨fun z => by omega, fun z => by omega⟩
      · cases h
    · cases h
theorem exec_ty {S : Sys} {G : GB} : ∀ (n L mi : Nat) (is : List Instr) (ls st : List AV) (h : AH) (r : Option AV) (hF : AH), exec S G n L mi is ls st h = some (r, hF) → okR (S.1 mi).2.1 r := by
  intro n
  induction n with
  | zero => intro L mi is ls st h r hF hx; simp [exec] at hx
  | succ n ih =>
    intro L mi is ls st h r hF hx
    cases is with
    | nil => simp [exec] at hx
    | cons i is =>
      rw [exec_cons] at hx
      cases h1 : pureOp i st with
      | some st' => rw [h1] at hx; exact ih _ _ _ _ _ _ _ _ hx
      | none =>
        rw [h1] at hx
        dsimp only at hx
        cases h2 : locOp i ls st with
        | some q => rw [h2] at hx; exact ih _ _ _ _ _ _ _ _ hx
        | none =>
          rw [h2] at hx
          dsimp only at hx
          cases h3 : heapOp S.2.2 G i st h with
          | some q => rw [h3] at hx; exact ih _ _ _ _ _ _ _ _ hx
          | none =>
            rw [h3] at hx
            dsimp only at hx
            cases h4 : jmpA i st with
            | some q =>
              obtain ⟨t, st'⟩ := q
              rw [h4] at hx
              cases t with
              | some t => exact ih _ _ _ _ _ _ _ _ hx
              | none => exact ih _ _ _ _ _ _ _ _ hx
            | none =>
              rw [h4] at hx
              dsimp only at hx
              cases h5 : retA (S.1 mi).2.1 i st with
              | some r' =>
                rw [h5] at hx
                cases hx
                exact ret_ty h5
              | none =>
                rw [h5] at hx
                dsimp only at hx
                cases h6 : invA S G i st h with
                | none => rw [h6] at hx; simp at hx
                | some q =>
                  obtain ⟨k, as, rest⟩ := q
                  cases L with
                  | zero => rw [h6] at hx; simp at hx
                  | succ L =>
                    rw [h6] at hx
                    dsimp only at hx
                    cases h7 : exec S G n L k (S.2.1 k 0) (lay0 (S.1 k).2.2.1 as) [] h with
                    | none => rw [h7] at hx; simp at hx
                    | some y =>
                      obtain ⟨r1, h1'⟩ := y
                      rw [h7] at hx
                      exact ih _ _ _ _ _ _ _ _ hx
/-- what the law's loop keeps; c: the calls done -/
def LI (n : Nat) (xs : Nat → Int32) (c : Nat) (h : AH) : Prop := AG GX h ∧ Rel (12000 * c) h h ∧ hpN h ≤ 93 + 3 * c ∧ hpS h ≤ 35036 + 412 * c ∧ (∀ j, rdI h 0 j = (xs j).toInt) ∧ rdK h 0 = (20, n)
theorem AG.m (h : AG GX hx) : AG GM hx := ⟨h.1, h.2.1, fun a q => by
  have : (decide (61 ≤ a) && decide (a < 93)) = true := q
  simp only [Bool.and_eq_true, decide_eq_true_eq] at this
  omega⟩
theorem AG.x (h : AG GM hx) : AG GX hx := ⟨h.1, h.2.1, fun a q => by
  have : ((decide (4 ≤ a) && decide (a < 61)) || decide (93 ≤ a)) = true := q
  simp only [Bool.or_eq_true, Bool.and_eq_true, decide_eq_true_eq] at this
  omega⟩
theorem wX_m {a : Nat} (h : 61 ≤ a ∧ a < 93 ∨ a < 4) : GX.2.2 a = false := by
  show ((decide (4 ≤ a) && decide (a < 61)) || decide (93 ≤ a)) = false
  simp only [Bool.or_eq_false_iff, Bool.and_eq_false_iff, decide_eq_false_iff_not]
  omega
theorem wM_x {a : Nat} (h : ¬ (61 ≤ a ∧ a < 93)) : GM.2.2 a = false := by
  show (decide (61 ≤ a) && decide (a < 93)) = false
  simp only [Bool.and_eq_false_iff, decide_eq_false_iff_not]
  omega
theorem law_step {n c kx km : Nat} {xs : Nat → Int32} {ax am : List AV} (hI : LI n xs c h) (lk : ∀ hx hm, Rel (12000 * c) hx hm → Lk (12000 * c) (12000 * (c + 1)) hx hm kx ax km am) : ∃ r gx g, okR (sysS.1 kx).2.1 (some r) ∧ (∀ Q, Q (some r) gx → Call sysS G0 999 kx ax h Q) ∧ (∀ Q, Q (some r) g → Call sysS G0 999 km am gx Q) ∧ (∀ j, rdI gx 0 j = (xs j).toInt) ∧ rdK gx 0 = (20, n) ∧ AG GX gx ∧ LI n xs (c + 1) g := by
  obtain ⟨i1, i2, i3, i4, i5, i6⟩ := hI
  obtain ⟨r0, gx0, gm0, e1, -⟩ := lk h h i2
  have c1 : Call sysS GX 999 kx ax h (fun r g => r = some r0 ∧ g = gx0) := (e1 _).mpr ⟨rfl, rfl⟩
  obtain ⟨m1, r1, g1, x1, ⟨rfl, rfl⟩, A1, F1⟩ := Call_dyn i1 c1
  have n93 : 93 ≤ hpN h := by obtain ⟨_, _, _, ⟨⟨_, _, z⟩, _⟩, _⟩ := i2; exact z
  have R1 : Rel (12000 * c) h g1 := i2.m (fun b q1 q2 j => by
    have := ((F1.2 b (by omega)).2 (wX_m (Or.inl ⟨q1, q2⟩)) j)
    exact ⟨this.1, this.2.1⟩)
  obtain ⟨r2, gx2, gm2, f1, f2, R2, b1, b2, b3, b4⟩ := lk h g1 R1
  have z := (f1 (fun r g => r = some r0 ∧ g = g1)).mp c1
  obtain ⟨z1, rfl⟩ := z
  have z1 : r2 = r0 := Option.some.inj z1
  subst z1
  have c2 : Call sysS GM 999 km am gx2 (fun r g => r = some r2 ∧ g = gm2) := (f2 _).mpr ⟨rfl, rfl⟩
  obtain ⟨m2, r3, g3, x2, ⟨rfl, rfl⟩, A2, F2⟩ := Call_dyn A1.m c2
  have s0 : ∀ j, rdI gx2 0 j = (xs j).toInt := fun j => by rw [((F1.2 0 (by omega)).2 (wX_m (Or.inr (by omega))) j).1]; exact i5 j
  have k0 : rdK gx2 0 = (20, n) := by rw [(F1.2 0 (by omega)).1]; exact i6
  have hN : hpN g3 = hpN gx2 := b3
  refine ⟨r2, gx2, g3, exec_ty _ _ _ _ _ _ _ _ _ x1, fun Q q => ⟨m1, _, _, x1, q⟩, fun Q q => ⟨m2, _, _, x2, q⟩, s0, k0, A1, A2.x, ?_, by omega, by omega, fun j => ?_, ?_⟩
  · refine R2.x hN (fun b hb hbm => ?_)
    have := F2.2 b hb
    exact ⟨this.1, fun j => this.2 (wM_x hbm) j⟩
  · rw [((F2.2 0 (by have := F1.1; omega)).2 (wM_x (by omega)) j).1]; exact s0 j
  · rw [(F2.2 0 (by have := F1.1; omega)).1]; exact k0
theorem wJ {i j : Nat} (h : i + j ≤ 100000) : w32 ((i : Int) + (j : Int)) = ((i + j : Nat) : Int) := by
  rw [w32_id (by omega) (by omega)]; push_cast; rfl
theorem AG.kd {a : Nat} {K : Nat × Nat} (h : AG GX hx) (hk : kapS a = some K) : knd G0 hx a = K := (h.2.1 a K hk).1
/-- a long of two ints, as the law makes it -/
abbrev jJ (a b : Int) : Int64 := (Int32.ofInt a).toInt64 <<< ((Int32.ofInt 32).toInt64 &&& 63) ||| (Int32.ofInt b).toInt64 &&& Int64.ofInt 4294967295
end ST
