/-! rule -/
section RU
variable {hx hm gx gm : AH} {B n ns k : Nat}
theorem RLg.mns {ns' : Nat} (hns : ns ≤ ns') (h : RLg hx hm n ns) : RLg hx hm n ns' := by
  obtain ⟨g0, g1, g2, g3, g4, g5⟩ := h
  refine ⟨g0, g1, g2, g3, g4, fun v hv r hr => ?_⟩
  obtain ⟨t, e1, e2, e3, e4, e5⟩ := g5 v hv r hr
  exact ⟨t, e1, e2, e3, fun q => ⟨(e4 q).1, by have := (e4 q).2; omega⟩, e5⟩
/-- x's heap only grows -/
theorem Rl.ext (h : Rl B n ns k hx hm) (a : ∀ b, b < hpN hx → (∀ j, rdI gx b j = rdI hx b j ∧ rdL gx b j = rdL hx b j ∧ rdQ gx b j = rdQ hx b j) ∧ rdK gx b = rdK hx b) (hp : hpN hx ≤ hpN gx) : Rl B n ns k gx hm := by
  obtain ⟨⟨k1, k6, h0⟩, h1, h2, h3, h4, h5, h6, h7, h8, h9, h10, h11⟩ := h
  have aI : ∀ b j, b < 93 → rdI gx b j = rdI hx b j := fun b j q => ((a b (by omega)).1 j).1
  have aL : ∀ b j, b < 93 → rdL gx b j = rdL hx b j := fun b j q => ((a b (by omega)).1 j).2.1
  refine ⟨⟨k1, k6, by omega⟩, ?_, ?_, ?_, ?_, ?_, ?_, ?_, ?_, ?_, ?_, ?_⟩
  · exact h1.c (fun b j q => aI b j (by omega)) (fun b j q => rfl)
  · exact h2.c (aI _ _ (by omega)) (fun j => aL _ _ (by omega)) rfl (fun j => rfl)
  · exact h3.c (fun b j q => aI b j (by omega)) (fun j => aL _ _ (by omega)) (fun b j q => rfl) (fun j => rfl)
  · exact h4.c (fun j _ => ((a _ (by omega)).1 j).2.2) (fun b hb hl => ⟨(a b hl).2, fun j => ⟨((a b hl).1 j).1, ((a b hl).1 j).2.2⟩⟩) hp (fun j _ => rfl) (fun b j q => rfl) (fun j _ => rfl)
  · exact h5.c (fun x hx6 => aI _ _ (by omega)) (fun j => rfl)
  · exact h6.c (fun x hx6 => aL _ _ (by omega)) (fun j => rfl)
  · exact h7.c (fun x hx6 b j q => aI b j (by omega)) (fun x hx6 j => aL _ _ (by omega)) (fun b j q => rfl) (fun j => rfl)
  · exact h8.c (fun x hx6 j q => aI _ j (by omega)) (fun b j q => rfl)
  · exact h9.c (aI _ _ (by omega)) (fun m hm4 => aI _ _ (by omega)) (fun m hm4 j => aL _ _ (by omega)) (fun b j q => rfl)
  · exact h10.c (fun j q r s => aI _ _ (by omega)) (fun j q => rfl)
  · exact h11.c (fun b j q => aI b j (by omega))
theorem RJd.ext (h : RJd hx hm) (h0 : 93 ≤ hpN hx) (a : ∀ b, b < hpN hx → (∀ j, rdI gx b j = rdI hx b j ∧ rdL gx b j = rdL hx b j ∧ rdQ gx b j = rdQ hx b j) ∧ rdK gx b = rdK hx b) : RJd gx hm :=
  h.c (fun x hx6 => ((a _ (by omega)).1 _).1) (((a _ (by omega)).1 _).1) (fun j => rfl) rfl
theorem RWt.ext (h : RWt hx hm k) (hk : k ≤ 6) (h0 : 93 ≤ hpN hx) (a : ∀ b, b < hpN hx → (∀ j, rdI gx b j = rdI hx b j ∧ rdL gx b j = rdL hx b j ∧ rdQ gx b j = rdQ hx b j) ∧ rdK gx b = rdK hx b) (hp : hpN hx ≤ hpN gx) : RWt gx hm k :=
  fun x hxk => (h x hxk).c (((a _ (by omega)).1 _).1) (fun j => ((a _ (by omega)).1 j).2.2) (fun b hb hl => ⟨(a b hl).2, fun j => ⟨((a b hl).1 j).1, ((a b hl).1 j).2.1⟩⟩) hp rfl (fun j hj => rfl) (fun j hj => rfl)
/-- behind reading: the text is gone, the fault is kept -/
theorem Rel.rd {g1 m1 : AH} {fk : Int} (hR : Rl B n ns k hx hm) (hJ : RJd hx hm) (hW : RWt hx hm k) (F : FRt hx g1) (M : MRd hm m1 (n + 1)) : Rl B n ns k (wrI (wrI g1 5 1 0) 4 11 fk) (wrI (wrI m1 61 39 fk) 61 1 0) ∧ RJd (wrI (wrI g1 5 1 0) 4 11 fk) (wrI (wrI m1 61 39 fk) 61 1 0) ∧ RWt (wrI (wrI g1 5 1 0) 4 11 fk) (wrI (wrI m1 61 39 fk) 61 1 0) k := by
  obtain ⟨⟨k1, k6, h0⟩, h1, h2, h3, h4, h5, h6, h7, h8, h9, h10, h11⟩ := hR
  have aI : ∀ b j, b ≠ 9 → b ≠ 14 → b ≠ 15 → b ≠ 16 → b ≠ 11 → b ≠ 12 → b ≠ 10 → ¬ (b = 5 ∧ j = 1) → ¬ (b = 4 ∧ j = 11) → rdI (wrI (wrI g1 5 1 0) 4 11 fk) b j = rdI hx b j := by
    intro b j q1 q2 q3 q4 q5 q6 q7 q8 q9
    rw [rdI_wrI, if_neg q9, rdI_wrI, if_neg q8]
    exact F.1 b j q1 q2 q3 q4 q5 q6 q7
  have aL : ∀ b j, b ≠ 9 → b ≠ 13 → rdL (wrI (wrI g1 5 1 0) 4 11 fk) b j = rdL hx b j := fun b j q1 q2 => F.2.1 b j q1 q2
  have aQ : ∀ b j, rdQ (wrI (wrI g1 5 1 0) 4 11 fk) b j = rdQ hx b j := fun b j => by show rdQ g1 b j = _; unfold rdQ; rw [F.2.2]
  have aK : ∀ b, rdK (wrI (wrI g1 5 1 0) 4 11 fk) b = rdK hx b := fun b => by show rdK g1 b = _; unfold rdK; rw [F.2.2]
  have aN : hpN (wrI (wrI g1 5 1 0) 4 11 fk) = hpN hx := by show hpN g1 = _; unfold hpN; rw [F.2.2]
  have cI : ∀ b j, ¬ (b = 61 ∧ (j = 2 ∨ j = 3 ∨ j = 4 ∨ j = 6 ∨ j = 7 ∨ j = 8 ∨ j = 11 ∨ j = 14)) → b ≠ 63 → b ≠ 64 → ¬ (b = 65 ∧ 220 * (n + 1) ≤ j) → ¬ ((b = 67 ∨ b = 68) ∧ 6 * (n + 1) ≤ j ∧ j < 6 * (n + 1) + 6) → ¬ (b = 61 ∧ j = 39) → ¬ (b = 61 ∧ j = 1) → rdI (wrI (wrI m1 61 39 fk) 61 1 0) b j = rdI hm b j := by
    intro b j q1 q2 q3 q4 q5 q6 q7
    rw [rdI_wrI, if_neg q7, rdI_wrI, if_neg q6]
    exact M.1 b j q1 q2 q3 q4 q5
  have cL : ∀ b j, ¬ (b = 61 ∧ (j = 5 ∨ j = 17)) → ¬ (b = 66 ∧ 220 * (n + 1) ≤ j) → rdL (wrI (wrI m1 61 39 fk) 61 1 0) b j = rdL hm b j := fun b j q1 q2 => M.2.1 b j q1 q2
  have cl : rdI (wrI (wrI m1 61 39 fk) 61 1 0) 61 39 = fk := by rw [rdI_wrI, if_neg (by omega), rdI_wrI, if_pos ⟨rfl, rfl⟩]
  have al : rdI (wrI (wrI g1 5 1 0) 4 11 fk) 4 11 = fk := by rw [rdI_wrI, if_pos ⟨rfl, rfl⟩]
  have at0 : rdI (wrI (wrI g1 5 1 0) 4 11 fk) 5 1 = 0 := by rw [rdI_wrI, if_neg (by omega), rdI_wrI, if_pos ⟨rfl, rfl⟩]
  have ct0 : rdI (wrI (wrI m1 61 39 fk) 61 1 0) 61 1 = 0 := by rw [rdI_wrI, if_pos ⟨rfl, rfl⟩]
  revert aI aL aQ aK aN cI cL cl al at0 ct0
  generalize wrI (wrI g1 5 1 0) 4 11 fk = gx
  generalize wrI (wrI m1 61 39 fk) 61 1 0 = gm
  intro aI aL aQ aK aN cI cL cl al at0 ct0
  have aI' : ∀ b j, (b ≠ 9 ∧ b ≠ 14 ∧ b ≠ 15 ∧ b ≠ 16 ∧ b ≠ 11 ∧ b ≠ 12 ∧ b ≠ 10 ∧ ¬ (b = 5 ∧ j = 1) ∧ ¬ (b = 4 ∧ j = 11)) → rdI gx b j = rdI hx b j := fun b j ⟨q1, q2, q3, q4, q5, q6, q7, q8, q9⟩ => aI b j q1 q2 q3 q4 q5 q6 q7 q8 q9
  have cI' : ∀ b j, (b ≠ 61 ∧ b ≠ 63 ∧ b ≠ 64 ∧ b ≠ 65 ∧ b ≠ 67 ∧ b ≠ 68) → rdI gm b j = rdI hm b j := fun b j q => cI b j (by omega) (by omega) (by omega) (by omega) (by omega) (by omega) (by omega)
  have cF : ∀ j, 30 ≤ j → j ≠ 39 → rdI gm 61 j = rdI hm 61 j := fun j q r => cI 61 j (by omega) (by omega) (by omega) (by omega) (by omega) (by omega) (by omega)
  have cL' : ∀ b j, (b ≠ 61 ∧ b ≠ 66) → rdL gm b j = rdL hm b j := fun b j q => cL b j (by omega) (by omega)
  refine ⟨⟨⟨k1, k6, by omega⟩, ?_, ?_, ?_, ?_, ?_, ?_, ?_, ?_, ?_, ?_, ?_⟩, ?_, ?_⟩
  · exact ⟨0, by omega, at0, ct0, fun i hi => by omega⟩
  · exact h2.c (aI' _ _ (by omega)) (fun j => aL _ _ (by omega) (by omega)) (cF _ (by omega) (by omega)) (fun j => cL' _ _ (by omega))
  · refine h3.c (fun b j q => aI' b j (by omega)) (fun j => aL _ _ (by omega) (by omega)) (fun b j q => ?_) (fun j => cL' _ _ (by omega))
    by_cases hb : b = 61
    · subst hb; exact cF j (by omega) (by omega)
    · exact cI' b j (by omega)
  · exact h4.c (fun j _ => aQ _ _) (fun b hb hl => ⟨aK b, fun j => ⟨aI' b j (by omega), aQ b j⟩⟩) (by omega) (fun j _ => cI' _ _ (by omega)) (fun b j q => cI b j (by omega) (by omega) (by omega) (by omega) (by omega) (by omega) (by omega)) (fun j hj => cL _ _ (by omega) (by omega))
  · exact h5.c (fun x hx6 => aI' _ _ (by omega)) (fun j => cI' _ _ (by omega))
  · exact h6.c (fun x hx6 => aL _ _ (by omega) (by omega)) (fun j => cI' _ _ (by omega))
  · exact h7.c (fun x hx6 b j q => aI' b j (by omega)) (fun x hx6 j => aL _ _ (by omega) (by omega)) (fun b j q => cI' b j (by omega)) (fun j => cL' _ _ (by omega))
  · exact h8.c (fun x hx6 j q => aI' _ j (by omega)) (fun b j q => cI' b j (by omega))
  · refine h9.c (aI' _ _ (by omega)) (fun m hm4 => aI' _ _ (by omega)) (fun m hm4 j => aL _ _ (by omega) (by omega)) (fun b j q => ?_)
    by_cases hb : b = 61
    · subst hb; exact cF j (by omega) (by omega)
    · exact cI' b j (by omega)
  · obtain ⟨t1, t2, ⟨t3, t4⟩, ⟨t5, t6⟩, t7, t8, t9⟩ := h10
    refine ⟨?_, ?_, ⟨?_, ?_⟩, ⟨?_, ?_⟩, ?_, ?_, ?_⟩
    · rw [aI' _ _ (by omega)]; exact t1
    · rw [cF _ (by omega) (by omega)]; exact t2
    · rw [aI' _ _ (by omega), cF _ (by omega) (by omega)]; exact t3
    · rw [cF _ (by omega) (by omega)]; exact t4
    · rw [aI' _ _ (by omega), cF _ (by omega) (by omega)]; exact t5
    · rw [cF _ (by omega) (by omega)]; exact t6
    · rw [al, cl]
    · rw [aI' _ _ (by omega), cF _ (by omega) (by omega)]; exact t8
    · rw [aI' _ _ (by omega), cF _ (by omega) (by omega)]; exact t9
  · exact h11.c (fun b j q => aI' b j (by omega))
  · exact hJ.c (fun x hx6 => aI' _ _ (by omega)) (aI' _ _ (by omega)) (fun j => cI' _ _ (by omega)) (cF _ (by omega) (by omega))
  · exact fun x hxk => (hW x hxk).c (aI' _ _ (by omega)) (fun j => aQ _ _) (fun b hb hl => ⟨aK b, fun j => ⟨aI' b j (by omega), aL b j (by omega) (by omega)⟩⟩) (by omega) (cI' _ _ (by omega)) (fun j hj => cI' _ _ (by omega)) (fun j hj => cL' _ _ (by omega))
/-- a new name on both sides -/
theorem Rel.nm {u : Int64} (hR : Rl B n ns k hx hm) (hJ : RJd hx hm) (hW : RWt hx hm k) (hns : ns < 8) : Rl B n (ns + 1) k (wrI (wrL hx 8 ns u) 7 1 ((ns + 1 : Nat) : Int)) (wrI (wrL hm 71 ns u) 61 30 ((ns + 1 : Nat) : Int)) ∧ RJd (wrI (wrL hx 8 ns u) 7 1 ((ns + 1 : Nat) : Int)) (wrI (wrL hm 71 ns u) 61 30 ((ns + 1 : Nat) : Int)) ∧ RWt (wrI (wrL hx 8 ns u) 7 1 ((ns + 1 : Nat) : Int)) (wrI (wrL hm 71 ns u) 61 30 ((ns + 1 : Nat) : Int)) k := by
  obtain ⟨⟨k1, k6, h0⟩, h1, ⟨nf, ⟨n1, n2, n3⟩, m1, m2, m3⟩, h3, h4, h5, h6, h7, h8, h9, h10, h11⟩ := hR
  have aI : ∀ b j, ¬ (b = 7 ∧ j = 1) → rdI (wrI (wrL hx 8 ns u) 7 1 ((ns + 1 : Nat) : Int)) b j = rdI hx b j := fun b j q => by rw [rdI_wrI, if_neg q]; rfl
  have aL : ∀ b j, ¬ (b = 8 ∧ j = ns) → rdL (wrI (wrL hx 8 ns u) 7 1 ((ns + 1 : Nat) : Int)) b j = rdL hx b j := fun b j q => by rw [rdL_wrI, rdL_wrL, if_neg q]
  have cI : ∀ b j, ¬ (b = 61 ∧ j = 30) → rdI (wrI (wrL hm 71 ns u) 61 30 ((ns + 1 : Nat) : Int)) b j = rdI hm b j := fun b j q => by rw [rdI_wrI, if_neg q]; rfl
  have cL : ∀ b j, ¬ (b = 71 ∧ j = ns) → rdL (wrI (wrL hm 71 ns u) 61 30 ((ns + 1 : Nat) : Int)) b j = rdL hm b j := fun b j q => by rw [rdL_wrI, rdL_wrL, if_neg q]
  refine ⟨⟨⟨k1, k6, h0⟩, ?_, ?_, ?_, ?_, ?_, ?_, ?_, ?_, ?_, ?_, ?_⟩, ?_, ?_⟩
  · exact h1.c (fun b j q => aI b j (by omega)) (fun b j q => cI b j (by omega))
  · refine ⟨fun j => if j = ns then u else nf j, ⟨by rw [rdI_wrI, if_pos ⟨rfl, rfl⟩], by omega, fun j hj => ?_⟩, by rw [rdI_wrI, if_pos ⟨rfl, rfl⟩], by omega, fun j hj => ?_⟩
    · by_cases c : j = ns
      · subst c; rw [rdL_wrI, rdL_wrL, if_pos ⟨rfl, rfl⟩]; exact (if_pos rfl).symm
      · rw [aL _ _ (by omega)]; exact (n3 j (by omega)).trans (if_neg c).symm
    · by_cases c : j = ns
      · subst c; rw [rdL_wrI, rdL_wrL, if_pos ⟨rfl, rfl⟩]; exact (if_pos rfl).symm
      · rw [cL _ _ (by omega)]; exact (m3 j (by omega)).trans (if_neg c).symm
  · exact (h3.c (fun b j q => aI b j (by omega)) (fun j => aL _ _ (by omega)) (fun b j q => cI b j (by omega)) (fun j => cL _ _ (by omega))).mns (Nat.le_succ ns)
  · exact h4.c (hx := hx) (fun j _ => rfl) (fun b hb hl => ⟨rfl, fun j => ⟨aI b j (by omega), rfl⟩⟩) (Nat.le_refl _) (fun j _ => cI _ _ (by omega)) (fun b j q => cI b j (by omega)) (fun j hj => cL _ _ (by omega))
  · exact h5.c (fun x hx6 => aI _ _ (by omega)) (fun j => cI _ _ (by omega))
  · exact h6.c (fun x hx6 => aL _ _ (by omega)) (fun j => cI _ _ (by omega))
  · exact h7.c (fun x hx6 b j q => aI b j (by omega)) (fun x hx6 j => aL _ _ (by omega)) (fun b j q => cI b j (by omega)) (fun j => cL _ _ (by omega))
  · exact h8.c (fun x hx6 j q => aI _ j (by omega)) (fun b j q => cI b j (by omega))
  · exact h9.c (aI _ _ (by omega)) (fun m hm4 => aI _ _ (by omega)) (fun m hm4 j => aL _ _ (by omega)) (fun b j q => cI b j (by omega))
  · exact h10.c (fun j q r s => aI _ _ (by omega)) (fun j q => cI _ _ (by omega))
  · exact h11.c (fun b j q => aI b j (by omega))
  · exact hJ.c (fun x hx6 => aI _ _ (by omega)) (aI _ _ (by omega)) (fun j => cI _ _ (by omega)) (cI _ _ (by omega))
  · exact fun x hxk => (hW x hxk).c (hx := hx) (aI _ _ (by omega)) (fun j => rfl) (fun b hb hl => ⟨rfl, fun j => ⟨aI b j (by omega), aL b j (by omega)⟩⟩) (Nat.le_refl _) (cI _ _ (by omega)) (fun j hj => cI _ _ (by omega)) (fun j hj => cL _ _ (by omega))
end RU
