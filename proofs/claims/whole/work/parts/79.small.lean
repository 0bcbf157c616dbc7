/-! small calls that write: alike, asOf, feed, keep -/
section SM
variable {hx hm gx gm : AH} {B n ns k : Nat}
/-- only x's own numbers and the reference's switches change -/
theorem Rl.s {k' : Nat} (h : Rl B n ns k hx hm) (a : ∀ b j, b ≠ 4 → rdI gx b j = rdI hx b j) (a1 : rdI gx 4 8 = rdI hx 4 8) (a2 : gx.2 = hx.2) (c : ∀ b j, ¬ (b = 61 ∧ ((39 ≤ j ∧ j ≤ 42) ∨ (55 ≤ j ∧ j ≤ 57))) → rdI gm b j = rdI hm b j) (c2 : gm.2.1 = hm.2.1) (hk : 1 ≤ k' ∧ k' ≤ 6) (hs : RMs gx gm k') (hA : RAp hx hm k' n) : Rl B n ns k' gx gm := by
  obtain ⟨⟨k1, k6, h0⟩, h1, h2, h3, h4, h5, h6, h7, h8, h9, h10, h11⟩ := h
  have aL : ∀ b j, rdL gx b j = rdL hx b j := fun b j => by unfold rdL; rw [a2]
  have aQ : ∀ b j, rdQ gx b j = rdQ hx b j := fun b j => by unfold rdQ; rw [a2]
  have aK : ∀ b, rdK gx b = rdK hx b := fun b => by unfold rdK; rw [a2]
  have aN : hpN gx = hpN hx := by unfold hpN; rw [a2]
  have cL : ∀ b j, rdL gm b j = rdL hm b j := fun b j => by unfold rdL; rw [c2]
  refine ⟨⟨hk.1, hk.2, by omega⟩, ?_, ?_, ?_, ?_, ?_, ?_, ?_, ?_, ?_, hs, ?_⟩
  · exact h1.c (fun b j q => a b j (by omega)) (fun b j q => c b j (by omega))
  · exact h2.c (a _ _ (by omega)) (fun j => aL _ _) (c _ _ (by omega)) (fun j => cL _ _)
  · exact h3.c (fun b j q => a b j (by omega)) (fun j => aL _ _) (fun b j q => c b j (by omega)) (fun j => cL _ _)
  · exact h4.c (fun j _ => aQ _ _) (fun b hb hl => ⟨aK b, fun j => ⟨a b j (by omega), aQ b j⟩⟩) (by omega) (fun j _ => c _ j (by omega)) (fun b j q => c b j (by omega)) (fun j _ => cL _ _)
  · exact hA.c (fun x hx6 => a _ _ (by omega)) (fun j => c _ _ (by omega))
  · exact h6.c (fun x hx6 => aL _ _) (fun j => c _ _ (by omega))
  · exact h7.c (fun x hx6 b j q => a b j (by omega)) (fun x hx6 j => aL _ _) (fun b j q => c b j (by omega)) (fun j => cL _ _)
  · exact h8.c (fun x hx6 j q => a _ j (by omega)) (fun b j q => c b j (by omega))
  · exact h9.c a1 (fun m hm4 => a _ _ (by omega)) (fun m hm4 j => aL _ _) (fun b j q => c b j (by omega))
  · exact h11.c (fun b j q => a b j (by omega))
theorem RWt.s (h : RWt hx hm k) (hk : k ≤ 6) (a : ∀ b j, b ≠ 4 → rdI gx b j = rdI hx b j) (a2 : gx.2 = hx.2) (c : ∀ b j, b ≠ 61 → rdI gm b j = rdI hm b j) (c2 : gm.2.1 = hm.2.1) : RWt gx gm k := by
  have aL : ∀ b j, rdL gx b j = rdL hx b j := fun b j => by unfold rdL; rw [a2]
  have aQ : ∀ b j, rdQ gx b j = rdQ hx b j := fun b j => by unfold rdQ; rw [a2]
  have aK : ∀ b, rdK gx b = rdK hx b := fun b => by unfold rdK; rw [a2]
  have aN : hpN gx = hpN hx := by unfold hpN; rw [a2]
  have cL : ∀ b j, rdL gm b j = rdL hm b j := fun b j => by unfold rdL; rw [c2]
  exact fun x hxk => (h x hxk).c (a _ _ (by omega)) (fun j => aQ _ _) (fun b hb hl => ⟨aK b, fun j => ⟨a b j (by omega), aL b j⟩⟩) (by omega) (c _ _ (by omega)) (fun j hj => c _ _ (by omega)) (fun j hj => cL _ _)
theorem l_alike {v : Int} (hv : isZ v = true) (h : Rel B hx hm) : Lk B B hx hm 6 [vR (some 4), vI v] 168 [vR (some 61), vI v] := by
  obtain ⟨n, ns, k, hR, hJ, hW⟩ := id h
  have h10 := hR.2.2.2.2.2.2.2.2.2.2.1
  have hk := hR.1
  refine ⟨vI (if rdI hx 4 9 = 0 then 0 else 1), wrI hx 4 9 v, wrI hm 61 40 v, fun Q => t_X_alike hv, fun Q => ?_, ⟨n, ns, k, ?_, ?_, ?_⟩, Nat.le_add_right _ _, Nat.le_add_right _ _, rfl, rfl⟩
  · rw [t_M_alike hv, h10.2.2.1.1]
  · refine hR.s (fun b j q => by rw [rdI_wrI, if_neg (by omega)]) (by rw [rdI_wrI, if_neg (by omega)]) rfl (fun b j q => by rw [rdI_wrI, if_neg (by omega)]) rfl ⟨hk.1, hk.2.1⟩ ?_ hR.2.2.2.2.2.1
    obtain ⟨t1, t2, ⟨t3, t4⟩, ⟨t5, t6⟩, t7, t8, t9⟩ := h10
    refine ⟨?_, ?_, ⟨?_, ?_⟩, ⟨?_, ?_⟩, ?_, ?_, ?_⟩ <;> simp [rdI_wrI, t1, t2, t5, t6, t7, t8, t9, hv]
  · exact hJ.c (fun x hx6 => by rw [rdI_wrI, if_neg (by omega)]) (by rw [rdI_wrI, if_neg (by omega)]) (fun j => by rw [rdI_wrI, if_neg (by omega)]) (by rw [rdI_wrI, if_neg (by omega)])
  · exact hW.s hk.2.1 (fun b j q => by rw [rdI_wrI, if_neg (by omega)]) rfl (fun b j q => by rw [rdI_wrI, if_neg (by omega)]) rfl
theorem l_asOf {v : Int} (hv : isZ v = true) (h : Rel B hx hm) : Lk B B hx hm 7 [vR (some 4), vI v] 169 [vR (some 61), vI v] := by
  obtain ⟨n, ns, k, hR, hJ, hW⟩ := id h
  have h10 := hR.2.2.2.2.2.2.2.2.2.2.1
  have hk := hR.1
  refine ⟨vI (if rdI hx 4 10 = 0 then 0 else 1), wrI hx 4 10 v, wrI hm 61 41 v, fun Q => t_X_asOf hv, fun Q => ?_, ⟨n, ns, k, ?_, ?_, ?_⟩, Nat.le_add_right _ _, Nat.le_add_right _ _, rfl, rfl⟩
  · rw [t_M_asOf hv, h10.2.2.2.1.1]
  · refine hR.s (fun b j q => by rw [rdI_wrI, if_neg (by omega)]) (by rw [rdI_wrI, if_neg (by omega)]) rfl (fun b j q => by rw [rdI_wrI, if_neg (by omega)]) rfl ⟨hk.1, hk.2.1⟩ ?_ hR.2.2.2.2.2.1
    obtain ⟨t1, t2, ⟨t3, t4⟩, ⟨t5, t6⟩, t7, t8, t9⟩ := h10
    refine ⟨?_, ?_, ⟨?_, ?_⟩, ⟨?_, ?_⟩, ?_, ?_, ?_⟩ <;> simp [rdI_wrI, t1, t2, t3, t4, t7, t8, t9, hv]
  · exact hJ.c (fun x hx6 => by rw [rdI_wrI, if_neg (by omega)]) (by rw [rdI_wrI, if_neg (by omega)]) (fun j => by rw [rdI_wrI, if_neg (by omega)]) (by rw [rdI_wrI, if_neg (by omega)])
  · exact hW.s hk.2.1 (fun b j q => by rw [rdI_wrI, if_neg (by omega)]) rfl (fun b j q => by rw [rdI_wrI, if_neg (by omega)]) rfl
/-- only the text changes -/
theorem Rel.t (h : Rel B hx hm) (a : ∀ b j, b ≠ 5 → b ≠ 6 → rdI gx b j = rdI hx b j) (a2 : gx.2 = hx.2) (c : ∀ b j, b ≠ 62 → ¬ (b = 61 ∧ j = 1) → rdI gm b j = rdI hm b j) (c2 : gm.2.1 = hm.2.1) (ht : RTx gx gm) : Rel B gx gm := by
  obtain ⟨n, ns, k, ⟨⟨k1, k6, h0⟩, h1, h2, h3, h4, h5, h6, h7, h8, h9, h10, h11⟩, hJ, hW⟩ := h
  have aL : ∀ b j, rdL gx b j = rdL hx b j := fun b j => by unfold rdL; rw [a2]
  have aQ : ∀ b j, rdQ gx b j = rdQ hx b j := fun b j => by unfold rdQ; rw [a2]
  have aK : ∀ b, rdK gx b = rdK hx b := fun b => by unfold rdK; rw [a2]
  have aN : hpN gx = hpN hx := by unfold hpN; rw [a2]
  have cL : ∀ b j, rdL gm b j = rdL hm b j := fun b j => by unfold rdL; rw [c2]
  refine ⟨n, ns, k, ⟨⟨k1, k6, by omega⟩, ht, ?_, ?_, ?_, ?_, ?_, ?_, ?_, ?_, ?_, ?_⟩, ?_, ?_⟩
  · exact h2.c (a _ _ (by omega) (by omega)) (fun j => aL _ _) (c _ _ (by omega) (by omega)) (fun j => cL _ _)
  · exact h3.c (fun b j q => a b j (by omega) (by omega)) (fun j => aL _ _) (fun b j q => c b j (by omega) (by omega)) (fun j => cL _ _)
  · exact h4.c (fun j _ => aQ _ _) (fun b hb hl => ⟨aK b, fun j => ⟨a b j (by omega) (by omega), aQ b j⟩⟩) (by omega) (fun j _ => c _ j (by omega) (by omega)) (fun b j q => c b j (by omega) (by omega)) (fun j _ => cL _ _)
  · exact h5.c (fun x hx6 => a _ _ (by omega) (by omega)) (fun j => c _ _ (by omega) (by omega))
  · exact h6.c (fun x hx6 => aL _ _) (fun j => c _ _ (by omega) (by omega))
  · exact h7.c (fun x hx6 b j q => a b j (by omega) (by omega)) (fun x hx6 j => aL _ _) (fun b j q => c b j (by omega) (by omega)) (fun j => cL _ _)
  · exact h8.c (fun x hx6 j q => a _ j (by omega) (by omega)) (fun b j q => c b j (by omega) (by omega))
  · exact h9.c (a _ _ (by omega) (by omega)) (fun m hm4 => a _ _ (by omega) (by omega)) (fun m hm4 j => aL _ _) (fun b j q => c b j (by omega) (by omega))
  · exact h10.c (fun j q r s => a _ _ (by omega) (by omega)) (fun j q => c _ _ (by omega) (by omega))
  · exact h11.c (fun b j q => a b j (by omega) (by omega))
  · exact hJ.c (fun x hx6 => a _ _ (by omega) (by omega)) (a _ _ (by omega) (by omega)) (fun j => c _ _ (by omega) (by omega)) (c _ _ (by omega) (by omega))
  · exact fun x hxk => (hW x hxk).c (a _ _ (by omega) (by omega)) (fun j => aQ _ _) (fun b hb hl => ⟨aK b, fun j => ⟨a b j (by omega) (by omega), aL b j⟩⟩) (by omega) (c _ _ (by omega) (by omega)) (fun j hj => c _ _ (by omega) (by omega)) (fun j hj => cL _ _)
theorem l_keep {v : Int} (hv : inr v) (h : Rel B hx hm) : Lk B B hx hm 2 [vR (some 4), vI v] 125 [vR (some 61), vI v] := by
  obtain ⟨n, ns, k, hR, hJ, hW⟩ := id h
  obtain ⟨m, m1, m2, m3, m4⟩ := hR.2.1
  by_cases c : 0 ≤ v ∧ v ≤ (m : Int)
  · refine ⟨vI ((m : Int) - v), wrI hx 5 1 v, wrI hm 61 1 v, fun Q => ?_, fun Q => ?_, ?_, Nat.le_add_right _ _, Nat.le_add_right _ _, rfl, rfl⟩
    · rw [t_X_keep (by omega) (by omega), m2, if_pos c]
    · rw [t_M_keep (L := 998) hv (by omega) (by omega), m3, if_pos c]
    · refine h.t (fun b j q r => by rw [rdI_wrI, if_neg (by omega)]) rfl (fun b j q r => by rw [rdI_wrI, if_neg r]) rfl ⟨v.toNat, by omega, by rw [rdI_wrI, if_pos ⟨rfl, rfl⟩]; omega, by rw [rdI_wrI, if_pos ⟨rfl, rfl⟩]; omega, fun i hi => ?_⟩
      rw [rdI_wrI, if_neg (by omega), rdI_wrI, if_neg (by omega)]
      exact m4 i (by omega)
  · refine Lk_ro (r := vI (-1)) h (fun Q => ?_) (fun Q => ?_)
    · rw [t_X_keep (by omega) (by omega), m2, if_neg c]
    · rw [t_M_keep (L := 998) hv (by omega) (by omega), m3, if_neg c]
def RTn (hx hm : AH) (n : Nat) : Prop := rdI hx 5 1 = n ∧ rdI hm 61 1 = n ∧ ∀ i < n, rdI hx 6 i = rdI hm 62 i
theorem RTn.ap {b0 b1 b2 b3 : Int} (h : RTn hx hm n) : RTn (ap4 hx 6 5 1 b0 b1 b2 b3) (ap4 hm 62 61 1 b0 b1 b2 b3) (n + 4) := by
  obtain ⟨h1, h2, h3⟩ := h
  refine ⟨by rw [ap4_len, h1]; push_cast; rfl, by rw [ap4_len, h2]; push_cast; rfl, fun i hi => ?_⟩
  unfold ap4
  rw [h1, h2]
  simp only [rdI_wrI, show (n : Int).toNat = n from Int.toNat_natCast n, show ((n : Int) + 1).toNat = n + 1 by omega, show ((n : Int) + 1 + 1).toNat = n + 2 by omega, show ((n : Int) + 1 + 1 + 1).toNat = n + 3 by omega, true_and, Nat.reduceEqDiff, false_and, if_false]
  by_cases c3 : i = n + 3
  · rw [if_pos c3, if_pos c3]
  by_cases c2 : i = n + 2
  · rw [if_neg c3, if_pos c2, if_neg c3, if_pos c2]
  by_cases c1 : i = n + 1
  · rw [if_neg c3, if_neg c2, if_pos c1, if_neg c3, if_neg c2, if_pos c1]
  by_cases c0 : i = n
  · rw [if_neg c3, if_neg c2, if_neg c1, if_pos c0, if_neg c3, if_neg c2, if_neg c1, if_pos c0]
  rw [if_neg c3, if_neg c2, if_neg c1, if_neg c0, if_neg c3, if_neg c2, if_neg c1, if_neg c0]
  exact h3 i (by omega)
theorem ap4_fr {h : AH} {aB aO f b j : Nat} {b0 b1 b2 b3 : Int} (h1 : b ≠ aB) (h2 : ¬ (b = aO ∧ j = f)) : rdI (ap4 h aB aO f b0 b1 b2 b3) b j = rdI h b j := by
  unfold ap4
  simp only [rdI_wrI]
  rw [if_neg h2, if_neg (fun q => h1 q.1), if_neg h2, if_neg (fun q => h1 q.1), if_neg h2, if_neg (fun q => h1 q.1), if_neg h2, if_neg (fun q => h1 q.1)]
theorem ap20_fr {h : AH} {aB aO f b j : Nat} {a0 a1 a2 a3 a4 : Int} (h1 : b ≠ aB) (h2 : ¬ (b = aO ∧ j = f)) : rdI (ap20 h aB aO f a0 a1 a2 a3 a4) b j = rdI h b j := by
  unfold ap20
  rw [ap4_fr h1 h2, ap4_fr h1 h2, ap4_fr h1 h2, ap4_fr h1 h2, ap4_fr h1 h2]
theorem l_feed {a b c d e : Int} (h : Rel B hx hm) : Lk B B hx hm 1 [vR (some 4), vI a, vI b, vI c, vI d, vI e] 123 [vR (some 61), vI a, vI b, vI c, vI d, vI e] := by
  obtain ⟨n, ns, k, hR, hJ, hW⟩ := id h
  obtain ⟨m, m1, m2, m3, m4⟩ := hR.2.1
  by_cases q : (m : Int) + 20 ≤ 200
  · refine ⟨vI ((m : Int) + 20), ap20 hx 6 5 1 a b c d e, ap20 hm 62 61 1 a b c d e, fun Q => ?_, fun Q => ?_, ?_, Nat.le_add_right _ _, Nat.le_add_right _ _, rfl, rfl⟩
    · rw [t_X_feed (L := 998) (by omega) (by omega), m2, if_pos q]
    · rw [t_M_feed (L := 998) (by omega) (by omega), m3, if_pos q]
    · have z : RTn (ap20 hx 6 5 1 a b c d e) (ap20 hm 62 61 1 a b c d e) (m + 20) := (((((show RTn hx hm m from ⟨m2, m3, m4⟩).ap).ap).ap).ap).ap
      exact h.t (fun b j q r => ap20_fr r (fun w => q w.1)) rfl (fun b j q r => ap20_fr q r) rfl ⟨m + 20, by omega, z.1, z.2.1, z.2.2⟩
  · refine Lk_ro (r := vI (-2)) h (fun Q => ?_) (fun Q => ?_)
    · rw [t_X_feed (L := 998) (by omega) (by omega), m2, if_neg q]
    · rw [t_M_feed (L := 998) (by omega) (by omega), m3, if_neg q]
end SM
