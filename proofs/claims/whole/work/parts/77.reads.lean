/-! the calls that only look -/
section RD
variable {hx hm : AH} {B : Nat}
theorem Lk_ro {kx km : Nat} {ax am : List AV} {r : AV} (h : Rel B hx hm) (e1 : ∀ Q, Call sysS GX 999 kx ax hx Q ↔ Q (some r) hx) (e2 : ∀ Q, Call sysS GM 999 km am hm Q ↔ Q (some r) hm) : Lk B B hx hm kx ax km am :=
  ⟨r, hx, hm, e1, e2, h, by omega, by omega, rfl, rfl⟩
theorem l_fault (h : Rel B hx hm) : Lk B B hx hm 4 [vR (some 4)] 165 [vR (some 61)] := by
  obtain ⟨n, ns, k, ⟨h0, h1, h2, h3, h4, h5, h6, h7, h8, h9, h10, h11⟩, hJ, hW⟩ := id h
  refine Lk_ro h (fun Q => t_X_fault) (fun Q => ?_)
  rw [t_M_fault, h10.2.2.2.2.1]
theorem l_change {a b : Int} (ha : inr a) (hb : inr b) (h : Rel B hx hm) : Lk B B hx hm 18 [vR (some 4), vI a, vI b] 190 [vR (some 61), vI a, vI b] := by
  obtain ⟨n, ns, k, ⟨h0, h1, h2, ⟨g0, g1, g2, g3, g4, g5⟩, hr⟩, hJ, hW⟩ := id h
  refine Lk_ro h (fun Q => t_X_change (by omega) (by omega)) (fun Q => ?_)
  rw [t_M_change2 (L := 998) ha hb (by omega) (by omega), g1, g2]
  by_cases c : 1 ≤ a ∧ a ≤ (n : Int)
  · obtain ⟨e1, e2, e3, e4⟩ := g3 a.toNat (by omega) (by omega)
    rw [if_pos c, if_pos c, e1, e2, e3]
  · rw [if_neg c, if_neg c]
theorem l_when {a : Int} (ha : inr a) (h : Rel B hx hm) : Lk B B hx hm 19 [vR (some 4), vI a] 191 [vR (some 61), vI a] := by
  obtain ⟨n, ns, k, ⟨h0, h1, h2, ⟨g0, g1, g2, g3, g4, g5⟩, hr⟩, hJ, hW⟩ := id h
  refine Lk_ro h (fun Q => t_X_when (by omega) (by omega)) (fun Q => ?_)
  rw [t_M_when (L := 998) ha (by omega) (by omega), g1, g2]
  by_cases c : 1 ≤ a ∧ a ≤ (n : Int)
  · obtain ⟨e1, e2, e3, e4⟩ := g3 a.toNat (by omega) (by omega)
    rw [if_pos c, if_pos c, e4]
  · rw [if_neg c, if_neg c]
theorem l_rules {a b c : Int} (ha : inr a) (hb : inr b) (hc : inr c) (h : Rel B hx hm) : Lk B B hx hm 16 [vR (some 4), vI a, vI b, vI c] 187 [vR (some 61), vI a, vI b, vI c] := by
  obtain ⟨n, ns, k, ⟨h0, h1, ⟨nf, ⟨n1, n2, n3⟩, m1, m2, m3⟩, ⟨g0, g1, g2, g3, g4, g5⟩, hr⟩, hJ, hW⟩ := id h
  refine Lk_ro h (fun Q => t_X_rules (L := 997) (by omega) (by omega) (by omega) (by omega)) (fun Q => ?_)
  rw [t_M_rules (L := 998) ha hb hc (by omega) (by omega) (by omega) (by omega), g1, g2, n1, m1]
  by_cases d : 0 ≤ a ∧ a ≤ (n : Int) ∧ 0 ≤ b ∧ b < (ns : Int)
  · obtain ⟨t, e1, e2, e3, e4, e5⟩ := g5 a.toNat (by omega) b.toNat (by omega)
    rw [show 8 * a.toNat + b.toNat = (8 * a + b).toNat by omega] at e1 e2 e5
    rw [if_pos d, if_pos d, e1, e2]
    by_cases t0 : t = 0
    · subst t0
      rcases e5 with ⟨-, -, z⟩ | ⟨z1, z2⟩
      · exact absurd rfl z
      · rw [z1, z2]; simp
    · rcases e5 with ⟨z1, z2, z3⟩ | ⟨z1, z2⟩
      · rw [z1, z2]
        simp only [show ¬ ((t : Int) = 0) by omega, show (0 : Int) < t by omega, if_true, if_false]
        simp
      · rw [z1, z2]
        simp only [show ¬ ((t : Int) = 0) by omega, show (0 : Int) < t by omega, if_true, if_false]
        simp
  · rw [if_neg d, if_neg d]
theorem l_failed {a b : Int} (ha : inr a) (hb : inr b) (h : Rel B hx hm) : Lk B B hx hm 20 [vR (some 4), vI a, vI b] 192 [vR (some 61), vI a, vI b] := by
  obtain ⟨n, ns, k, ⟨⟨k1, k6, h0⟩, h1, h2, h3, h4, h5, h6, h7, h8, h9, ⟨t1, t2, hr⟩, h11⟩, hJ, hW⟩ := id h
  refine Lk_ro h (fun Q => t_X_failed (L := 998) (by omega) (by omega)) (fun Q => ?_)
  rw [t_M_failed2 (L := 997) ha hb (by omega) (by omega), t1, t2]
  by_cases c : 0 ≤ a ∧ a < (k : Int)
  · rw [if_pos c, if_pos c]
    obtain ⟨e1, e2⟩ := h8 a.toNat (by omega)
    rw [e1]
    rcases e2 with ⟨z, z1, z2⟩ | ⟨z, z1, z2⟩
    · rw [z1, z2, if_pos z, if_pos z]
    · rw [z1, z2, if_neg z, if_neg z]
  · rw [if_neg c, if_neg c]
theorem RRg_b (hB : B < 2000000000) (h : RRg hx hm B) : (∀ x : Nat, x < 6 → 0 ≤ rdI hx (28 + 4 * x) 7 ∧ rdI hx (28 + 4 * x) 7 < 40 ∧ rdI hx (28 + 4 * x) 8 ≤ 40) ∧ ∀ x : Nat, x < 6 → 0 ≤ rdI hm 84 x ∧ rdI hm 84 x < 2147483648 := by
  refine ⟨fun x hx6 => ?_, fun x hx6 => ?_⟩
  · obtain ⟨o, e1, e2, e3, e4, e5⟩ := h x hx6
    rw [e3, e4]
    refine ⟨by omega, by omega, ?_⟩
    split <;> omega
  · obtain ⟨o, e1, e2, e3, e4, e5⟩ := h x hx6
    rw [e2]
    omega
theorem ring {o a : Nat} (h : a < 40) (h2 : a < o) : (((o % 40 : Nat) : Int) - 1 - (a : Int)) % 40 = ((o : Int) - 1 - a) % 40 := by omega
theorem l_out {a b : Int} (hB : B < 2000000000) (ha : inr a) (hb : inr b) (h : Rel B hx hm) : Lk B B hx hm 13 [vR (some 4), vI a, vI b] 184 [vR (some 61), vI a, vI b] := by
  obtain ⟨n, ns, k, ⟨⟨k1, k6, h0⟩, h1, h2, h3, h4, h5, h6, h7, h8, h9, ⟨t1, t2, hr⟩, h11⟩, hJ, hW⟩ := id h
  obtain ⟨q1, q2⟩ := RRg_b hB h7
  refine Lk_ro h (fun Q => t_X_out (L := 997) (by omega) (by omega) q1) (fun Q => ?_)
  rw [t_M_out (L := 996) ha hb (by omega) (by omega) q2, t1, t2]
  by_cases c : 0 ≤ a ∧ a < (k : Int)
  · obtain ⟨o, e1, e2, e3, e4, e5⟩ := h7 a.toNat (by omega)
    rw [e2, e3, e4]
    have z : (((if o < 40 then o else 40 : Nat) : Nat) : Int) = if (o : Int) < 40 then (o : Int) else 40 := by split <;> split <;> omega
    rw [z]
    by_cases d : 0 ≤ b ∧ b < (if (o : Int) < 40 then (o : Int) else 40)
    · rw [if_pos ⟨c, d⟩, if_pos ⟨c, d⟩]
      have d1 : b < 40 := by have := d.2; split at this <;> omega
      have d2 : b < o := by have := d.2; split at this <;> omega
      obtain ⟨j1, j2⟩ := e5 (((o : Int) - 1 - b) % 40).toNat (by omega) (by omega)
      have w : (((o % 40 : Nat) : Int) - 1 - b) % 40 = ((o : Int) - 1 - b) % 40 := by omega
      rw [w, j1, show 40 * a.toNat + (((o : Int) - 1 - b) % 40).toNat = (40 * a + ((o : Int) - 1 - b) % 40).toNat by omega]
    · rw [if_neg (fun q => d q.2), if_neg (fun q => d q.2)]
  · rw [if_neg (fun q => c q.1), if_neg (fun q => c q.1)]
theorem l_from {a b : Int} (hB : B < 2000000000) (ha : inr a) (hb : inr b) (h : Rel B hx hm) : Lk B B hx hm 14 [vR (some 4), vI a, vI b] 185 [vR (some 61), vI a, vI b] := by
  obtain ⟨n, ns, k, ⟨⟨k1, k6, h0⟩, h1, h2, h3, h4, h5, h6, h7, h8, h9, ⟨t1, t2, hr⟩, h11⟩, hJ, hW⟩ := id h
  obtain ⟨q1, q2⟩ := RRg_b hB h7
  refine Lk_ro h (fun Q => t_X_from (L := 997) (by omega) (by omega) q1) (fun Q => ?_)
  rw [t_M_from (L := 996) ha hb (by omega) (by omega) q2, t1, t2]
  by_cases c : 0 ≤ a ∧ a < (k : Int)
  · obtain ⟨o, e1, e2, e3, e4, e5⟩ := h7 a.toNat (by omega)
    rw [e2, e3, e4, if_pos c, if_pos c]
    have z : (((if o < 40 then o else 40 : Nat) : Nat) : Int) = if (o : Int) < 40 then (o : Int) else 40 := by split <;> split <;> omega
    rw [z]
    by_cases d : 0 ≤ b ∧ b < (if (o : Int) < 40 then (o : Int) else 40)
    · rw [if_pos d, if_pos d]
      have d1 : b < 40 := by have := d.2; split at this <;> omega
      have d2 : b < o := by have := d.2; split at this <;> omega
      obtain ⟨j1, j2⟩ := e5 (((o : Int) - 1 - b) % 40).toNat (by omega) (by omega)
      have w : (((o % 40 : Nat) : Int) - 1 - b) % 40 = ((o : Int) - 1 - b) % 40 := by omega
      rw [w, j2, show 40 * a.toNat + (((o : Int) - 1 - b) % 40).toNat = (40 * a + ((o : Int) - 1 - b) % 40).toNat by omega]
    · rw [if_neg d, if_neg d]
  · rw [if_neg c, if_neg c]
/-- the version of a time, on both sides -/
theorem at_eq {n ns : Nat} {u : Int64} (h : RLg hx hm n ns) : preR (fun j => rdL hx 21 j) u 0 n = cntR (fun j => rdL hm 75 j) u 1 n := by
  obtain ⟨g0, g1, g2, g3, g4, g5⟩ := h
  have e : ∀ k v, v + k ≤ n → preR (fun j => rdL hx 21 j) u v k = preR (fun j => rdL hm 75 j) u v k := by
    intro k
    induction k with
    | zero => intro v _; rfl
    | succ k ih =>
      intro v hv
      simp only [preR]
      simp only [(g3 (v + 1) (by omega) (by omega)).2.2.2, ih (v + 1) (by omega)]
  rw [e n 0 (by omega), cnt_pre n 0 (fun j h1 h2 => g4 j (by omega) (by omega))]
  simp
set_option maxRecDepth 10000 in
theorem l_at {u : Int64} (h : Rel B hx hm) : Lk B B hx hm 15 [vR (some 4), vL u] 186 [vR (some 61), vL u] := by
  obtain ⟨n, ns, k, ⟨h0, h1, h2, h3, hr⟩, hJ, hW⟩ := id h
  obtain ⟨g0, g1, g2, g3, g4, g5⟩ := id h3
  refine Lk_ro (r := vI (cntR (fun j => rdL hm 75 j) u 1 n)) h (fun Q => ?_) (fun Q => ?_)
  · simp only [e_X_at, b_X_at_0, r_X_at, R_iconst, R_lc, R_null, R_ldc, R_gets0, R_gets1, R_objI, R_dupI, R_dupR, R_popI, R_popR, R_dup2L, R_dup2IR, R_pop2, R_i2l, R_l2i, R_lneg, R_lcmp, R_iadd, R_isub, R_imul, R_iand, R_ior, R_ixor, R_ishl, R_ishr, R_iushr, R_i2b, R_i2c, R_ladd, R_lsub, R_lmul, R_land, R_lor, R_lxor, R_lshl, R_lushr, R_goto, R_gotow, R_ifnullN, R_ifnullS, R_ifnonN, R_ifnonS, R_ifeq, R_ifne, R_iflt, R_ifge, R_ifgt, R_ifle, R_icmpeq, R_icmpne, R_icmplt, R_icmpge, R_icmpgt, R_icmple, R_tsw, R_lsw, R_alen, R_iald, R_bald, R_lald, R_aald, R_iast, R_last, R_bast, R_aast, R_new, R_newI, R_gf, R_pfI, R_pfZ, R_pfL, R_pfR, isZ_0, isZ_1, isZ_ite, gfA_0, gfA_1, gfA_2, gfA_3, opt2_s, opt2_n, R_iload0, R_iload1, R_iload2, R_iload3, R_iload4, R_iload5, R_iload6, R_iload7, R_iload8, R_lload0, R_lload1, R_lload2, R_lload3, R_lload4, R_lload5, R_lload6, R_lload7, R_lload8, R_aload0, R_aload1, R_aload2, R_aload3, R_aload4, R_aload5, R_aload6, R_aload7, R_aload8, R_istore0, R_istore1, R_istore2, R_istore3, R_istore4, R_istore5, R_istore6, R_istore7, R_istore8, R_lstore0, R_lstore1, R_lstore2, R_lstore3, R_lstore4, R_lstore5, R_lstore6, R_lstore7, R_lstore8, R_astore0, R_astore1, R_astore2, R_astore3, R_astore4, R_astore5, R_astore6, R_astore7, R_astore8, R_iinc0, R_iinc1, R_iinc2, R_iinc3, R_iinc4, R_iinc5, R_iinc6, R_iinc7, R_iinc8, KX_1, KX_2, KX_3, KX_4, OX_4, KX_5, OX_5, KX_6, OX_6, KX_7, OX_7, KX_8, OX_8, KX_9, OX_9, KX_10, OX_10, KX_11, OX_11, KX_12, OX_12, KX_13, OX_13, KX_14, OX_14, KX_15, OX_15, KX_16, OX_16, KX_17, OX_17, KX_18, OX_18, KX_19, OX_19, KX_20, OX_20, KX_21, OX_21, KX_22, OX_22, KX_23, OX_23, KX_24, OX_24, KX_25, OX_25, KX_26, OX_26, KX_27, OX_27, KX_28, OX_28, KX_29, OX_29, KX_30, OX_30, KX_31, OX_31, KX_32, OX_32, KX_33, OX_33, KX_34, OX_34, KX_35, OX_35, KX_36, OX_36, KX_37, OX_37, KX_38, OX_38, KX_39, OX_39, KX_40, OX_40, KX_41, OX_41, KX_42, OX_42, KX_43, OX_43, KX_44, OX_44, KX_45, OX_45, KX_46, OX_46, KX_47, OX_47, KX_48, OX_48, KX_49, OX_49, KX_50, OX_50, KX_51, OX_51, KX_52, OX_52, KX_53, OX_53, KX_54, OX_54, KX_55, OX_55, KX_56, OX_56, KX_57, OX_57, KX_58, OX_58, KX_59, OX_59, KX_60, OX_60, PX_2_0, PX_4_0, PX_4_1, PX_4_2, PX_4_3, PX_4_4, PX_4_5, PX_4_6, PX_5_0, PX_7_0, PX_9_0, PX_9_1, PX_10_0, PX_10_1, PX_10_2, PX_14_0, PX_14_1, PX_17_0, PX_17_1, PX_17_2, PX_17_3, PX_17_4, PX_17_5, PX_17_6, PX_25_0, PX_27_0, PX_27_1, PX_27_2, PX_27_3, PX_27_4, PX_27_5, PX_28_3, PX_28_5, PX_28_6, PX_32_3, PX_32_5, PX_32_6, PX_36_3, PX_36_5, PX_36_6, PX_40_3, PX_40_5, PX_40_6, PX_44_3, PX_44_5, PX_44_6, PX_48_3, PX_48_5, PX_48_6, PX_52_0, PX_52_1, PX_52_2, PX_52_3, PX_53_1, PX_55_1, PX_57_1, PX_59_1, Nat.reduceDiv, Nat.reduceMod, Nat.reduceLeDiff, Nat.reduceEqDiff, Int.reduceToNat, Int.reduceLT, Int.reduceLE, Int.reduceEq, Int.reduceNeg, Int.reduceAdd, Int.reduceSub, Int.reduceMul, not_true_eq_false, not_false_eq_true, true_or, or_true, or_false, false_or, false_and, and_false, w32_lit, lc_lt, lc_gt, lc_eq, lc_ge, lc_le, ite10, true_and, and_true, reduceIte, Nat.reduceLT, cats, catA, Nat.reduceAdd, Nat.zero_le, Nat.reduceLeDiff, i_Log_versionOf]
    rw [t_Log_versionOf (by omega) (by omega), g1, Int.toNat_natCast, at_eq h3]
    simp only [b_X_at_0, r_X_at, R_iconst, R_lc, R_null, R_ldc, R_gets0, R_gets1, R_objI, R_dupI, R_dupR, R_popI, R_popR, R_dup2L, R_dup2IR, R_pop2, R_i2l, R_l2i, R_lneg, R_lcmp, R_iadd, R_isub, R_imul, R_iand, R_ior, R_ixor, R_ishl, R_ishr, R_iushr, R_i2b, R_i2c, R_ladd, R_lsub, R_lmul, R_land, R_lor, R_lxor, R_lshl, R_lushr, R_goto, R_gotow, R_ifnullN, R_ifnullS, R_ifnonN, R_ifnonS, R_ifeq, R_ifne, R_iflt, R_ifge, R_ifgt, R_ifle, R_icmpeq, R_icmpne, R_icmplt, R_icmpge, R_icmpgt, R_icmple, R_tsw, R_lsw, R_alen, R_iald, R_bald, R_lald, R_aald, R_iast, R_last, R_bast, R_aast, R_new, R_newI, R_gf, R_pfI, R_pfZ, R_pfL, R_pfR, isZ_0, isZ_1, isZ_ite, gfA_0, gfA_1, gfA_2, gfA_3, opt2_s, opt2_n, R_iload0, R_iload1, R_iload2, R_iload3, R_iload4, R_iload5, R_iload6, R_iload7, R_iload8, R_lload0, R_lload1, R_lload2, R_lload3, R_lload4, R_lload5, R_lload6, R_lload7, R_lload8, R_aload0, R_aload1, R_aload2, R_aload3, R_aload4, R_aload5, R_aload6, R_aload7, R_aload8, R_istore0, R_istore1, R_istore2, R_istore3, R_istore4, R_istore5, R_istore6, R_istore7, R_istore8, R_lstore0, R_lstore1, R_lstore2, R_lstore3, R_lstore4, R_lstore5, R_lstore6, R_lstore7, R_lstore8, R_astore0, R_astore1, R_astore2, R_astore3, R_astore4, R_astore5, R_astore6, R_astore7, R_astore8, R_iinc0, R_iinc1, R_iinc2, R_iinc3, R_iinc4, R_iinc5, R_iinc6, R_iinc7, R_iinc8, KX_1, KX_2, KX_3, KX_4, OX_4, KX_5, OX_5, KX_6, OX_6, KX_7, OX_7, KX_8, OX_8, KX_9, OX_9, KX_10, OX_10, KX_11, OX_11, KX_12, OX_12, KX_13, OX_13, KX_14, OX_14, KX_15, OX_15, KX_16, OX_16, KX_17, OX_17, KX_18, OX_18, KX_19, OX_19, KX_20, OX_20, KX_21, OX_21, KX_22, OX_22, KX_23, OX_23, KX_24, OX_24, KX_25, OX_25, KX_26, OX_26, KX_27, OX_27, KX_28, OX_28, KX_29, OX_29, KX_30, OX_30, KX_31, OX_31, KX_32, OX_32, KX_33, OX_33, KX_34, OX_34, KX_35, OX_35, KX_36, OX_36, KX_37, OX_37, KX_38, OX_38, KX_39, OX_39, KX_40, OX_40, KX_41, OX_41, KX_42, OX_42, KX_43, OX_43, KX_44, OX_44, KX_45, OX_45, KX_46, OX_46, KX_47, OX_47, KX_48, OX_48, KX_49, OX_49, KX_50, OX_50, KX_51, OX_51, KX_52, OX_52, KX_53, OX_53, KX_54, OX_54, KX_55, OX_55, KX_56, OX_56, KX_57, OX_57, KX_58, OX_58, KX_59, OX_59, KX_60, OX_60, PX_2_0, PX_4_0, PX_4_1, PX_4_2, PX_4_3, PX_4_4, PX_4_5, PX_4_6, PX_5_0, PX_7_0, PX_9_0, PX_9_1, PX_10_0, PX_10_1, PX_10_2, PX_14_0, PX_14_1, PX_17_0, PX_17_1, PX_17_2, PX_17_3, PX_17_4, PX_17_5, PX_17_6, PX_25_0, PX_27_0, PX_27_1, PX_27_2, PX_27_3, PX_27_4, PX_27_5, PX_28_3, PX_28_5, PX_28_6, PX_32_3, PX_32_5, PX_32_6, PX_36_3, PX_36_5, PX_36_6, PX_40_3, PX_40_5, PX_40_6, PX_44_3, PX_44_5, PX_44_6, PX_48_3, PX_48_5, PX_48_6, PX_52_0, PX_52_1, PX_52_2, PX_52_3, PX_53_1, PX_55_1, PX_57_1, PX_59_1, Nat.reduceDiv, Nat.reduceMod, Nat.reduceLeDiff, Nat.reduceEqDiff, Int.reduceToNat, Int.reduceLT, Int.reduceLE, Int.reduceEq, Int.reduceNeg, Int.reduceAdd, Int.reduceSub, Int.reduceMul, not_true_eq_false, not_false_eq_true, true_or, or_true, or_false, false_or, false_and, and_false, w32_lit, lc_lt, lc_gt, lc_eq, lc_ge, lc_le, ite10, true_and, and_true, reduceIte, Nat.reduceLT, cats, catA, Nat.reduceAdd, Nat.zero_le, Nat.reduceLeDiff, r_X_at]
  · rw [t_M_at (by omega) (by omega), g2, Int.toNat_natCast]
theorem l_count {a : Int} (ha : inr a) (h : Rel B hx hm) : Lk B B hx hm 25 [vR (some 4), vI a] 197 [vR (some 61), vI a] := by
  obtain ⟨n, ns, k, ⟨⟨k1, k6, h0⟩, h1, ⟨nf, ⟨n1, n2, n3⟩, m1, m2, m3⟩, ⟨g0, g1, g2, g3⟩, h4, h5, h6, h7, h8, ⟨mk, p1, p2, p3, p4⟩, ⟨t1, t2, t3, t4, t5, t6, t7⟩, h11⟩, hJ, hW⟩ := id h
  refine Lk_ro h (fun Q => t_X_count (L := 998) ha (by omega) (by omega)) (fun Q => ?_)
  rw [t_M_count (L := 997) ha (by omega) (by omega), t1, t2, t6, t7, g1, g2, n1, m1, p2, p3, hJ.2]
  by_cases c : (10 ≤ a ∧ a ≤ 49) ∧ a % 10 < (k : Int)
  · rw [if_pos c, if_pos (show 10 ≤ a ∧ a % 10 < (k : Int) from ⟨c.1.1, c.2⟩)]
    obtain ⟨q, f1, f2, f3, f4⟩ := h5 (a % 10).toNat (by omega)
    obtain ⟨o, e1, e2, e3, e4, e5⟩ := h7 (a % 10).toNat (by omega)
    obtain ⟨w, w1, w2, w3, w4⟩ := hW (a % 10).toNat (by omega)
    rw [f2, f3, e2, e4, w2, w3, hJ.1 (a % 10).toNat (by omega)]
    have z : (((if o < 40 then o else 40 : Nat) : Nat) : Int) = if (o : Int) < 40 then (o : Int) else 40 := by split <;> split <;> omega
    rw [z]
    have : a / 10 = 1 ∨ a / 10 = 2 ∨ a / 10 = 3 ∨ a / 10 = 4 := by omega
    rcases this with y | y | y | y
    · rw [if_pos y, if_pos (show a < 20 by omega)]
    · rw [if_neg (show ¬ a / 10 = 1 by omega), if_pos y, if_neg (show ¬ a < 20 by omega), if_pos (show a < 30 by omega)]
    · rw [if_neg (show ¬ a / 10 = 1 by omega), if_neg (show ¬ a / 10 = 2 by omega), if_pos y, if_neg (show ¬ a < 20 by omega), if_neg (show ¬ a < 30 by omega), if_pos (show a < 40 by omega)]
    · rw [if_neg (show ¬ a / 10 = 1 by omega), if_neg (show ¬ a / 10 = 2 by omega), if_neg (show ¬ a / 10 = 3 by omega), if_pos y, if_neg (show ¬ a < 20 by omega), if_neg (show ¬ a < 30 by omega), if_neg (show ¬ a < 40 by omega)]
  · rw [if_neg c]
    by_cases d : 10 ≤ a ∧ a % 10 < (k : Int)
    · rw [if_pos d, if_neg (show ¬ a / 10 = 1 by omega), if_neg (show ¬ a / 10 = 2 by omega), if_neg (show ¬ a / 10 = 3 by omega), if_neg (show ¬ a / 10 = 4 by omega)]
    · rw [if_neg d]
end RD
