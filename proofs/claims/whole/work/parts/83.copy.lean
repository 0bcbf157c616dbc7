/-! x copies its draft -/
section CP
variable {h : AH} {L p N b1 b2 k : Nat} {f : Cd} {Q : Option AV → AH → Prop}
theorem OXn {a : Nat} (ha : 93 ≤ a) : GX.2.2 a = true := by
  show wX a = true
  unfold wX
  simp only [Bool.or_eq_true, decide_eq_true_eq]
  omega
theorem GXn {a j : Nat} (ha : 93 ≤ a) : GX.1 a j = none := phi_new ha
theorem GXk {a : Nat} (ha : 93 ≤ a) : GX.2.1 a = none := kap_new ha
set_option maxRecDepth 10000 in
theorem t_dStep {i : Nat} (hi : i < 200) : Call sysS GX L 63 [vR (some 14), vI i] h Q ↔ Q (some (vI (rdI h 15 i))) h := by
  simp only [e_Program_stepAt, b_Program_stepAt_0, b_Program_stepAt_22, b_Program_stepAt_23, r_Program_stepAt, R_iconst, R_lc, R_null, R_ldc, R_gets0, R_gets1, R_objI, R_dupI, R_dupR, R_popI, R_popR, R_dup2L, R_dup2IR, R_pop2, R_i2l, R_l2i, R_lneg, R_lcmp, R_iadd, R_isub, R_imul, R_iand, R_ior, R_ixor, R_ishl, R_ishr, R_iushr, R_i2b, R_i2c, R_ladd, R_lsub, R_lmul, R_land, R_lor, R_lxor, R_lshl, R_lushr, R_goto, R_gotow, R_ifnullN, R_ifnullS, R_ifnonN, R_ifnonS, R_ifeq, R_ifne, R_iflt, R_ifge, R_ifgt, R_ifle, R_icmpeq, R_icmpne, R_icmplt, R_icmpge, R_icmpgt, R_icmple, R_tsw, R_lsw, R_alen, R_iald, R_bald, R_lald, R_aald, R_iast, R_last, R_bast, R_aast, R_new, R_newI, R_gf, R_pfI, R_pfZ, R_pfL, R_pfR, isZ_0, isZ_1, isZ_ite, gfA_0, gfA_1, gfA_2, gfA_3, opt2_s, opt2_n, R_iload0, R_iload1, R_iload2, R_iload3, R_iload4, R_iload5, R_iload6, R_iload7, R_iload8, R_lload0, R_lload1, R_lload2, R_lload3, R_lload4, R_lload5, R_lload6, R_lload7, R_lload8, R_aload0, R_aload1, R_aload2, R_aload3, R_aload4, R_aload5, R_aload6, R_aload7, R_aload8, R_istore0, R_istore1, R_istore2, R_istore3, R_istore4, R_istore5, R_istore6, R_istore7, R_istore8, R_lstore0, R_lstore1, R_lstore2, R_lstore3, R_lstore4, R_lstore5, R_lstore6, R_lstore7, R_lstore8, R_astore0, R_astore1, R_astore2, R_astore3, R_astore4, R_astore5, R_astore6, R_astore7, R_astore8, R_iinc0, R_iinc1, R_iinc2, R_iinc3, R_iinc4, R_iinc5, R_iinc6, R_iinc7, R_iinc8, KX_1, KX_2, KX_3, KX_4, OX_4, KX_5, OX_5, KX_6, OX_6, KX_7, OX_7, KX_8, OX_8, KX_9, OX_9, KX_10, OX_10, KX_11, OX_11, KX_12, OX_12, KX_13, OX_13, KX_14, OX_14, KX_15, OX_15, KX_16, OX_16, KX_17, OX_17, KX_18, OX_18, KX_19, OX_19, KX_20, OX_20, KX_21, OX_21, KX_22, OX_22, KX_23, OX_23, KX_24, OX_24, KX_25, OX_25, KX_26, OX_26, KX_27, OX_27, KX_28, OX_28, KX_29, OX_29, KX_30, OX_30, KX_31, OX_31, KX_32, OX_32, KX_33, OX_33, KX_34, OX_34, KX_35, OX_35, KX_36, OX_36, KX_37, OX_37, KX_38, OX_38, KX_39, OX_39, KX_40, OX_40, KX_41, OX_41, KX_42, OX_42, KX_43, OX_43, KX_44, OX_44, KX_45, OX_45, KX_46, OX_46, KX_47, OX_47, KX_48, OX_48, KX_49, OX_49, KX_50, OX_50, KX_51, OX_51, KX_52, OX_52, KX_53, OX_53, KX_54, OX_54, KX_55, OX_55, KX_56, OX_56, KX_57, OX_57, KX_58, OX_58, KX_59, OX_59, KX_60, OX_60, PX_2_0, PX_4_0, PX_4_1, PX_4_2, PX_4_3, PX_4_4, PX_4_5, PX_4_6, PX_5_0, PX_7_0, PX_9_0, PX_9_1, PX_10_0, PX_10_1, PX_10_2, PX_14_0, PX_14_1, PX_17_0, PX_17_1, PX_17_2, PX_17_3, PX_17_4, PX_17_5, PX_17_6, PX_25_0, PX_27_0, PX_27_1, PX_27_2, PX_27_3, PX_27_4, PX_27_5, PX_28_3, PX_28_5, PX_28_6, PX_32_3, PX_32_5, PX_32_6, PX_36_3, PX_36_5, PX_36_6, PX_40_3, PX_40_5, PX_40_6, PX_44_3, PX_44_5, PX_44_6, PX_48_3, PX_48_5, PX_48_6, PX_52_0, PX_52_1, PX_52_2, PX_52_3, PX_53_1, PX_55_1, PX_57_1, PX_59_1, Nat.reduceDiv, Nat.reduceMod, Nat.reduceLeDiff, Nat.reduceEqDiff, Int.reduceToNat, Int.reduceLT, Int.reduceLE, Int.reduceEq, Int.reduceNeg, Int.reduceAdd, Int.reduceSub, Int.reduceMul, not_true_eq_false, not_false_eq_true, true_or, or_true, or_false, false_or, false_and, and_false, w32_lit, lc_lt, lc_gt, lc_eq, lc_ge, lc_le, ite10, true_and, and_true, reduceIte, Nat.reduceLT, cats, catA, Nat.reduceAdd, Nat.zero_le, Nat.reduceLeDiff]
  simp (disch := omega) only [w32_id, inA_t, isZ_t, i2l_id, l2i_id, if_pos, if_neg, true_and, and_true]
  simp only [Int.toNat_natCast]
set_option maxRecDepth 10000 in
theorem t_dDet {i : Nat} (hi : i < 200) : Call sysS GX L 64 [vR (some 14), vI i] h Q ↔ Q (some (vI (rdI h 16 i))) h := by
  simp only [e_Program_detailAt, b_Program_detailAt_0, b_Program_detailAt_22, b_Program_detailAt_23, r_Program_detailAt, R_iconst, R_lc, R_null, R_ldc, R_gets0, R_gets1, R_objI, R_dupI, R_dupR, R_popI, R_popR, R_dup2L, R_dup2IR, R_pop2, R_i2l, R_l2i, R_lneg, R_lcmp, R_iadd, R_isub, R_imul, R_iand, R_ior, R_ixor, R_ishl, R_ishr, R_iushr, R_i2b, R_i2c, R_ladd, R_lsub, R_lmul, R_land, R_lor, R_lxor, R_lshl, R_lushr, R_goto, R_gotow, R_ifnullN, R_ifnullS, R_ifnonN, R_ifnonS, R_ifeq, R_ifne, R_iflt, R_ifge, R_ifgt, R_ifle, R_icmpeq, R_icmpne, R_icmplt, R_icmpge, R_icmpgt, R_icmple, R_tsw, R_lsw, R_alen, R_iald, R_bald, R_lald, R_aald, R_iast, R_last, R_bast, R_aast, R_new, R_newI, R_gf, R_pfI, R_pfZ, R_pfL, R_pfR, isZ_0, isZ_1, isZ_ite, gfA_0, gfA_1, gfA_2, gfA_3, opt2_s, opt2_n, R_iload0, R_iload1, R_iload2, R_iload3, R_iload4, R_iload5, R_iload6, R_iload7, R_iload8, R_lload0, R_lload1, R_lload2, R_lload3, R_lload4, R_lload5, R_lload6, R_lload7, R_lload8, R_aload0, R_aload1, R_aload2, R_aload3, R_aload4, R_aload5, R_aload6, R_aload7, R_aload8, R_istore0, R_istore1, R_istore2, R_istore3, R_istore4, R_istore5, R_istore6, R_istore7, R_istore8, R_lstore0, R_lstore1, R_lstore2, R_lstore3, R_lstore4, R_lstore5, R_lstore6, R_lstore7, R_lstore8, R_astore0, R_astore1, R_astore2, R_astore3, R_astore4, R_astore5, R_astore6, R_astore7, R_astore8, R_iinc0, R_iinc1, R_iinc2, R_iinc3, R_iinc4, R_iinc5, R_iinc6, R_iinc7, R_iinc8, KX_1, KX_2, KX_3, KX_4, OX_4, KX_5, OX_5, KX_6, OX_6, KX_7, OX_7, KX_8, OX_8, KX_9, OX_9, KX_10, OX_10, KX_11, OX_11, KX_12, OX_12, KX_13, OX_13, KX_14, OX_14, KX_15, OX_15, KX_16, OX_16, KX_17, OX_17, KX_18, OX_18, KX_19, OX_19, KX_20, OX_20, KX_21, OX_21, KX_22, OX_22, KX_23, OX_23, KX_24, OX_24, KX_25, OX_25, KX_26, OX_26, KX_27, OX_27, KX_28, OX_28, KX_29, OX_29, KX_30, OX_30, KX_31, OX_31, KX_32, OX_32, KX_33, OX_33, KX_34, OX_34, KX_35, OX_35, KX_36, OX_36, KX_37, OX_37, KX_38, OX_38, KX_39, OX_39, KX_40, OX_40, KX_41, OX_41, KX_42, OX_42, KX_43, OX_43, KX_44, OX_44, KX_45, OX_45, KX_46, OX_46, KX_47, OX_47, KX_48, OX_48, KX_49, OX_49, KX_50, OX_50, KX_51, OX_51, KX_52, OX_52, KX_53, OX_53, KX_54, OX_54, KX_55, OX_55, KX_56, OX_56, KX_57, OX_57, KX_58, OX_58, KX_59, OX_59, KX_60, OX_60, PX_2_0, PX_4_0, PX_4_1, PX_4_2, PX_4_3, PX_4_4, PX_4_5, PX_4_6, PX_5_0, PX_7_0, PX_9_0, PX_9_1, PX_10_0, PX_10_1, PX_10_2, PX_14_0, PX_14_1, PX_17_0, PX_17_1, PX_17_2, PX_17_3, PX_17_4, PX_17_5, PX_17_6, PX_25_0, PX_27_0, PX_27_1, PX_27_2, PX_27_3, PX_27_4, PX_27_5, PX_28_3, PX_28_5, PX_28_6, PX_32_3, PX_32_5, PX_32_6, PX_36_3, PX_36_5, PX_36_6, PX_40_3, PX_40_5, PX_40_6, PX_44_3, PX_44_5, PX_44_6, PX_48_3, PX_48_5, PX_48_6, PX_52_0, PX_52_1, PX_52_2, PX_52_3, PX_53_1, PX_55_1, PX_57_1, PX_59_1, Nat.reduceDiv, Nat.reduceMod, Nat.reduceLeDiff, Nat.reduceEqDiff, Int.reduceToNat, Int.reduceLT, Int.reduceLE, Int.reduceEq, Int.reduceNeg, Int.reduceAdd, Int.reduceSub, Int.reduceMul, not_true_eq_false, not_false_eq_true, true_or, or_true, or_false, false_or, false_and, and_false, w32_lit, lc_lt, lc_gt, lc_eq, lc_ge, lc_le, ite10, true_and, and_true, reduceIte, Nat.reduceLT, cats, catA, Nat.reduceAdd, Nat.zero_le, Nat.reduceLeDiff]
  simp (disch := omega) only [w32_id, inA_t, isZ_t, i2l_id, l2i_id, if_pos, if_neg, true_and, and_true]
  simp only [Int.toNat_natCast]
set_option maxRecDepth 10000 in
theorem x_copyL {h2 : AH} (hp : 93 ≤ p) (hN : N ≤ 200) (hs : rdI h2 p 2 = N) (hk : (rdK h2 p).1 = 4) (hq1 : rdQ h2 p 0 = some (p + 1)) (hq2 : rdQ h2 p 1 = some (p + 2)) (hk1 : rdK h2 (p + 1) = (20, N)) (hk2 : rdK h2 (p + 2) = (20, N)) (hf : ∀ j < N, rdI h2 15 j = (f j).1 ∧ rdI h2 16 j = (f j).2) (hq : ∀ g i, (∀ j < N, rdI g (p + 1) j = (f j).1 ∧ rdI g (p + 2) j = (f j).2) → (∀ b j, b ≠ p + 1 → b ≠ p + 2 → rdI g b j = rdI h2 b j) → g.2 = h2.2 → Run sysS GX (L + 1) 60 (sysS.2.1 60 74) [vR (some p), vR (some 14), vI i] [] g Q) : ∀ (kk i : Nat) (h' : AH), i + kk = N → (∀ j < i, rdI h' (p + 1) j = (f j).1 ∧ rdI h' (p + 2) j = (f j).2) → (∀ b j, b ≠ p + 1 → b ≠ p + 2 → rdI h' b j = rdI h2 b j) → h'.2 = h2.2 → Run sysS GX (L + 1) 60 (sysS.2.1 60 38) [vR (some p), vR (some 14), vI i] [] h' Q := by
  intro kk
  induction kk with
  | zero =>
    intro i h' hi a b c
    have aK : ∀ b, rdK h' b = rdK h2 b := fun b => by unfold rdK; rw [c]
    have ei : i = N := by omega
    subst ei
    rw [b_Program_init_L_38]
    simp only [R_iconst, R_lc, R_null, R_ldc, R_gets0, R_gets1, R_objI, R_dupI, R_dupR, R_popI, R_popR, R_dup2L, R_dup2IR, R_pop2, R_i2l, R_l2i, R_lneg, R_lcmp, R_iadd, R_isub, R_imul, R_iand, R_ior, R_ixor, R_ishl, R_ishr, R_iushr, R_i2b, R_i2c, R_ladd, R_lsub, R_lmul, R_land, R_lor, R_lxor, R_lshl, R_lushr, R_goto, R_gotow, R_ifnullN, R_ifnullS, R_ifnonN, R_ifnonS, R_ifeq, R_ifne, R_iflt, R_ifge, R_ifgt, R_ifle, R_icmpeq, R_icmpne, R_icmplt, R_icmpge, R_icmpgt, R_icmple, R_tsw, R_lsw, R_alen, R_iald, R_bald, R_lald, R_aald, R_iast, R_last, R_bast, R_aast, R_new, R_newI, R_gf, R_pfI, R_pfZ, R_pfL, R_pfR, isZ_0, isZ_1, isZ_ite, gfA_0, gfA_1, gfA_2, gfA_3, opt2_s, opt2_n, R_iload0, R_iload1, R_iload2, R_iload3, R_iload4, R_iload5, R_iload6, R_iload7, R_iload8, R_lload0, R_lload1, R_lload2, R_lload3, R_lload4, R_lload5, R_lload6, R_lload7, R_lload8, R_aload0, R_aload1, R_aload2, R_aload3, R_aload4, R_aload5, R_aload6, R_aload7, R_aload8, R_istore0, R_istore1, R_istore2, R_istore3, R_istore4, R_istore5, R_istore6, R_istore7, R_istore8, R_lstore0, R_lstore1, R_lstore2, R_lstore3, R_lstore4, R_lstore5, R_lstore6, R_lstore7, R_lstore8, R_astore0, R_astore1, R_astore2, R_astore3, R_astore4, R_astore5, R_astore6, R_astore7, R_astore8, R_iinc0, R_iinc1, R_iinc2, R_iinc3, R_iinc4, R_iinc5, R_iinc6, R_iinc7, R_iinc8, KX_1, KX_2, KX_3, KX_4, OX_4, KX_5, OX_5, KX_6, OX_6, KX_7, OX_7, KX_8, OX_8, KX_9, OX_9, KX_10, OX_10, KX_11, OX_11, KX_12, OX_12, KX_13, OX_13, KX_14, OX_14, KX_15, OX_15, KX_16, OX_16, KX_17, OX_17, KX_18, OX_18, KX_19, OX_19, KX_20, OX_20, KX_21, OX_21, KX_22, OX_22, KX_23, OX_23, KX_24, OX_24, KX_25, OX_25, KX_26, OX_26, KX_27, OX_27, KX_28, OX_28, KX_29, OX_29, KX_30, OX_30, KX_31, OX_31, KX_32, OX_32, KX_33, OX_33, KX_34, OX_34, KX_35, OX_35, KX_36, OX_36, KX_37, OX_37, KX_38, OX_38, KX_39, OX_39, KX_40, OX_40, KX_41, OX_41, KX_42, OX_42, KX_43, OX_43, KX_44, OX_44, KX_45, OX_45, KX_46, OX_46, KX_47, OX_47, KX_48, OX_48, KX_49, OX_49, KX_50, OX_50, KX_51, OX_51, KX_52, OX_52, KX_53, OX_53, KX_54, OX_54, KX_55, OX_55, KX_56, OX_56, KX_57, OX_57, KX_58, OX_58, KX_59, OX_59, KX_60, OX_60, PX_2_0, PX_4_0, PX_4_1, PX_4_2, PX_4_3, PX_4_4, PX_4_5, PX_4_6, PX_5_0, PX_7_0, PX_9_0, PX_9_1, PX_10_0, PX_10_1, PX_10_2, PX_14_0, PX_14_1, PX_17_0, PX_17_1, PX_17_2, PX_17_3, PX_17_4, PX_17_5, PX_17_6, PX_25_0, PX_27_0, PX_27_1, PX_27_2, PX_27_3, PX_27_4, PX_27_5, PX_28_3, PX_28_5, PX_28_6, PX_32_3, PX_32_5, PX_32_6, PX_36_3, PX_36_5, PX_36_6, PX_40_3, PX_40_5, PX_40_6, PX_44_3, PX_44_5, PX_44_6, PX_48_3, PX_48_5, PX_48_6, PX_52_0, PX_52_1, PX_52_2, PX_52_3, PX_53_1, PX_55_1, PX_57_1, PX_59_1, Nat.reduceDiv, Nat.reduceMod, Nat.reduceLeDiff, Nat.reduceEqDiff, Int.reduceToNat, Int.reduceLT, Int.reduceLE, Int.reduceEq, Int.reduceNeg, Int.reduceAdd, Int.reduceSub, Int.reduceMul, not_true_eq_false, not_false_eq_true, true_or, or_true, or_false, false_or, false_and, and_false, w32_lit, lc_lt, lc_gt, lc_eq, lc_ge, lc_le, ite10, true_and, and_true, reduceIte, Nat.reduceLT, cats, catA, Nat.reduceAdd, Nat.zero_le, Nat.reduceLeDiff, KXn hp, aK, hk, b p 2 (by omega) (by omega), hs]
    rw [if_pos (by omega)]
    exact hq h' _ a b c
  | succ kk ih =>
    intro i h' hi a b c
    have aK : ∀ b, rdK h' b = rdK h2 b := fun b => by unfold rdK; rw [c]
    have aQ : ∀ b j, rdQ h' b j = rdQ h2 b j := fun b j => by unfold rdQ; rw [c]
    have r1 : rdR GX h' p 0 = some (p + 1) := by rw [PXn hp, aQ]; exact hq1
    have r2 : rdR GX h' p 1 = some (p + 2) := by rw [PXn hp, aQ]; exact hq2
    have f1 := hf i (by omega)
    have e1 : rdI h' 15 i = (f i).1 := by rw [b _ _ (by omega) (by omega)]; exact f1.1
    have e2 : rdI h' 16 i = (f i).2 := by rw [b _ _ (by omega) (by omega)]; exact f1.2
    rw [b_Program_init_L_38]
    simp only [R_iconst, R_lc, R_null, R_ldc, R_gets0, R_gets1, R_objI, R_dupI, R_dupR, R_popI, R_popR, R_dup2L, R_dup2IR, R_pop2, R_i2l, R_l2i, R_lneg, R_lcmp, R_iadd, R_isub, R_imul, R_iand, R_ior, R_ixor, R_ishl, R_ishr, R_iushr, R_i2b, R_i2c, R_ladd, R_lsub, R_lmul, R_land, R_lor, R_lxor, R_lshl, R_lushr, R_goto, R_gotow, R_ifnullN, R_ifnullS, R_ifnonN, R_ifnonS, R_ifeq, R_ifne, R_iflt, R_ifge, R_ifgt, R_ifle, R_icmpeq, R_icmpne, R_icmplt, R_icmpge, R_icmpgt, R_icmple, R_tsw, R_lsw, R_alen, R_iald, R_bald, R_lald, R_aald, R_iast, R_last, R_bast, R_aast, R_new, R_newI, R_gf, R_pfI, R_pfZ, R_pfL, R_pfR, isZ_0, isZ_1, isZ_ite, gfA_0, gfA_1, gfA_2, gfA_3, opt2_s, opt2_n, R_iload0, R_iload1, R_iload2, R_iload3, R_iload4, R_iload5, R_iload6, R_iload7, R_iload8, R_lload0, R_lload1, R_lload2, R_lload3, R_lload4, R_lload5, R_lload6, R_lload7, R_lload8, R_aload0, R_aload1, R_aload2, R_aload3, R_aload4, R_aload5, R_aload6, R_aload7, R_aload8, R_istore0, R_istore1, R_istore2, R_istore3, R_istore4, R_istore5, R_istore6, R_istore7, R_istore8, R_lstore0, R_lstore1, R_lstore2, R_lstore3, R_lstore4, R_lstore5, R_lstore6, R_lstore7, R_lstore8, R_astore0, R_astore1, R_astore2, R_astore3, R_astore4, R_astore5, R_astore6, R_astore7, R_astore8, R_iinc0, R_iinc1, R_iinc2, R_iinc3, R_iinc4, R_iinc5, R_iinc6, R_iinc7, R_iinc8, KX_1, KX_2, KX_3, KX_4, OX_4, KX_5, OX_5, KX_6, OX_6, KX_7, OX_7, KX_8, OX_8, KX_9, OX_9, KX_10, OX_10, KX_11, OX_11, KX_12, OX_12, KX_13, OX_13, KX_14, OX_14, KX_15, OX_15, KX_16, OX_16, KX_17, OX_17, KX_18, OX_18, KX_19, OX_19, KX_20, OX_20, KX_21, OX_21, KX_22, OX_22, KX_23, OX_23, KX_24, OX_24, KX_25, OX_25, KX_26, OX_26, KX_27, OX_27, KX_28, OX_28, KX_29, OX_29, KX_30, OX_30, KX_31, OX_31, KX_32, OX_32, KX_33, OX_33, KX_34, OX_34, KX_35, OX_35, KX_36, OX_36, KX_37, OX_37, KX_38, OX_38, KX_39, OX_39, KX_40, OX_40, KX_41, OX_41, KX_42, OX_42, KX_43, OX_43, KX_44, OX_44, KX_45, OX_45, KX_46, OX_46, KX_47, OX_47, KX_48, OX_48, KX_49, OX_49, KX_50, OX_50, KX_51, OX_51, KX_52, OX_52, KX_53, OX_53, KX_54, OX_54, KX_55, OX_55, KX_56, OX_56, KX_57, OX_57, KX_58, OX_58, KX_59, OX_59, KX_60, OX_60, PX_2_0, PX_4_0, PX_4_1, PX_4_2, PX_4_3, PX_4_4, PX_4_5, PX_4_6, PX_5_0, PX_7_0, PX_9_0, PX_9_1, PX_10_0, PX_10_1, PX_10_2, PX_14_0, PX_14_1, PX_17_0, PX_17_1, PX_17_2, PX_17_3, PX_17_4, PX_17_5, PX_17_6, PX_25_0, PX_27_0, PX_27_1, PX_27_2, PX_27_3, PX_27_4, PX_27_5, PX_28_3, PX_28_5, PX_28_6, PX_32_3, PX_32_5, PX_32_6, PX_36_3, PX_36_5, PX_36_6, PX_40_3, PX_40_5, PX_40_6, PX_44_3, PX_44_5, PX_44_6, PX_48_3, PX_48_5, PX_48_6, PX_52_0, PX_52_1, PX_52_2, PX_52_3, PX_53_1, PX_55_1, PX_57_1, PX_59_1, Nat.reduceDiv, Nat.reduceMod, Nat.reduceLeDiff, Nat.reduceEqDiff, Int.reduceToNat, Int.reduceLT, Int.reduceLE, Int.reduceEq, Int.reduceNeg, Int.reduceAdd, Int.reduceSub, Int.reduceMul, not_true_eq_false, not_false_eq_true, true_or, or_true, or_false, false_or, false_and, and_false, w32_lit, lc_lt, lc_gt, lc_eq, lc_ge, lc_le, ite10, true_and, and_true, reduceIte, Nat.reduceLT, cats, catA, Nat.reduceAdd, Nat.zero_le, Nat.reduceLeDiff, rdI_wrI, rdI_wrL, rdI_wrR, rdL_wrI, rdL_wrL, rdL_wrR, rdR_wrI, rdR_wrL, knd_wrI, knd_wrL, knd_wrR, hpN_wrI, hpN_wrL, hpN_wrR, KXn hp, KXn (show 93 ≤ p + 1 by omega), KXn (show 93 ≤ p + 2 by omega), aK, hk, hk1, hk2, b p 2 (by omega) (by omega), hs, r1, r2, i_Program_stepAt, t_dStep (show i < 200 by omega), i_Program_detailAt, t_dDet (show i < 200 by omega), OXn (show 93 ≤ p + 1 by omega), OXn (show 93 ≤ p + 2 by omega), Int.toNat_natCast, e1, e2]
    rw [if_neg (by omega), wi1 (by omega)]
    simp (disch := omega) only [inA_t, true_and]
    rw [if_neg (show ¬ p = 15 by omega)]
    refine ⟨?_, ⟨?_, ?_⟩, ?_⟩
    · show (rdK h' p).1 = 4
      rw [aK]; exact hk
    · show (rdK h' (p + 2)).1 = 20
      rw [aK, hk2]
    · show inA (i : Int) (rdK h' (p + 2)).2 = true
      rw [aK, hk2, inA_t (by omega) (by show (i : Int) < (N : Int); omega)]
      trivial
    · refine ih (i + 1) _ (by omega) (fun j hj => ?_) (fun b' j q1 q2 => ?_) c
      · by_cases ej : j = i
        · subst ej
          exact ⟨by rw [rdI_wrI, if_neg (by omega), rdI_wrI, if_pos ⟨rfl, rfl⟩], by rw [rdI_wrI, if_pos ⟨rfl, rfl⟩]⟩
        · rw [rdI_wrI, if_neg (by omega), rdI_wrI, if_neg (by omega), rdI_wrI, if_neg (by omega), rdI_wrI, if_neg (by omega)]
          exact a j (by omega)
      · rw [rdI_wrI, if_neg (by omega), rdI_wrI, if_neg (by omega)]
        exact b b' j q1 q2
theorem rdK_hpA {h : AH} {K : Nat × Nat} {b : Nat} : rdK (hpA h K) b = if b = hpN h then K else rdK h b := rfl
theorem rdK_wI {h : AH} {a j b : Nat} {x : Int} : rdK (wrI h a j x) b = rdK h b := rfl
theorem rdK_wL {h : AH} {a j b : Nat} {x : Int64} : rdK (wrL h a j x) b = rdK h b := rfl
theorem rdK_wR {h : AH} {a j b : Nat} {x : Option Nat} : rdK (wrR h a j x) b = rdK h b := rfl
/-- what the copy is -/
def CpF (h g : AH) (p : Nat) (f : Cd) (N b1 b2 k : Nat) : Prop := PRx g p f N b1 b2 k ∧ PB g p ∧ (∀ b, b < p → (∀ j, rdI g b j = rdI h b j ∧ rdL g b j = rdL h b j ∧ rdQ g b j = rdQ h b j) ∧ rdK g b = rdK h b) ∧ hpN g = p + 3 ∧ hpS g ≤ hpS h + 410
set_option maxRecDepth 10000 in
theorem x_copy (hp : hpN h = p) (h93 : 93 ≤ p) (hN : N ≤ 200) (hs : rdI h 14 2 = N) (h1 : rdI h 14 3 = b1) (h2 : rdI h 14 4 = b2) (h3 : rdI h 14 5 = k) (hf : ∀ j < N, rdI h 15 j = (f j).1 ∧ rdI h 16 j = (f j).2) (hq : ∀ g, CpF h g p f N b1 b2 k → Q none g) : Call sysS GX (L + 1) 60 [vR (some p), vR (some 14)] (hpA h (4, sysS.2.2 4)) Q := by
  subst hp
  have mx : (if (0 : Int) < (N : Int) then (N : Int) else 0) = N := by split <;> omega
  have n14 : ¬ (14 : Nat) = hpN h := by omega
  simp only [e_Program_init_L, b_Program_init_L_0, R_iconst, R_lc, R_null, R_ldc, R_gets0, R_gets1, R_objI, R_dupI, R_dupR, R_popI, R_popR, R_dup2L, R_dup2IR, R_pop2, R_i2l, R_l2i, R_lneg, R_lcmp, R_iadd, R_isub, R_imul, R_iand, R_ior, R_ixor, R_ishl, R_ishr, R_iushr, R_i2b, R_i2c, R_ladd, R_lsub, R_lmul, R_land, R_lor, R_lxor, R_lshl, R_lushr, R_goto, R_gotow, R_ifnullN, R_ifnullS, R_ifnonN, R_ifnonS, R_ifeq, R_ifne, R_iflt, R_ifge, R_ifgt, R_ifle, R_icmpeq, R_icmpne, R_icmplt, R_icmpge, R_icmpgt, R_icmple, R_tsw, R_lsw, R_alen, R_iald, R_bald, R_lald, R_aald, R_iast, R_last, R_bast, R_aast, R_new, R_newI, R_gf, R_pfI, R_pfZ, R_pfL, R_pfR, isZ_0, isZ_1, isZ_ite, gfA_0, gfA_1, gfA_2, gfA_3, opt2_s, opt2_n, R_iload0, R_iload1, R_iload2, R_iload3, R_iload4, R_iload5, R_iload6, R_iload7, R_iload8, R_lload0, R_lload1, R_lload2, R_lload3, R_lload4, R_lload5, R_lload6, R_lload7, R_lload8, R_aload0, R_aload1, R_aload2, R_aload3, R_aload4, R_aload5, R_aload6, R_aload7, R_aload8, R_istore0, R_istore1, R_istore2, R_istore3, R_istore4, R_istore5, R_istore6, R_istore7, R_istore8, R_lstore0, R_lstore1, R_lstore2, R_lstore3, R_lstore4, R_lstore5, R_lstore6, R_lstore7, R_lstore8, R_astore0, R_astore1, R_astore2, R_astore3, R_astore4, R_astore5, R_astore6, R_astore7, R_astore8, R_iinc0, R_iinc1, R_iinc2, R_iinc3, R_iinc4, R_iinc5, R_iinc6, R_iinc7, R_iinc8, KX_1, KX_2, KX_3, KX_4, OX_4, KX_5, OX_5, KX_6, OX_6, KX_7, OX_7, KX_8, OX_8, KX_9, OX_9, KX_10, OX_10, KX_11, OX_11, KX_12, OX_12, KX_13, OX_13, KX_14, OX_14, KX_15, OX_15, KX_16, OX_16, KX_17, OX_17, KX_18, OX_18, KX_19, OX_19, KX_20, OX_20, KX_21, OX_21, KX_22, OX_22, KX_23, OX_23, KX_24, OX_24, KX_25, OX_25, KX_26, OX_26, KX_27, OX_27, KX_28, OX_28, KX_29, OX_29, KX_30, OX_30, KX_31, OX_31, KX_32, OX_32, KX_33, OX_33, KX_34, OX_34, KX_35, OX_35, KX_36, OX_36, KX_37, OX_37, KX_38, OX_38, KX_39, OX_39, KX_40, OX_40, KX_41, OX_41, KX_42, OX_42, KX_43, OX_43, KX_44, OX_44, KX_45, OX_45, KX_46, OX_46, KX_47, OX_47, KX_48, OX_48, KX_49, OX_49, KX_50, OX_50, KX_51, OX_51, KX_52, OX_52, KX_53, OX_53, KX_54, OX_54, KX_55, OX_55, KX_56, OX_56, KX_57, OX_57, KX_58, OX_58, KX_59, OX_59, KX_60, OX_60, PX_2_0, PX_4_0, PX_4_1, PX_4_2, PX_4_3, PX_4_4, PX_4_5, PX_4_6, PX_5_0, PX_7_0, PX_9_0, PX_9_1, PX_10_0, PX_10_1, PX_10_2, PX_14_0, PX_14_1, PX_17_0, PX_17_1, PX_17_2, PX_17_3, PX_17_4, PX_17_5, PX_17_6, PX_25_0, PX_27_0, PX_27_1, PX_27_2, PX_27_3, PX_27_4, PX_27_5, PX_28_3, PX_28_5, PX_28_6, PX_32_3, PX_32_5, PX_32_6, PX_36_3, PX_36_5, PX_36_6, PX_40_3, PX_40_5, PX_40_6, PX_44_3, PX_44_5, PX_44_6, PX_48_3, PX_48_5, PX_48_6, PX_52_0, PX_52_1, PX_52_2, PX_52_3, PX_53_1, PX_55_1, PX_57_1, PX_59_1, Nat.reduceDiv, Nat.reduceMod, Nat.reduceLeDiff, Nat.reduceEqDiff, Int.reduceToNat, Int.reduceLT, Int.reduceLE, Int.reduceEq, Int.reduceNeg, Int.reduceAdd, Int.reduceSub, Int.reduceMul, not_true_eq_false, not_false_eq_true, true_or, or_true, or_false, false_or, false_and, and_false, w32_lit, lc_lt, lc_gt, lc_eq, lc_ge, lc_le, ite10, true_and, and_true, reduceIte, Nat.reduceLT, cats, catA, Nat.reduceAdd, Nat.zero_le, Nat.reduceLeDiff, rdI_wrI, rdI_wrL, rdI_wrR, rdL_wrI, rdL_wrL, rdL_wrR, rdR_wrI, rdR_wrL, knd_wrI, knd_wrL, knd_wrR, hpN_wrI, hpN_wrL, hpN_wrR, KXn h93, rdK_hpA, rdK_wI, rdK_wR, rdI_hpA, n14, hs, i_Math_max_II, t_Math_max, mx, OXn h93, GXn h93, hpN_hpA, GXk (show 93 ≤ hpN h + 1 by omega), GXk (show 93 ≤ hpN h + 1 + 1 by omega)]
  have ne1 : ¬ hpN h = hpN h + 1 := by omega
  have ne2 : ¬ hpN h = hpN h + 1 + 1 := by omega
  simp only [ne1, ne2, if_false, Int.toNat_natCast]
  rw [inA_t (by omega) (by omega)]
  refine ⟨trivial, trivial, trivial, trivial, trivial, ?_⟩
  have hh : ∀ b, b < hpN h → ∀ j, rdI (wrR (hpA (wrR (hpA (wrI (hpA h (4, sysS.2.2 4)) (hpN h) 2 (N : Int)) (20, N)) (hpN h) 0 (some (hpN h + 1))) (20, N)) (hpN h) 1 (some (hpN h + 1 + 1))) b j = rdI h b j := by
    intro b hb j
    rw [rdI_wrR, rdI_hpA, if_neg (by rw [hpN_wrR, hpN_hpA, hpN_wrI, hpN_hpA]; omega), rdI_wrR, rdI_hpA, if_neg (by rw [hpN_wrI, hpN_hpA]; omega), rdI_wrI, if_neg (by omega), rdI_hpA, if_neg (by omega)]
  have hL : ∀ b, b < hpN h → ∀ j, rdL (wrR (hpA (wrR (hpA (wrI (hpA h (4, sysS.2.2 4)) (hpN h) 2 (N : Int)) (20, N)) (hpN h) 0 (some (hpN h + 1))) (20, N)) (hpN h) 1 (some (hpN h + 1 + 1))) b j = rdL h b j := by
    intro b hb j
    rw [rdL_wrR, rdL_hpA, if_neg (by rw [hpN_wrR, hpN_hpA, hpN_wrI, hpN_hpA]; omega), rdL_wrR, rdL_hpA, if_neg (by rw [hpN_wrI, hpN_hpA]; omega), rdL_wrI, rdL_hpA, if_neg (by omega)]
  have hQ : ∀ b, b < hpN h → ∀ j, rdQ (wrR (hpA (wrR (hpA (wrI (hpA h (4, sysS.2.2 4)) (hpN h) 2 (N : Int)) (20, N)) (hpN h) 0 (some (hpN h + 1))) (20, N)) (hpN h) 1 (some (hpN h + 1 + 1))) b j = rdQ h b j := by
    intro b hb j
    rw [rdQ_wrR, if_neg (by omega), rdQ_hpA, if_neg (by rw [hpN_wrR, hpN_hpA, hpN_wrI, hpN_hpA]; omega), rdQ_wrR, if_neg (by omega), rdQ_hpA, if_neg (by rw [hpN_wrI, hpN_hpA]; omega), rdQ_wrI, rdQ_hpA, if_neg (by omega)]
  have hK : ∀ b, rdK (wrR (hpA (wrR (hpA (wrI (hpA h (4, sysS.2.2 4)) (hpN h) 2 (N : Int)) (20, N)) (hpN h) 0 (some (hpN h + 1))) (20, N)) (hpN h) 1 (some (hpN h + 1 + 1))) b = if b = hpN h + 1 + 1 then (20, N) else if b = hpN h + 1 then (20, N) else if b = hpN h then (4, sysS.2.2 4) else rdK h b := fun b => rfl
  generalize hg2 : wrR (hpA (wrR (hpA (wrI (hpA h (4, sysS.2.2 4)) (hpN h) 2 (N : Int)) (20, N)) (hpN h) 0 (some (hpN h + 1))) (20, N)) (hpN h) 1 (some (hpN h + 1 + 1)) = h2' at hh hL hQ hK
  have s2 : rdI h2' (hpN h) 2 = N := by
    rw [← hg2, rdI_wrR, rdI_hpA, if_neg (by rw [hpN_wrR, hpN_hpA, hpN_wrI, hpN_hpA]; omega), rdI_wrR, rdI_hpA, if_neg (by rw [hpN_wrI, hpN_hpA]; omega), rdI_wrI, if_pos ⟨rfl, rfl⟩]
  have q0 : rdQ h2' (hpN h) 0 = some (hpN h + 1) := by
    rw [← hg2, rdQ_wrR, if_neg (by omega), rdQ_hpA, if_neg (by rw [hpN_wrR, hpN_hpA, hpN_wrI, hpN_hpA]; omega), rdQ_wrR, if_pos ⟨rfl, rfl⟩]
  have q1 : rdQ h2' (hpN h) 1 = some (hpN h + 2) := by
    rw [← hg2, rdQ_wrR, if_pos ⟨rfl, rfl⟩]
  have hn2 : hpN h2' = hpN h + 3 := by rw [← hg2]; rfl
  have hs2 : hpS h2' = hpS h + sysS.2.2 4 + N + N := by rw [← hg2]; rfl
  have n4 : sysS.2.2 4 = 6 := rfl
  have k0 : rdK h2' (hpN h) = (4, sysS.2.2 4) := by rw [hK, if_neg (by omega), if_neg (by omega), if_pos rfl]
  have k1 : rdK h2' (hpN h + 1) = (20, N) := by rw [hK, if_neg (by omega), if_pos rfl]
  have k2 : rdK h2' (hpN h + 2) = (20, N) := by rw [hK, if_pos rfl]
  refine x_copyL (f := f) (N := N) h93 hN s2 (by rw [k0]) q0 q1 k1 k2 (fun j hj => ?_) (fun g i a b c => ?_) N 0 h2' (by omega) (fun j hj => by omega) (fun b j _ _ => rfl) rfl
  · rw [hh _ (by omega), hh _ (by omega)]; exact hf j hj
  have aK : ∀ b, rdK g b = rdK h2' b := fun b => by unfold rdK; rw [c]
  have aQ : ∀ b j, rdQ g b j = rdQ h2' b j := fun b j => by unfold rdQ; rw [c]
  have aL : ∀ b j, rdL g b j = rdL h2' b j := fun b j => by unfold rdL; rw [c]
  have v1 : rdI g 14 3 = b1 := by rw [b _ _ (by omega) (by omega), hh _ (by omega)]; exact h1
  have v2 : rdI g 14 4 = b2 := by rw [b _ _ (by omega) (by omega), hh _ (by omega)]; exact h2
  have v3 : rdI g 14 5 = k := by rw [b _ _ (by omega) (by omega), hh _ (by omega)]; exact h3
  have kg : knd GX g (hpN h) = (4, sysS.2.2 4) := by rw [KXn h93, aK, k0]
  rw [b_Program_init_L_74]
  simp only [R_iconst, R_lc, R_null, R_ldc, R_gets0, R_gets1, R_objI, R_dupI, R_dupR, R_popI, R_popR, R_dup2L, R_dup2IR, R_pop2, R_i2l, R_l2i, R_lneg, R_lcmp, R_iadd, R_isub, R_imul, R_iand, R_ior, R_ixor, R_ishl, R_ishr, R_iushr, R_i2b, R_i2c, R_ladd, R_lsub, R_lmul, R_land, R_lor, R_lxor, R_lshl, R_lushr, R_goto, R_gotow, R_ifnullN, R_ifnullS, R_ifnonN, R_ifnonS, R_ifeq, R_ifne, R_iflt, R_ifge, R_ifgt, R_ifle, R_icmpeq, R_icmpne, R_icmplt, R_icmpge, R_icmpgt, R_icmple, R_tsw, R_lsw, R_alen, R_iald, R_bald, R_lald, R_aald, R_iast, R_last, R_bast, R_aast, R_new, R_newI, R_gf, R_pfI, R_pfZ, R_pfL, R_pfR, isZ_0, isZ_1, isZ_ite, gfA_0, gfA_1, gfA_2, gfA_3, opt2_s, opt2_n, R_iload0, R_iload1, R_iload2, R_iload3, R_iload4, R_iload5, R_iload6, R_iload7, R_iload8, R_lload0, R_lload1, R_lload2, R_lload3, R_lload4, R_lload5, R_lload6, R_lload7, R_lload8, R_aload0, R_aload1, R_aload2, R_aload3, R_aload4, R_aload5, R_aload6, R_aload7, R_aload8, R_istore0, R_istore1, R_istore2, R_istore3, R_istore4, R_istore5, R_istore6, R_istore7, R_istore8, R_lstore0, R_lstore1, R_lstore2, R_lstore3, R_lstore4, R_lstore5, R_lstore6, R_lstore7, R_lstore8, R_astore0, R_astore1, R_astore2, R_astore3, R_astore4, R_astore5, R_astore6, R_astore7, R_astore8, R_iinc0, R_iinc1, R_iinc2, R_iinc3, R_iinc4, R_iinc5, R_iinc6, R_iinc7, R_iinc8, KX_1, KX_2, KX_3, KX_4, OX_4, KX_5, OX_5, KX_6, OX_6, KX_7, OX_7, KX_8, OX_8, KX_9, OX_9, KX_10, OX_10, KX_11, OX_11, KX_12, OX_12, KX_13, OX_13, KX_14, OX_14, KX_15, OX_15, KX_16, OX_16, KX_17, OX_17, KX_18, OX_18, KX_19, OX_19, KX_20, OX_20, KX_21, OX_21, KX_22, OX_22, KX_23, OX_23, KX_24, OX_24, KX_25, OX_25, KX_26, OX_26, KX_27, OX_27, KX_28, OX_28, KX_29, OX_29, KX_30, OX_30, KX_31, OX_31, KX_32, OX_32, KX_33, OX_33, KX_34, OX_34, KX_35, OX_35, KX_36, OX_36, KX_37, OX_37, KX_38, OX_38, KX_39, OX_39, KX_40, OX_40, KX_41, OX_41, KX_42, OX_42, KX_43, OX_43, KX_44, OX_44, KX_45, OX_45, KX_46, OX_46, KX_47, OX_47, KX_48, OX_48, KX_49, OX_49, KX_50, OX_50, KX_51, OX_51, KX_52, OX_52, KX_53, OX_53, KX_54, OX_54, KX_55, OX_55, KX_56, OX_56, KX_57, OX_57, KX_58, OX_58, KX_59, OX_59, KX_60, OX_60, PX_2_0, PX_4_0, PX_4_1, PX_4_2, PX_4_3, PX_4_4, PX_4_5, PX_4_6, PX_5_0, PX_7_0, PX_9_0, PX_9_1, PX_10_0, PX_10_1, PX_10_2, PX_14_0, PX_14_1, PX_17_0, PX_17_1, PX_17_2, PX_17_3, PX_17_4, PX_17_5, PX_17_6, PX_25_0, PX_27_0, PX_27_1, PX_27_2, PX_27_3, PX_27_4, PX_27_5, PX_28_3, PX_28_5, PX_28_6, PX_32_3, PX_32_5, PX_32_6, PX_36_3, PX_36_5, PX_36_6, PX_40_3, PX_40_5, PX_40_6, PX_44_3, PX_44_5, PX_44_6, PX_48_3, PX_48_5, PX_48_6, PX_52_0, PX_52_1, PX_52_2, PX_52_3, PX_53_1, PX_55_1, PX_57_1, PX_59_1, Nat.reduceDiv, Nat.reduceMod, Nat.reduceLeDiff, Nat.reduceEqDiff, Int.reduceToNat, Int.reduceLT, Int.reduceLE, Int.reduceEq, Int.reduceNeg, Int.reduceAdd, Int.reduceSub, Int.reduceMul, not_true_eq_false, not_false_eq_true, true_or, or_true, or_false, false_or, false_and, and_false, w32_lit, lc_lt, lc_gt, lc_eq, lc_ge, lc_le, ite10, true_and, and_true, reduceIte, Nat.reduceLT, cats, catA, Nat.reduceAdd, Nat.zero_le, Nat.reduceLeDiff, rdI_wrI, rdI_wrL, rdI_wrR, rdL_wrI, rdL_wrL, rdL_wrR, rdR_wrI, rdR_wrL, knd_wrI, knd_wrL, knd_wrR, hpN_wrI, hpN_wrL, hpN_wrR, kg, OXn h93, v1, v2, v3, r_Program_init_L, show ¬ (14 : Nat) = hpN h from n14]
  refine hq _ ⟨⟨⟨h93, ?_, hpN h + 1, hpN h + 2, by omega, by omega, ?_, ?_, ?_, ?_, fun j hj => ?_⟩, ?_, ?_, ?_, ?_⟩, ⟨?_, fun s z => ?_, fun d z => ?_⟩, fun b' hb => ⟨fun j => ⟨?_, ?_, ?_⟩, ?_⟩, ?_, ?_⟩
  · show (rdK g (hpN h)).1 = 4
    rw [aK, k0]
  · show rdQ g (hpN h) _ = _
    rw [aQ]; exact q0
  · show rdQ g (hpN h) _ = _
    rw [aQ]; exact q1
  · show rdK g _ = _
    rw [aK]; exact k1
  · show rdK g _ = _
    rw [aK]; exact k2
  · simp only [rdI_wrI]
    rw [if_neg (by omega), if_neg (by omega), if_neg (by omega), if_neg (by omega), if_neg (by omega), if_neg (by omega)]
    exact a j hj
  · simp only [rdI_wrI]
    rw [if_neg (by omega), if_neg (by omega), if_neg (by omega), b _ _ (by omega) (by omega)]; exact s2
  · simp [rdI_wrI]
  · simp [rdI_wrI]
  · simp [rdI_wrI]
  · show hpN h < hpN g
    unfold hpN at hn2 ⊢
    rw [c]; omega
  · have z2 : rdQ g (hpN h) 0 = some s := z
    rw [aQ, q0] at z2
    have z3 : hpN h + 1 = s := by injection z2
    show s < hpN g
    unfold hpN at hn2 z3 ⊢
    rw [c]; omega
  · have z2 : rdQ g (hpN h) 1 = some d := z
    rw [aQ, q1] at z2
    have z3 : hpN h + 2 = d := by injection z2
    show d < hpN g
    unfold hpN at hn2 z3 ⊢
    rw [c]; omega
  · simp only [rdI_wrI]
    rw [if_neg (by omega), if_neg (by omega), if_neg (by omega), b _ _ (by omega) (by omega), hh _ hb]
  · show rdL g b' j = _
    rw [aL, hL _ hb]
  · show rdQ g b' j = _
    rw [aQ, hQ _ hb]
  · show rdK g b' = _
    rw [aK, hK, if_neg (by omega), if_neg (by omega), if_neg (by omega)]
  · show hpN g = _
    unfold hpN at hn2 ⊢
    rw [c]; exact hn2
  · show hpS g ≤ _
    unfold hpS at hs2 ⊢
    rw [c]; omega
end CP
