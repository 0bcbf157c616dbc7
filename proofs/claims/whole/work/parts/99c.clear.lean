/-! clear -/
section CR
variable {hx hm gx gm h g : AH} {B n ns k L L' x m : Nat} {Q : Option AV → AH → Prop}
def c0X (h : AH) : AH := wrI (wrI (wrI h 5 1 0) 7 1 0) 17 7 0
def clX (h : AH) : AH := wrI (wrI (wrI (wrI (wrI (wrI (wrI (wrI (bgX (c0X h) 0 0 0) 4 7 1) 4 8 0) 4 9 0) 4 10 0) 4 11 0) 4 12 0) 4 13 0) 4 14 0
def c0M (h : AH) : AH := wrI (wrI (wrI (wrI (wrI (wrI (wrI h 61 1 0) 61 32 0) 61 30 0) 61 39 0) 61 40 0) 61 41 0) 61 42 1
def c1M (h : AH) : AH := wrI (wrI (wrI (wrI h 61 55 0) 61 56 0) 61 57 0) 61 58 0
set_option maxRecDepth 10000 in
theorem t_clearX : Call sysS GX (L + 1) 26 [vR (some 4)] h Q ↔ Q (some (vI (rdI h 17 7))) (clX h) := by
  have hb : ∀ h Q, Call sysS GX L 110 [vR (some 28), vI 0, vL (Int64.ofInt 0)] h Q ↔ Q none (bgX h 0 0 (Int64.ofInt 0)) := fun h Q => t_Task_begin (x := 0) (by omega)
  simp only [e_X_clear, b_X_clear_0, R_iconst, R_lc, R_null, R_ldc, R_gets0, R_gets1, R_objI, R_dupI, R_dupR, R_popI, R_popR, R_dup2L, R_dup2IR, R_pop2, R_i2l, R_l2i, R_lneg, R_lcmp, R_iadd, R_isub, R_imul, R_iand, R_ior, R_ixor, R_ishl, R_ishr, R_iushr, R_i2b, R_i2c, R_ladd, R_lsub, R_lmul, R_land, R_lor, R_lxor, R_lshl, R_lushr, R_goto, R_gotow, R_ifnullN, R_ifnullS, R_ifnonN, R_ifnonS, R_ifeq, R_ifne, R_iflt, R_ifge, R_ifgt, R_ifle, R_icmpeq, R_icmpne, R_icmplt, R_icmpge, R_icmpgt, R_icmple, R_tsw, R_lsw, R_alen, R_iald, R_bald, R_lald, R_aald, R_iast, R_last, R_bast, R_aast, R_new, R_newI, R_gf, R_pfI, R_pfZ, R_pfL, R_pfR, isZ_0, isZ_1, isZ_ite, gfA_0, gfA_1, gfA_2, gfA_3, opt2_s, opt2_n, R_iload0, R_iload1, R_iload2, R_iload3, R_iload4, R_iload5, R_iload6, R_iload7, R_iload8, R_lload0, R_lload1, R_lload2, R_lload3, R_lload4, R_lload5, R_lload6, R_lload7, R_lload8, R_aload0, R_aload1, R_aload2, R_aload3, R_aload4, R_aload5, R_aload6, R_aload7, R_aload8, R_istore0, R_istore1, R_istore2, R_istore3, R_istore4, R_istore5, R_istore6, R_istore7, R_istore8, R_lstore0, R_lstore1, R_lstore2, R_lstore3, R_lstore4, R_lstore5, R_lstore6, R_lstore7, R_lstore8, R_astore0, R_astore1, R_astore2, R_astore3, R_astore4, R_astore5, R_astore6, R_astore7, R_astore8, R_iinc0, R_iinc1, R_iinc2, R_iinc3, R_iinc4, R_iinc5, R_iinc6, R_iinc7, R_iinc8, KX_1, KX_2, KX_3, KX_4, OX_4, KX_5, OX_5, KX_6, OX_6, KX_7, OX_7, KX_8, OX_8, KX_9, OX_9, KX_10, OX_10, KX_11, OX_11, KX_12, OX_12, KX_13, OX_13, KX_14, OX_14, KX_15, OX_15, KX_16, OX_16, KX_17, OX_17, KX_18, OX_18, KX_19, OX_19, KX_20, OX_20, KX_21, OX_21, KX_22, OX_22, KX_23, OX_23, KX_24, OX_24, KX_25, OX_25, KX_26, OX_26, KX_27, OX_27, KX_28, OX_28, KX_29, OX_29, KX_30, OX_30, KX_31, OX_31, KX_32, OX_32, KX_33, OX_33, KX_34, OX_34, KX_35, OX_35, KX_36, OX_36, KX_37, OX_37, KX_38, OX_38, KX_39, OX_39, KX_40, OX_40, KX_41, OX_41, KX_42, OX_42, KX_43, OX_43, KX_44, OX_44, KX_45, OX_45, KX_46, OX_46, KX_47, OX_47, KX_48, OX_48, KX_49, OX_49, KX_50, OX_50, KX_51, OX_51, KX_52, OX_52, KX_53, OX_53, KX_54, OX_54, KX_55, OX_55, KX_56, OX_56, KX_57, OX_57, KX_58, OX_58, KX_59, OX_59, KX_60, OX_60, PX_2_0, PX_4_0, PX_4_1, PX_4_2, PX_4_3, PX_4_4, PX_4_5, PX_4_6, PX_5_0, PX_7_0, PX_9_0, PX_9_1, PX_10_0, PX_10_1, PX_10_2, PX_14_0, PX_14_1, PX_17_0, PX_17_1, PX_17_2, PX_17_3, PX_17_4, PX_17_5, PX_17_6, PX_25_0, PX_27_0, PX_27_1, PX_27_2, PX_27_3, PX_27_4, PX_27_5, PX_28_3, PX_28_5, PX_28_6, PX_32_3, PX_32_5, PX_32_6, PX_36_3, PX_36_5, PX_36_6, PX_40_3, PX_40_5, PX_40_6, PX_44_3, PX_44_5, PX_44_6, PX_48_3, PX_48_5, PX_48_6, PX_52_0, PX_52_1, PX_52_2, PX_52_3, PX_53_1, PX_55_1, PX_57_1, PX_59_1, Nat.reduceDiv, Nat.reduceMod, Nat.reduceLeDiff, Nat.reduceEqDiff, Int.reduceToNat, Int.reduceLT, Int.reduceLE, Int.reduceEq, Int.reduceNeg, Int.reduceAdd, Int.reduceSub, Int.reduceMul, not_true_eq_false, not_false_eq_true, true_or, or_true, or_false, false_or, false_and, and_false, w32_lit, lc_lt, lc_gt, lc_eq, lc_ge, lc_le, ite10, true_and, and_true, reduceIte, Nat.reduceLT, cats, catA, Nat.reduceAdd, Nat.zero_le, Nat.reduceLeDiff, rdI_wrI, rdI_wrL, rdI_wrR, rdL_wrI, rdL_wrL, rdL_wrR, rdR_wrI, rdR_wrL, knd_wrI, knd_wrL, knd_wrR, hpN_wrI, hpN_wrL, hpN_wrR, i_Task_begin, hb]
  simp only [R_iconst, R_lc, R_null, R_ldc, R_gets0, R_gets1, R_objI, R_dupI, R_dupR, R_popI, R_popR, R_dup2L, R_dup2IR, R_pop2, R_i2l, R_l2i, R_lneg, R_lcmp, R_iadd, R_isub, R_imul, R_iand, R_ior, R_ixor, R_ishl, R_ishr, R_iushr, R_i2b, R_i2c, R_ladd, R_lsub, R_lmul, R_land, R_lor, R_lxor, R_lshl, R_lushr, R_goto, R_gotow, R_ifnullN, R_ifnullS, R_ifnonN, R_ifnonS, R_ifeq, R_ifne, R_iflt, R_ifge, R_ifgt, R_ifle, R_icmpeq, R_icmpne, R_icmplt, R_icmpge, R_icmpgt, R_icmple, R_tsw, R_lsw, R_alen, R_iald, R_bald, R_lald, R_aald, R_iast, R_last, R_bast, R_aast, R_new, R_newI, R_gf, R_pfI, R_pfZ, R_pfL, R_pfR, isZ_0, isZ_1, isZ_ite, gfA_0, gfA_1, gfA_2, gfA_3, opt2_s, opt2_n, R_iload0, R_iload1, R_iload2, R_iload3, R_iload4, R_iload5, R_iload6, R_iload7, R_iload8, R_lload0, R_lload1, R_lload2, R_lload3, R_lload4, R_lload5, R_lload6, R_lload7, R_lload8, R_aload0, R_aload1, R_aload2, R_aload3, R_aload4, R_aload5, R_aload6, R_aload7, R_aload8, R_istore0, R_istore1, R_istore2, R_istore3, R_istore4, R_istore5, R_istore6, R_istore7, R_istore8, R_lstore0, R_lstore1, R_lstore2, R_lstore3, R_lstore4, R_lstore5, R_lstore6, R_lstore7, R_lstore8, R_astore0, R_astore1, R_astore2, R_astore3, R_astore4, R_astore5, R_astore6, R_astore7, R_astore8, R_iinc0, R_iinc1, R_iinc2, R_iinc3, R_iinc4, R_iinc5, R_iinc6, R_iinc7, R_iinc8, KX_1, KX_2, KX_3, KX_4, OX_4, KX_5, OX_5, KX_6, OX_6, KX_7, OX_7, KX_8, OX_8, KX_9, OX_9, KX_10, OX_10, KX_11, OX_11, KX_12, OX_12, KX_13, OX_13, KX_14, OX_14, KX_15, OX_15, KX_16, OX_16, KX_17, OX_17, KX_18, OX_18, KX_19, OX_19, KX_20, OX_20, KX_21, OX_21, KX_22, OX_22, KX_23, OX_23, KX_24, OX_24, KX_25, OX_25, KX_26, OX_26, KX_27, OX_27, KX_28, OX_28, KX_29, OX_29, KX_30, OX_30, KX_31, OX_31, KX_32, OX_32, KX_33, OX_33, KX_34, OX_34, KX_35, OX_35, KX_36, OX_36, KX_37, OX_37, KX_38, OX_38, KX_39, OX_39, KX_40, OX_40, KX_41, OX_41, KX_42, OX_42, KX_43, OX_43, KX_44, OX_44, KX_45, OX_45, KX_46, OX_46, KX_47, OX_47, KX_48, OX_48, KX_49, OX_49, KX_50, OX_50, KX_51, OX_51, KX_52, OX_52, KX_53, OX_53, KX_54, OX_54, KX_55, OX_55, KX_56, OX_56, KX_57, OX_57, KX_58, OX_58, KX_59, OX_59, KX_60, OX_60, PX_2_0, PX_4_0, PX_4_1, PX_4_2, PX_4_3, PX_4_4, PX_4_5, PX_4_6, PX_5_0, PX_7_0, PX_9_0, PX_9_1, PX_10_0, PX_10_1, PX_10_2, PX_14_0, PX_14_1, PX_17_0, PX_17_1, PX_17_2, PX_17_3, PX_17_4, PX_17_5, PX_17_6, PX_25_0, PX_27_0, PX_27_1, PX_27_2, PX_27_3, PX_27_4, PX_27_5, PX_28_3, PX_28_5, PX_28_6, PX_32_3, PX_32_5, PX_32_6, PX_36_3, PX_36_5, PX_36_6, PX_40_3, PX_40_5, PX_40_6, PX_44_3, PX_44_5, PX_44_6, PX_48_3, PX_48_5, PX_48_6, PX_52_0, PX_52_1, PX_52_2, PX_52_3, PX_53_1, PX_55_1, PX_57_1, PX_59_1, Nat.reduceDiv, Nat.reduceMod, Nat.reduceLeDiff, Nat.reduceEqDiff, Int.reduceToNat, Int.reduceLT, Int.reduceLE, Int.reduceEq, Int.reduceNeg, Int.reduceAdd, Int.reduceSub, Int.reduceMul, not_true_eq_false, not_false_eq_true, true_or, or_true, or_false, false_or, false_and, and_false, w32_lit, lc_lt, lc_gt, lc_eq, lc_ge, lc_le, ite10, true_and, and_true, reduceIte, Nat.reduceLT, cats, catA, Nat.reduceAdd, Nat.zero_le, Nat.reduceLeDiff, rdI_wrI, rdI_wrL, rdI_wrR, rdL_wrI, rdL_wrL, rdL_wrR, rdR_wrI, rdR_wrL, knd_wrI, knd_wrL, knd_wrR, hpN_wrI, hpN_wrL, hpN_wrR, r_X_clear]
  simp (disch := omega) only [inA_t, true_and]
  exact Iff.rfl
set_option maxRecDepth 10000 in
theorem t_clearM : ∃ g, BgM (c0M h) g 0 1 0 (fun _ => 0) ∧ ∀ Q, Call sysS GM (L + 1) 198 [vR (some 61)] h Q ↔ Q (some (vI (rdI h 61 32))) (c1M g) := by
  obtain ⟨g, g1, g2⟩ := t_M_begin (L := L) (h := c0M h) (x := 0) (by omega)
  refine ⟨g, g1, fun Q => ?_⟩
  simp only [e_M_clear, b_M_clear_0, R_iconst, R_lc, R_null, R_ldc, R_gets0, R_gets1, R_objI, R_dupI, R_dupR, R_popI, R_popR, R_dup2L, R_dup2IR, R_pop2, R_i2l, R_l2i, R_lneg, R_lcmp, R_iadd, R_isub, R_imul, R_iand, R_ior, R_ixor, R_ishl, R_ishr, R_iushr, R_i2b, R_i2c, R_ladd, R_lsub, R_lmul, R_land, R_lor, R_lxor, R_lshl, R_lushr, R_goto, R_gotow, R_ifnullN, R_ifnullS, R_ifnonN, R_ifnonS, R_ifeq, R_ifne, R_iflt, R_ifge, R_ifgt, R_ifle, R_icmpeq, R_icmpne, R_icmplt, R_icmpge, R_icmpgt, R_icmple, R_tsw, R_lsw, R_alen, R_iald, R_bald, R_lald, R_aald, R_iast, R_last, R_bast, R_aast, R_new, R_newI, R_gf, R_pfI, R_pfZ, R_pfL, R_pfR, isZ_0, isZ_1, isZ_ite, gfA_0, gfA_1, gfA_2, gfA_3, opt2_s, opt2_n, R_iload0, R_iload1, R_iload2, R_iload3, R_iload4, R_iload5, R_iload6, R_iload7, R_iload8, R_lload0, R_lload1, R_lload2, R_lload3, R_lload4, R_lload5, R_lload6, R_lload7, R_lload8, R_aload0, R_aload1, R_aload2, R_aload3, R_aload4, R_aload5, R_aload6, R_aload7, R_aload8, R_istore0, R_istore1, R_istore2, R_istore3, R_istore4, R_istore5, R_istore6, R_istore7, R_istore8, R_lstore0, R_lstore1, R_lstore2, R_lstore3, R_lstore4, R_lstore5, R_lstore6, R_lstore7, R_lstore8, R_astore0, R_astore1, R_astore2, R_astore3, R_astore4, R_astore5, R_astore6, R_astore7, R_astore8, R_iinc0, R_iinc1, R_iinc2, R_iinc3, R_iinc4, R_iinc5, R_iinc6, R_iinc7, R_iinc8, KM_61, OM_61, KM_62, OM_62, KM_63, OM_63, KM_64, OM_64, KM_65, OM_65, KM_66, OM_66, KM_67, OM_67, KM_68, OM_68, KM_69, OM_69, KM_70, OM_70, KM_71, OM_71, KM_72, OM_72, KM_73, OM_73, KM_74, OM_74, KM_75, OM_75, KM_76, OM_76, KM_77, OM_77, KM_78, OM_78, KM_79, OM_79, KM_80, OM_80, KM_81, OM_81, KM_82, OM_82, KM_83, OM_83, KM_84, OM_84, KM_85, OM_85, KM_86, OM_86, KM_87, OM_87, KM_88, OM_88, KM_89, OM_89, KM_90, OM_90, KM_91, OM_91, KM_92, OM_92, PM_61_0, PM_61_9, PM_61_10, PM_61_12, PM_61_13, PM_61_15, PM_61_16, PM_61_23, PM_61_28, PM_61_31, PM_61_33, PM_61_34, PM_61_35, PM_61_36, PM_61_37, PM_61_38, PM_61_43, PM_61_44, PM_61_45, PM_61_46, PM_61_47, PM_61_48, PM_61_49, PM_61_50, PM_61_51, PM_61_52, PM_61_53, PM_61_54, PM_61_59, PM_61_60, PM_61_61, Nat.reduceDiv, Nat.reduceMod, Nat.reduceLeDiff, Nat.reduceEqDiff, Int.reduceToNat, Int.reduceLT, Int.reduceLE, Int.reduceEq, Int.reduceNeg, Int.reduceAdd, Int.reduceSub, Int.reduceMul, not_true_eq_false, not_false_eq_true, true_or, or_true, or_false, false_or, false_and, and_false, w32_lit, lc_lt, lc_gt, lc_eq, lc_ge, lc_le, ite10, true_and, and_true, reduceIte, Nat.reduceLT, cats, catA, Nat.reduceAdd, Nat.zero_le, Nat.reduceLeDiff, rdI_wrI, rdI_wrL, rdI_wrR, rdL_wrI, rdL_wrL, rdL_wrR, rdR_wrI, rdR_wrL, knd_wrI, knd_wrL, knd_wrR, hpN_wrI, hpN_wrL, hpN_wrR, i_M_begin]
  refine Iff.trans (g2 _) ?_
  simp only [R_iconst, R_lc, R_null, R_ldc, R_gets0, R_gets1, R_objI, R_dupI, R_dupR, R_popI, R_popR, R_dup2L, R_dup2IR, R_pop2, R_i2l, R_l2i, R_lneg, R_lcmp, R_iadd, R_isub, R_imul, R_iand, R_ior, R_ixor, R_ishl, R_ishr, R_iushr, R_i2b, R_i2c, R_ladd, R_lsub, R_lmul, R_land, R_lor, R_lxor, R_lshl, R_lushr, R_goto, R_gotow, R_ifnullN, R_ifnullS, R_ifnonN, R_ifnonS, R_ifeq, R_ifne, R_iflt, R_ifge, R_ifgt, R_ifle, R_icmpeq, R_icmpne, R_icmplt, R_icmpge, R_icmpgt, R_icmple, R_tsw, R_lsw, R_alen, R_iald, R_bald, R_lald, R_aald, R_iast, R_last, R_bast, R_aast, R_new, R_newI, R_gf, R_pfI, R_pfZ, R_pfL, R_pfR, isZ_0, isZ_1, isZ_ite, gfA_0, gfA_1, gfA_2, gfA_3, opt2_s, opt2_n, R_iload0, R_iload1, R_iload2, R_iload3, R_iload4, R_iload5, R_iload6, R_iload7, R_iload8, R_lload0, R_lload1, R_lload2, R_lload3, R_lload4, R_lload5, R_lload6, R_lload7, R_lload8, R_aload0, R_aload1, R_aload2, R_aload3, R_aload4, R_aload5, R_aload6, R_aload7, R_aload8, R_istore0, R_istore1, R_istore2, R_istore3, R_istore4, R_istore5, R_istore6, R_istore7, R_istore8, R_lstore0, R_lstore1, R_lstore2, R_lstore3, R_lstore4, R_lstore5, R_lstore6, R_lstore7, R_lstore8, R_astore0, R_astore1, R_astore2, R_astore3, R_astore4, R_astore5, R_astore6, R_astore7, R_astore8, R_iinc0, R_iinc1, R_iinc2, R_iinc3, R_iinc4, R_iinc5, R_iinc6, R_iinc7, R_iinc8, KM_61, OM_61, KM_62, OM_62, KM_63, OM_63, KM_64, OM_64, KM_65, OM_65, KM_66, OM_66, KM_67, OM_67, KM_68, OM_68, KM_69, OM_69, KM_70, OM_70, KM_71, OM_71, KM_72, OM_72, KM_73, OM_73, KM_74, OM_74, KM_75, OM_75, KM_76, OM_76, KM_77, OM_77, KM_78, OM_78, KM_79, OM_79, KM_80, OM_80, KM_81, OM_81, KM_82, OM_82, KM_83, OM_83, KM_84, OM_84, KM_85, OM_85, KM_86, OM_86, KM_87, OM_87, KM_88, OM_88, KM_89, OM_89, KM_90, OM_90, KM_91, OM_91, KM_92, OM_92, PM_61_0, PM_61_9, PM_61_10, PM_61_12, PM_61_13, PM_61_15, PM_61_16, PM_61_23, PM_61_28, PM_61_31, PM_61_33, PM_61_34, PM_61_35, PM_61_36, PM_61_37, PM_61_38, PM_61_43, PM_61_44, PM_61_45, PM_61_46, PM_61_47, PM_61_48, PM_61_49, PM_61_50, PM_61_51, PM_61_52, PM_61_53, PM_61_54, PM_61_59, PM_61_60, PM_61_61, Nat.reduceDiv, Nat.reduceMod, Nat.reduceLeDiff, Nat.reduceEqDiff, Int.reduceToNat, Int.reduceLT, Int.reduceLE, Int.reduceEq, Int.reduceNeg, Int.reduceAdd, Int.reduceSub, Int.reduceMul, not_true_eq_false, not_false_eq_true, true_or, or_true, or_false, false_or, false_and, and_false, w32_lit, lc_lt, lc_gt, lc_eq, lc_ge, lc_le, ite10, true_and, and_true, reduceIte, Nat.reduceLT, cats, catA, Nat.reduceAdd, Nat.zero_le, Nat.reduceLeDiff, rdI_wrI, rdI_wrL, rdI_wrR, rdL_wrI, rdL_wrL, rdL_wrR, rdR_wrI, rdR_wrL, knd_wrI, knd_wrL, knd_wrR, hpN_wrI, hpN_wrL, hpN_wrR, r_M_clear, c1M]
theorem l_clear (h : Rel B hx hm) : Lk B B hx hm 26 [vR (some 4)] 198 [vR (some 61)] := by
  obtain ⟨n, ns, k, hR, hJ, hW⟩ := id h
  obtain ⟨⟨k1, k6, h0⟩, h1, h2, h3, h4, h5, h6, h7, h8, h9, h10, h11⟩ := id hR
  obtain ⟨g0, g1, g2, g3, g4, g5⟩ := id h3
  obtain ⟨g, G1, G2⟩ := t_clearM (L := 998) (h := hm)
  have eX : ∀ Q, Call sysS GX 999 26 [vR (some 4)] hx Q ↔ Q (some (vI (n : Int))) (clX hx) := fun Q => by rw [t_clearX (L := 998), g1]
  have eM : ∀ Q, Call sysS GM 999 198 [vR (some 61)] hm Q ↔ Q (some (vI (n : Int))) (c1M g) := fun Q => by rw [G2, g2]
  obtain ⟨Z1, Z2, Z3, Z4⟩ := bgX_b (h := c0X hx) (x := 0) (ap := 0) (f := 0)
  have ex : ∀ b j, ¬ (b = 4 ∧ 7 ≤ j) → rdI (clX hx) b j = rdI (bgX (c0X hx) 0 0 0) b j := fun b j q => by unfold clX; rw [rdI_wrI, if_neg (by omega), rdI_wrI, if_neg (by omega), rdI_wrI, if_neg (by omega), rdI_wrI, if_neg (by omega), rdI_wrI, if_neg (by omega), rdI_wrI, if_neg (by omega), rdI_wrI, if_neg (by omega), rdI_wrI, if_neg (by omega)]
  have aI : ∀ b j, ¬ (b = 4 ∧ 7 ≤ j) → ¬ (b = 5 ∧ j = 1) → ¬ (b = 7 ∧ j = 1) → ¬ (b = 17 ∧ j = 7) → b ≠ 28 → rdI (clX hx) b j = rdI hx b j := fun b j q1 q2 q3 q4 q5 => by rw [ex b j q1, Z1 _ _ (by omega)]; unfold c0X; rw [rdI_wrI, if_neg q4, rdI_wrI, if_neg q3, rdI_wrI, if_neg q2]
  have a5 : rdI (clX hx) 5 1 = 0 := by rw [ex _ _ (by omega), Z1 _ _ (by omega)]; simp [c0X, rdI_wrI]
  have a7 : rdI (clX hx) 7 1 = 0 := by rw [ex _ _ (by omega), Z1 _ _ (by omega)]; simp [c0X, rdI_wrI]
  have a17 : rdI (clX hx) 17 7 = 0 := by rw [ex _ _ (by omega), Z1 _ _ (by omega)]; simp [c0X, rdI_wrI]
  have a4 : rdI (clX hx) 4 7 = 1 ∧ rdI (clX hx) 4 8 = 0 ∧ rdI (clX hx) 4 9 = 0 ∧ rdI (clX hx) 4 10 = 0 ∧ rdI (clX hx) 4 11 = 0 ∧ rdI (clX hx) 4 12 = 0 ∧ rdI (clX hx) 4 13 = 0 ∧ rdI (clX hx) 4 14 = 0 := by
    unfold clX
    simp [rdI_wrI]
  have a28 := Z3 0 (by omega) (by omega)
  have e28 : ∀ j, rdI (clX hx) 28 j = rdI (bgX (c0X hx) 0 0 0) (28 + 4 * 0) j := fun j => ex _ _ (by omega)
  have aL : ∀ b j, b ≠ 28 → rdL (clX hx) b j = rdL hx b j := fun b j q => Z2 b j (by omega)
  have aL28 : rdL (clX hx) 28 1 = 0 := a28.2.1
  have aR : (clX hx).2.2 = hx.2.2 := rfl
  obtain ⟨Y1, Y2, Y3⟩ := G1
  have b28 := Y2 0 (by omega) (by omega)
  have cx : ∀ b j, b ≠ 61 → rdI (c1M g) b j = rdI g b j := fun b j q => by unfold c1M; rw [rdI_wrI, if_neg (by omega), rdI_wrI, if_neg (by omega), rdI_wrI, if_neg (by omega), rdI_wrI, if_neg (by omega)]
  have cI : ∀ b j, b ≠ 61 → ¬ ((b = 78 ∨ b = 80 ∨ b = 83 ∨ b = 84 ∨ b = 87) ∧ j = 0) → ¬ (b = 79 ∧ j < 61) → rdI (c1M g) b j = rdI hm b j := fun b j q1 q2 q3 => by rw [cx b j q1, Y1 _ _ (by omega) (by omega)]; unfold c0M; rw [rdI_wrI, if_neg (by omega), rdI_wrI, if_neg (by omega), rdI_wrI, if_neg (by omega), rdI_wrI, if_neg (by omega), rdI_wrI, if_neg (by omega), rdI_wrI, if_neg (by omega), rdI_wrI, if_neg (by omega)]
  have cg : ∀ j, rdI g 61 j = rdI (c0M hm) 61 j := fun j => Y1 _ _ (by omega) (by omega)
  have c61 : rdI (c1M g) 61 1 = 0 ∧ rdI (c1M g) 61 32 = 0 ∧ rdI (c1M g) 61 30 = 0 ∧ rdI (c1M g) 61 39 = 0 ∧ rdI (c1M g) 61 40 = 0 ∧ rdI (c1M g) 61 41 = 0 ∧ rdI (c1M g) 61 42 = 1 ∧ rdI (c1M g) 61 55 = 0 ∧ rdI (c1M g) 61 56 = 0 ∧ rdI (c1M g) 61 57 = 0 ∧ rdI (c1M g) 61 58 = 0 := by
    unfold c1M
    simp [rdI_wrI, cg, c0M]
  have cL : ∀ b j, rdL (c1M g) b j = rdL hm b j := fun b j => by
    have e1 : rdL (c1M g) b j = rdL g b j := rfl
    have e2 : rdL g b j = rdL (c0M hm) b j := by unfold rdL; rw [Y3]
    rw [e1, e2]; rfl
  have cR : (c1M g).2.2 = hm.2.2 := by
    show g.2.2 = _
    rw [Y3]; rfl
  refine ⟨vI (n : Int), clX hx, c1M g, eX, eM, ?_, Nat.le_add_right _ _, Nat.le_add_right _ _, by unfold hpN; rw [cR], by unfold hpS; rw [cR]⟩
  obtain ⟨p1, p2, p3, p4, p5, p6, p7, p8⟩ := a4
  obtain ⟨q1, q2, q3, q4, q5, q6, q7, q8, q9, q10, q11⟩ := c61
  obtain ⟨s1, s2, s3, s4, s5, s6, s7, s8, s9⟩ := a28
  rw [← e28] at s1 s3 s4 s5 s6 s7 s8 s9
  obtain ⟨u1, u2, u3, u4, u5, u6⟩ := b28
  rw [← cx _ _ (by omega)] at u1 u2 u3 u4 u5
  have u6' : ∀ t < 61, rdI (c1M g) 79 t = 0 := fun t ht => by
    have := u6 t ht
    rw [Nat.mul_zero, Nat.zero_add, ← cx _ _ (by omega)] at this
    exact this
  have aQ : ∀ b j, rdQ (clX hx) b j = rdQ hx b j := fun b j => rfl
  have hN : 93 ≤ hpN (clX hx) := h0
  clear eX eM ex e28 aR cx cg cR Z1 Z2 Z3 Z4 G2 Y1 Y2 Y3 u6 s2
  generalize clX hx = gx at *
  generalize c1M g = gm at *
  refine ⟨0, 0, 1, ⟨⟨by omega, by omega, hN⟩, ?_, ?_, ?_, ?_, ?_, ?_, ?_, ?_, ?_, ?_, ?_⟩, ⟨fun y hy => ?_, ?_⟩, fun y hy => ?_⟩
  · exact ⟨0, by omega, a5, q1, fun i hi => by omega⟩
  · exact ⟨fun _ => 0, ⟨a7, by omega, fun j hj => by omega⟩, q3, by omega, fun j hj => by omega⟩
  · refine ⟨by omega, a17, q2, fun i i1 i2 => by omega, fun i i1 i2 => by omega, fun v hv r hr => ?_⟩
    have ev : v = 0 := by omega
    subst ev
    obtain ⟨t, e1, e2, e3, e4, e5⟩ := g5 0 (by omega) r hr
    have et : t = 0 := by omega
    subst et
    refine ⟨0, by rw [aI _ _ (by omega) (by omega) (by omega) (by omega) (by omega)]; exact e1, by rw [cI _ _ (by omega) (by omega) (by omega)]; exact e2, by omega, fun q => absurd rfl q, ?_⟩
    rw [aI _ _ (by omega) (by omega) (by omega) (by omega) (by omega), cI _ _ (by omega) (by omega) (by omega)]
    exact e5
  · intro t h1 h2; omega
  · intro y hy
    by_cases c : y = 0
    · subst c
      exact ⟨0, by omega, s1, u1, fun _ => by omega⟩
    · obtain ⟨a, e1, e2, e3, e4⟩ := h5 y hy
      exact ⟨a, e1, by rw [aI _ _ (by omega) (by omega) (by omega) (by omega) (by omega)]; exact e2, by rw [cI _ _ (by omega) (by omega) (by omega)]; exact e3, fun z => by omega⟩
  · intro y hy t ht
    by_cases c : y = 0
    · subst c
      refine Or.inr ⟨?_, ?_⟩
      · rw [Nat.mul_zero, Nat.add_zero, aL28]; exact bL_0 t
      · rw [Nat.mul_zero, Nat.zero_add]; exact u6' t ht
    · rw [aL _ _ (by omega), cI _ _ (by omega) (by omega) (by omega)]
      exact h6 y hy t ht
  · intro y hy
    by_cases c : y = 0
    · subst c
      exact ⟨0, by omega, u4, s5, s6, fun j _ q => by omega⟩
    · obtain ⟨o, e1, e2, e3, e4, e5⟩ := h7 y hy
      refine ⟨o, e1, by rw [cI _ _ (by omega) (by omega) (by omega)]; exact e2, by rw [aI _ _ (by omega) (by omega) (by omega) (by omega) (by omega)]; exact e3, by rw [aI _ _ (by omega) (by omega) (by omega) (by omega) (by omega)]; exact e4, fun j j1 j2 => ?_⟩
      rw [aL _ _ (by omega), aI _ _ (by omega) (by omega) (by omega) (by omega) (by omega), cL, cI _ _ (by omega) (by omega) (by omega)]
      exact e5 j j1 j2
  · intro y hy
    by_cases c : y = 0
    · subst c
      rw [Nat.mul_zero, Nat.add_zero, s7, s8, s9, u5]
      exact ⟨rfl, Or.inl ⟨rfl, rfl, rfl⟩⟩
    · rw [aI _ _ (by omega) (by omega) (by omega) (by omega) (by omega), aI _ _ (by omega) (by omega) (by omega) (by omega) (by omega), aI _ _ (by omega) (by omega) (by omega) (by omega) (by omega), cI _ _ (by omega) (by omega) (by omega), cI _ _ (by omega) (by omega) (by omega), cI _ _ (by omega) (by omega) (by omega)]
      exact h8 y hy
  · exact ⟨0, by omega, p2, q11, fun m hm => by omega⟩
  · refine ⟨p1, q7, ⟨by rw [p3, q5], by rw [q5]; rfl⟩, ⟨by rw [p4, q6], by rw [q6]; rfl⟩, by rw [p5, q4], by rw [p6, q8], by rw [p8, q10]⟩
  · exact h11.c (fun b j q => aI b j (by omega) (by omega) (by omega) (by omega) (by omega))
  · by_cases c : y = 0
    · subst c
      rw [Nat.mul_zero, Nat.add_zero, s3, u3]
    · rw [aI _ _ (by omega) (by omega) (by omega) (by omega) (by omega), cI _ _ (by omega) (by omega) (by omega)]
      exact hJ.1 y hy
  · rw [p7, q9]
  · have c : y = 0 := by omega
    subst c
    exact ⟨0, by omega, s4, u2, fun j hj => by omega⟩
end CR
