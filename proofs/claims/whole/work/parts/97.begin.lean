/-! tasks that begin -/
def BgX (h g : AH) (lo hi : Nat) (ap : Int) (f : Int64) : Prop := (∀ b j, ¬ (28 + 4 * lo ≤ b ∧ b < 28 + 4 * hi ∧ b % 4 = 0) → rdI g b j = rdI h b j) ∧ (∀ b j, ¬ (28 + 4 * lo ≤ b ∧ b < 28 + 4 * hi ∧ b % 4 = 0) → rdL g b j = rdL h b j) ∧ (∀ x, lo ≤ x → x < hi → rdI g (28 + 4 * x) 0 = ap ∧ rdL g (28 + 4 * x) 1 = f ∧ rdI g (28 + 4 * x) 2 = 0 ∧ rdI g (28 + 4 * x) 4 = 0 ∧ rdI g (28 + 4 * x) 7 = 0 ∧ rdI g (28 + 4 * x) 8 = 0 ∧ rdI g (28 + 4 * x) 9 = 0 ∧ rdI g (28 + 4 * x) 10 = -5 ∧ rdI g (28 + 4 * x) 11 = -5) ∧ g.2.2 = h.2.2
def BgM (h g : AH) (lo hi : Nat) (ap : Int) (fo : Nat → Int) : Prop := (∀ b j, ¬ ((b = 78 ∨ b = 80 ∨ b = 83 ∨ b = 84 ∨ b = 87) ∧ lo ≤ j ∧ j < hi) → ¬ (b = 79 ∧ 61 * lo ≤ j ∧ j < 61 * hi) → rdI g b j = rdI h b j) ∧ (∀ x, lo ≤ x → x < hi → rdI g 78 x = ap ∧ rdI g 80 x = 0 ∧ rdI g 83 x = 0 ∧ rdI g 84 x = 0 ∧ rdI g 87 x = 0 ∧ ∀ t < 61, rdI g 79 (61 * x + t) = fo t) ∧ g.2 = h.2
section BG
variable {hx hm gx gm h g : AH} {B n ns k L L' x lo hi mid : Nat} {Q : Option AV → AH → Prop} {ap : Int} {f : Int64} {fo : Nat → Int}
theorem BgX.tr {g' : AH} (a : BgX h g lo mid ap f) (b : BgX g g' mid hi ap f) (h1 : lo ≤ mid) (h2 : mid ≤ hi) : BgX h g' lo hi ap f := by
  obtain ⟨a1, a2, a3, a4⟩ := a
  obtain ⟨b1, b2, b3, b4⟩ := b
  refine ⟨fun b j q => by rw [b1 _ _ (by omega), a1 _ _ (by omega)], fun b j q => by rw [b2 _ _ (by omega), a2 _ _ (by omega)], fun x x1 x2 => ?_, by rw [b4, a4]⟩
  by_cases c : x < mid
  · obtain ⟨c1, c2, c3, c4, c5, c6, c7, c8, c9⟩ := a3 x x1 c
    rw [b1 _ _ (by omega), b1 _ _ (by omega), b1 _ _ (by omega), b1 _ _ (by omega), b1 _ _ (by omega), b1 _ _ (by omega), b1 _ _ (by omega), b1 _ _ (by omega), b2 _ _ (by omega)]
    exact ⟨c1, c2, c3, c4, c5, c6, c7, c8, c9⟩
  · exact b3 x (by omega) x2
theorem BgM.tr {g' : AH} (a : BgM h g lo mid ap fo) (b : BgM g g' mid hi ap fo) (h1 : lo ≤ mid) (h2 : mid ≤ hi) : BgM h g' lo hi ap fo := by
  obtain ⟨a1, a3, a4⟩ := a
  obtain ⟨b1, b3, b4⟩ := b
  refine ⟨fun b j q r => by rw [b1 _ _ (by omega) (by omega), a1 _ _ (by omega) (by omega)], fun x x1 x2 => ?_, by rw [b4, a4]⟩
  by_cases c : x < mid
  · obtain ⟨c1, c2, c3, c4, c5, c6⟩ := a3 x x1 c
    rw [b1 _ _ (by omega) (by omega), b1 _ _ (by omega) (by omega), b1 _ _ (by omega) (by omega), b1 _ _ (by omega) (by omega), b1 _ _ (by omega) (by omega)]
    exact ⟨c1, c2, c3, c4, c5, fun t ht => by rw [b1 _ _ (by omega) (by omega)]; exact c6 t ht⟩
  · exact b3 x (by omega) x2
theorem BgX.rf : BgX h h lo lo ap f := ⟨fun _ _ _ => rfl, fun _ _ _ => rfl, fun x h1 h2 => by omega, rfl⟩
theorem BgM.rf : BgM h h lo lo ap fo := ⟨fun _ _ _ _ => rfl, fun x h1 h2 => by omega, rfl⟩
def bgX (h : AH) (x : Nat) (ap : Int) (f : Int64) : AH := wrI (wrI (wrI (wrI (wrI (wrI (wrI (wrL (wrI h (28 + 4 * x) 0 ap) (28 + 4 * x) 1 f) (28 + 4 * x) 2 0) (28 + 4 * x) 4 0) (28 + 4 * x) 7 0) (28 + 4 * x) 8 0) (28 + 4 * x) 9 0) (28 + 4 * x) 10 (-5)) (28 + 4 * x) 11 (-5)
set_option maxRecDepth 10000 in
theorem t_Task_begin (hx6 : x < 6) : Call sysS GX L 110 [vR (some (28 + 4 * x)), vI ap, vL f] h Q ↔ Q none (bgX h x ap f) := by
  simp only [e_Task_begin, b_Task_begin_0, R_iconst, R_lc, R_null, R_ldc, R_gets0, R_gets1, R_objI, R_dupI, R_dupR, R_popI, R_popR, R_dup2L, R_dup2IR, R_pop2, R_i2l, R_l2i, R_lneg, R_lcmp, R_iadd, R_isub, R_imul, R_iand, R_ior, R_ixor, R_ishl, R_ishr, R_iushr, R_i2b, R_i2c, R_ladd, R_lsub, R_lmul, R_land, R_lor, R_lxor, R_lshl, R_lushr, R_goto, R_gotow, R_ifnullN, R_ifnullS, R_ifnonN, R_ifnonS, R_ifeq, R_ifne, R_iflt, R_ifge, R_ifgt, R_ifle, R_icmpeq, R_icmpne, R_icmplt, R_icmpge, R_icmpgt, R_icmple, R_tsw, R_lsw, R_alen, R_iald, R_bald, R_lald, R_aald, R_iast, R_last, R_bast, R_aast, R_new, R_newI, R_gf, R_pfI, R_pfZ, R_pfL, R_pfR, isZ_0, isZ_1, isZ_ite, gfA_0, gfA_1, gfA_2, gfA_3, opt2_s, opt2_n, R_iload0, R_iload1, R_iload2, R_iload3, R_iload4, R_iload5, R_iload6, R_iload7, R_iload8, R_lload0, R_lload1, R_lload2, R_lload3, R_lload4, R_lload5, R_lload6, R_lload7, R_lload8, R_aload0, R_aload1, R_aload2, R_aload3, R_aload4, R_aload5, R_aload6, R_aload7, R_aload8, R_istore0, R_istore1, R_istore2, R_istore3, R_istore4, R_istore5, R_istore6, R_istore7, R_istore8, R_lstore0, R_lstore1, R_lstore2, R_lstore3, R_lstore4, R_lstore5, R_lstore6, R_lstore7, R_lstore8, R_astore0, R_astore1, R_astore2, R_astore3, R_astore4, R_astore5, R_astore6, R_astore7, R_astore8, R_iinc0, R_iinc1, R_iinc2, R_iinc3, R_iinc4, R_iinc5, R_iinc6, R_iinc7, R_iinc8, KX_1, KX_2, KX_3, KX_4, OX_4, KX_5, OX_5, KX_6, OX_6, KX_7, OX_7, KX_8, OX_8, KX_9, OX_9, KX_10, OX_10, KX_11, OX_11, KX_12, OX_12, KX_13, OX_13, KX_14, OX_14, KX_15, OX_15, KX_16, OX_16, KX_17, OX_17, KX_18, OX_18, KX_19, OX_19, KX_20, OX_20, KX_21, OX_21, KX_22, OX_22, KX_23, OX_23, KX_24, OX_24, KX_25, OX_25, KX_26, OX_26, KX_27, OX_27, KX_28, OX_28, KX_29, OX_29, KX_30, OX_30, KX_31, OX_31, KX_32, OX_32, KX_33, OX_33, KX_34, OX_34, KX_35, OX_35, KX_36, OX_36, KX_37, OX_37, KX_38, OX_38, KX_39, OX_39, KX_40, OX_40, KX_41, OX_41, KX_42, OX_42, KX_43, OX_43, KX_44, OX_44, KX_45, OX_45, KX_46, OX_46, KX_47, OX_47, KX_48, OX_48, KX_49, OX_49, KX_50, OX_50, KX_51, OX_51, KX_52, OX_52, KX_53, OX_53, KX_54, OX_54, KX_55, OX_55, KX_56, OX_56, KX_57, OX_57, KX_58, OX_58, KX_59, OX_59, KX_60, OX_60, PX_2_0, PX_4_0, PX_4_1, PX_4_2, PX_4_3, PX_4_4, PX_4_5, PX_4_6, PX_5_0, PX_7_0, PX_9_0, PX_9_1, PX_10_0, PX_10_1, PX_10_2, PX_14_0, PX_14_1, PX_17_0, PX_17_1, PX_17_2, PX_17_3, PX_17_4, PX_17_5, PX_17_6, PX_25_0, PX_27_0, PX_27_1, PX_27_2, PX_27_3, PX_27_4, PX_27_5, PX_28_3, PX_28_5, PX_28_6, PX_32_3, PX_32_5, PX_32_6, PX_36_3, PX_36_5, PX_36_6, PX_40_3, PX_40_5, PX_40_6, PX_44_3, PX_44_5, PX_44_6, PX_48_3, PX_48_5, PX_48_6, PX_52_0, PX_52_1, PX_52_2, PX_52_3, PX_53_1, PX_55_1, PX_57_1, PX_59_1, Nat.reduceDiv, Nat.reduceMod, Nat.reduceLeDiff, Nat.reduceEqDiff, Int.reduceToNat, Int.reduceLT, Int.reduceLE, Int.reduceEq, Int.reduceNeg, Int.reduceAdd, Int.reduceSub, Int.reduceMul, not_true_eq_false, not_false_eq_true, true_or, or_true, or_false, false_or, false_and, and_false, w32_lit, lc_lt, lc_gt, lc_eq, lc_ge, lc_le, ite10, true_and, and_true, reduceIte, Nat.reduceLT, cats, catA, Nat.reduceAdd, Nat.zero_le, Nat.reduceLeDiff, rdI_wrI, rdI_wrL, rdI_wrR, rdL_wrI, rdL_wrL, rdL_wrR, rdR_wrI, rdR_wrL, knd_wrI, knd_wrL, knd_wrR, hpN_wrI, hpN_wrL, hpN_wrR, KT hx6, OT hx6, r_Task_begin, bgX]
theorem bgX_b : BgX h (bgX h x ap f) x (x + 1) ap f := by
  unfold bgX
  refine ⟨fun b j q => ?_, fun b j q => ?_, fun y y1 y2 => ?_, rfl⟩
  · rw [rdI_wrI, if_neg (by omega), rdI_wrI, if_neg (by omega), rdI_wrI, if_neg (by omega), rdI_wrI, if_neg (by omega), rdI_wrI, if_neg (by omega), rdI_wrI, if_neg (by omega), rdI_wrI, if_neg (by omega), rdI_wrL, rdI_wrI, if_neg (by omega)]
  · rw [rdL_wrI, rdL_wrI, rdL_wrI, rdL_wrI, rdL_wrI, rdL_wrI, rdL_wrI, rdL_wrL, if_neg (by omega), rdL_wrI]
  · have e : y = x := by omega
    subst e
    simp [rdI_wrI, rdI_wrL, rdL_wrI, rdL_wrL]
set_option maxRecDepth 10000 in
theorem t_beginL (hx6 : x < 6) : ∀ (kk i : Nat) (h : AH), i + kk = 61 → ∃ g, (∀ b j, ¬ (b = 79 ∧ 61 * x + i ≤ j ∧ j < 61 * x + 61) → rdI g b j = rdI h b j) ∧ (∀ t, i ≤ t → t < 61 → rdI g 79 (61 * x + t) = 0) ∧ g.2 = h.2 ∧ ∀ Q, Run sysS GM L 177 (sysS.2.1 177 37) [vR (some 61), vI x, vI (i : Int)] [] h Q ↔ Q none g := by
  intro kk
  induction kk with
  | zero =>
    intro i h hi
    refine ⟨h, fun _ _ _ => rfl, fun t t1 t2 => by omega, rfl, fun Q => ?_⟩
    rw [b_M_begin_37]
    simp only [b_M_begin_61, R_iconst, R_lc, R_null, R_ldc, R_gets0, R_gets1, R_objI, R_dupI, R_dupR, R_popI, R_popR, R_dup2L, R_dup2IR, R_pop2, R_i2l, R_l2i, R_lneg, R_lcmp, R_iadd, R_isub, R_imul, R_iand, R_ior, R_ixor, R_ishl, R_ishr, R_iushr, R_i2b, R_i2c, R_ladd, R_lsub, R_lmul, R_land, R_lor, R_lxor, R_lshl, R_lushr, R_goto, R_gotow, R_ifnullN, R_ifnullS, R_ifnonN, R_ifnonS, R_ifeq, R_ifne, R_iflt, R_ifge, R_ifgt, R_ifle, R_icmpeq, R_icmpne, R_icmplt, R_icmpge, R_icmpgt, R_icmple, R_tsw, R_lsw, R_alen, R_iald, R_bald, R_lald, R_aald, R_iast, R_last, R_bast, R_aast, R_new, R_newI, R_gf, R_pfI, R_pfZ, R_pfL, R_pfR, isZ_0, isZ_1, isZ_ite, gfA_0, gfA_1, gfA_2, gfA_3, opt2_s, opt2_n, R_iload0, R_iload1, R_iload2, R_iload3, R_iload4, R_iload5, R_iload6, R_iload7, R_iload8, R_lload0, R_lload1, R_lload2, R_lload3, R_lload4, R_lload5, R_lload6, R_lload7, R_lload8, R_aload0, R_aload1, R_aload2, R_aload3, R_aload4, R_aload5, R_aload6, R_aload7, R_aload8, R_istore0, R_istore1, R_istore2, R_istore3, R_istore4, R_istore5, R_istore6, R_istore7, R_istore8, R_lstore0, R_lstore1, R_lstore2, R_lstore3, R_lstore4, R_lstore5, R_lstore6, R_lstore7, R_lstore8, R_astore0, R_astore1, R_astore2, R_astore3, R_astore4, R_astore5, R_astore6, R_astore7, R_astore8, R_iinc0, R_iinc1, R_iinc2, R_iinc3, R_iinc4, R_iinc5, R_iinc6, R_iinc7, R_iinc8, KM_61, OM_61, KM_62, OM_62, KM_63, OM_63, KM_64, OM_64, KM_65, OM_65, KM_66, OM_66, KM_67, OM_67, KM_68, OM_68, KM_69, OM_69, KM_70, OM_70, KM_71, OM_71, KM_72, OM_72, KM_73, OM_73, KM_74, OM_74, KM_75, OM_75, KM_76, OM_76, KM_77, OM_77, KM_78, OM_78, KM_79, OM_79, KM_80, OM_80, KM_81, OM_81, KM_82, OM_82, KM_83, OM_83, KM_84, OM_84, KM_85, OM_85, KM_86, OM_86, KM_87, OM_87, KM_88, OM_88, KM_89, OM_89, KM_90, OM_90, KM_91, OM_91, KM_92, OM_92, PM_61_0, PM_61_9, PM_61_10, PM_61_12, PM_61_13, PM_61_15, PM_61_16, PM_61_23, PM_61_28, PM_61_31, PM_61_33, PM_61_34, PM_61_35, PM_61_36, PM_61_37, PM_61_38, PM_61_43, PM_61_44, PM_61_45, PM_61_46, PM_61_47, PM_61_48, PM_61_49, PM_61_50, PM_61_51, PM_61_52, PM_61_53, PM_61_54, PM_61_59, PM_61_60, PM_61_61, Nat.reduceDiv, Nat.reduceMod, Nat.reduceLeDiff, Nat.reduceEqDiff, Int.reduceToNat, Int.reduceLT, Int.reduceLE, Int.reduceEq, Int.reduceNeg, Int.reduceAdd, Int.reduceSub, Int.reduceMul, not_true_eq_false, not_false_eq_true, true_or, or_true, or_false, false_or, false_and, and_false, w32_lit, lc_lt, lc_gt, lc_eq, lc_ge, lc_le, ite10, true_and, and_true, reduceIte, Nat.reduceLT, cats, catA, Nat.reduceAdd, Nat.zero_le, Nat.reduceLeDiff, r_M_begin]
    rw [if_pos (by omega)]
  | succ kk ih =>
    intro i h hi
    have i61 : w32 (w32 (61 * (x : Int)) + (i : Int)) = ((61 * x + i : Nat) : Int) := by
      rw [w32_id (z := 61 * (x : Int)) (by omega) (by omega), w32_id (by omega) (by omega)]; push_cast; rfl
    obtain ⟨g, g1, g2, g3, g4⟩ := ih (i + 1) (wrI h 79 (61 * x + i) 0) (by omega)
    refine ⟨g, fun b j q => by rw [g1 _ _ (by omega), rdI_wrI, if_neg (by omega)], fun t t1 t2 => ?_, g3, fun Q => ?_⟩
    · by_cases c : t = i
      · subst c
        rw [g1 _ _ (by omega), rdI_wrI, if_pos ⟨rfl, rfl⟩]
      · exact g2 t (by omega) t2
    · rw [← g4 Q]
      conv => lhs; rw [b_M_begin_37]
      simp only [R_iconst, R_lc, R_null, R_ldc, R_gets0, R_gets1, R_objI, R_dupI, R_dupR, R_popI, R_popR, R_dup2L, R_dup2IR, R_pop2, R_i2l, R_l2i, R_lneg, R_lcmp, R_iadd, R_isub, R_imul, R_iand, R_ior, R_ixor, R_ishl, R_ishr, R_iushr, R_i2b, R_i2c, R_ladd, R_lsub, R_lmul, R_land, R_lor, R_lxor, R_lshl, R_lushr, R_goto, R_gotow, R_ifnullN, R_ifnullS, R_ifnonN, R_ifnonS, R_ifeq, R_ifne, R_iflt, R_ifge, R_ifgt, R_ifle, R_icmpeq, R_icmpne, R_icmplt, R_icmpge, R_icmpgt, R_icmple, R_tsw, R_lsw, R_alen, R_iald, R_bald, R_lald, R_aald, R_iast, R_last, R_bast, R_aast, R_new, R_newI, R_gf, R_pfI, R_pfZ, R_pfL, R_pfR, isZ_0, isZ_1, isZ_ite, gfA_0, gfA_1, gfA_2, gfA_3, opt2_s, opt2_n, R_iload0, R_iload1, R_iload2, R_iload3, R_iload4, R_iload5, R_iload6, R_iload7, R_iload8, R_lload0, R_lload1, R_lload2, R_lload3, R_lload4, R_lload5, R_lload6, R_lload7, R_lload8, R_aload0, R_aload1, R_aload2, R_aload3, R_aload4, R_aload5, R_aload6, R_aload7, R_aload8, R_istore0, R_istore1, R_istore2, R_istore3, R_istore4, R_istore5, R_istore6, R_istore7, R_istore8, R_lstore0, R_lstore1, R_lstore2, R_lstore3, R_lstore4, R_lstore5, R_lstore6, R_lstore7, R_lstore8, R_astore0, R_astore1, R_astore2, R_astore3, R_astore4, R_astore5, R_astore6, R_astore7, R_astore8, R_iinc0, R_iinc1, R_iinc2, R_iinc3, R_iinc4, R_iinc5, R_iinc6, R_iinc7, R_iinc8, KM_61, OM_61, KM_62, OM_62, KM_63, OM_63, KM_64, OM_64, KM_65, OM_65, KM_66, OM_66, KM_67, OM_67, KM_68, OM_68, KM_69, OM_69, KM_70, OM_70, KM_71, OM_71, KM_72, OM_72, KM_73, OM_73, KM_74, OM_74, KM_75, OM_75, KM_76, OM_76, KM_77, OM_77, KM_78, OM_78, KM_79, OM_79, KM_80, OM_80, KM_81, OM_81, KM_82, OM_82, KM_83, OM_83, KM_84, OM_84, KM_85, OM_85, KM_86, OM_86, KM_87, OM_87, KM_88, OM_88, KM_89, OM_89, KM_90, OM_90, KM_91, OM_91, KM_92, OM_92, PM_61_0, PM_61_9, PM_61_10, PM_61_12, PM_61_13, PM_61_15, PM_61_16, PM_61_23, PM_61_28, PM_61_31, PM_61_33, PM_61_34, PM_61_35, PM_61_36, PM_61_37, PM_61_38, PM_61_43, PM_61_44, PM_61_45, PM_61_46, PM_61_47, PM_61_48, PM_61_49, PM_61_50, PM_61_51, PM_61_52, PM_61_53, PM_61_54, PM_61_59, PM_61_60, PM_61_61, Nat.reduceDiv, Nat.reduceMod, Nat.reduceLeDiff, Nat.reduceEqDiff, Int.reduceToNat, Int.reduceLT, Int.reduceLE, Int.reduceEq, Int.reduceNeg, Int.reduceAdd, Int.reduceSub, Int.reduceMul, not_true_eq_false, not_false_eq_true, true_or, or_true, or_false, false_or, false_and, and_false, w32_lit, lc_lt, lc_gt, lc_eq, lc_ge, lc_le, ite10, true_and, and_true, reduceIte, Nat.reduceLT, cats, catA, Nat.reduceAdd, Nat.zero_le, Nat.reduceLeDiff, i61, Int.toNat_natCast]
      rw [if_neg (by omega), inA_t (by omega) (by omega), wi1 (by omega)]
      simp only [true_and]
set_option maxRecDepth 10000 in
theorem t_M_begin (hx6 : x < 6) : ∃ g, BgM h g x (x + 1) 0 (fun _ => 0) ∧ ∀ Q, Call sysS GM L 177 [vR (some 61), vI x] h Q ↔ Q none g := by
  obtain ⟨g, g1, g2, g3, g4⟩ := t_beginL (L := L) hx6 61 0 (wrI (wrI (wrI (wrI (wrI h 78 x 0) 80 x 0) 83 x 0) 84 x 0) 87 x 0) (by omega)
  refine ⟨g, ⟨fun b j q r => ?_, fun y y1 y2 => ?_, g3⟩, fun Q => ?_⟩
  · rw [g1 _ _ (by omega), rdI_wrI, if_neg (by omega), rdI_wrI, if_neg (by omega), rdI_wrI, if_neg (by omega), rdI_wrI, if_neg (by omega), rdI_wrI, if_neg (by omega)]
  · have e : y = x := by omega
    subst e
    refine ⟨?_, ?_, ?_, ?_, ?_, fun t ht => g2 t (by omega) ht⟩ <;> rw [g1 _ _ (by omega)] <;> simp [rdI_wrI]
  · rw [← g4 Q]
    simp only [e_M_begin, b_M_begin_0, R_iconst, R_lc, R_null, R_ldc, R_gets0, R_gets1, R_objI, R_dupI, R_dupR, R_popI, R_popR, R_dup2L, R_dup2IR, R_pop2, R_i2l, R_l2i, R_lneg, R_lcmp, R_iadd, R_isub, R_imul, R_iand, R_ior, R_ixor, R_ishl, R_ishr, R_iushr, R_i2b, R_i2c, R_ladd, R_lsub, R_lmul, R_land, R_lor, R_lxor, R_lshl, R_lushr, R_goto, R_gotow, R_ifnullN, R_ifnullS, R_ifnonN, R_ifnonS, R_ifeq, R_ifne, R_iflt, R_ifge, R_ifgt, R_ifle, R_icmpeq, R_icmpne, R_icmplt, R_icmpge, R_icmpgt, R_icmple, R_tsw, R_lsw, R_alen, R_iald, R_bald, R_lald, R_aald, R_iast, R_last, R_bast, R_aast, R_new, R_newI, R_gf, R_pfI, R_pfZ, R_pfL, R_pfR, isZ_0, isZ_1, isZ_ite, gfA_0, gfA_1, gfA_2, gfA_3, opt2_s, opt2_n, R_iload0, R_iload1, R_iload2, R_iload3, R_iload4, R_iload5, R_iload6, R_iload7, R_iload8, R_lload0, R_lload1, R_lload2, R_lload3, R_lload4, R_lload5, R_lload6, R_lload7, R_lload8, R_aload0, R_aload1, R_aload2, R_aload3, R_aload4, R_aload5, R_aload6, R_aload7, R_aload8, R_istore0, R_istore1, R_istore2, R_istore3, R_istore4, R_istore5, R_istore6, R_istore7, R_istore8, R_lstore0, R_lstore1, R_lstore2, R_lstore3, R_lstore4, R_lstore5, R_lstore6, R_lstore7, R_lstore8, R_astore0, R_astore1, R_astore2, R_astore3, R_astore4, R_astore5, R_astore6, R_astore7, R_astore8, R_iinc0, R_iinc1, R_iinc2, R_iinc3, R_iinc4, R_iinc5, R_iinc6, R_iinc7, R_iinc8, KM_61, OM_61, KM_62, OM_62, KM_63, OM_63, KM_64, OM_64, KM_65, OM_65, KM_66, OM_66, KM_67, OM_67, KM_68, OM_68, KM_69, OM_69, KM_70, OM_70, KM_71, OM_71, KM_72, OM_72, KM_73, OM_73, KM_74, OM_74, KM_75, OM_75, KM_76, OM_76, KM_77, OM_77, KM_78, OM_78, KM_79, OM_79, KM_80, OM_80, KM_81, OM_81, KM_82, OM_82, KM_83, OM_83, KM_84, OM_84, KM_85, OM_85, KM_86, OM_86, KM_87, OM_87, KM_88, OM_88, KM_89, OM_89, KM_90, OM_90, KM_91, OM_91, KM_92, OM_92, PM_61_0, PM_61_9, PM_61_10, PM_61_12, PM_61_13, PM_61_15, PM_61_16, PM_61_23, PM_61_28, PM_61_31, PM_61_33, PM_61_34, PM_61_35, PM_61_36, PM_61_37, PM_61_38, PM_61_43, PM_61_44, PM_61_45, PM_61_46, PM_61_47, PM_61_48, PM_61_49, PM_61_50, PM_61_51, PM_61_52, PM_61_53, PM_61_54, PM_61_59, PM_61_60, PM_61_61, Nat.reduceDiv, Nat.reduceMod, Nat.reduceLeDiff, Nat.reduceEqDiff, Int.reduceToNat, Int.reduceLT, Int.reduceLE, Int.reduceEq, Int.reduceNeg, Int.reduceAdd, Int.reduceSub, Int.reduceMul, not_true_eq_false, not_false_eq_true, true_or, or_true, or_false, false_or, false_and, and_false, w32_lit, lc_lt, lc_gt, lc_eq, lc_ge, lc_le, ite10, true_and, and_true, reduceIte, Nat.reduceLT, cats, catA, Nat.reduceAdd, Nat.zero_le, Nat.reduceLeDiff, rdI_wrI, rdI_wrL, rdI_wrR, rdL_wrI, rdL_wrL, rdL_wrR, rdR_wrI, rdR_wrL, knd_wrI, knd_wrL, knd_wrR, hpN_wrI, hpN_wrL, hpN_wrR, Int.toNat_natCast]
    simp (disch := omega) only [inA_t, true_and]
    exact Iff.rfl
/-- both begin tasks alike -/
theorem Rl.bg {p : Nat} (h : Rl B n ns k hx hm) (X : BgX hx gx lo hi (p : Int) f) (M : BgM hm gm lo hi (p : Int) fo) (h6 : hi ≤ 6) (hp : p ≤ 60) (hpn : lo < k → p ≤ n) (hf : ∀ t < 61, (bL f t = true ∧ fo t = 1) ∨ (bL f t = false ∧ fo t = 0)) : Rl B n ns k gx gm := by
  obtain ⟨⟨k1, k6, h0⟩, h1, h2, h3, h4, h5, h6', h7, h8, h9, h10, h11⟩ := h
  obtain ⟨a1, a2, a3, a4⟩ := X
  obtain ⟨c1, c3, c4⟩ := M
  have aQ : ∀ b j, rdQ gx b j = rdQ hx b j := fun b j => by unfold rdQ; rw [a4]
  have aK : ∀ b, rdK gx b = rdK hx b := fun b => by unfold rdK; rw [a4]
  have aN : hpN gx = hpN hx := by unfold hpN; rw [a4]
  have cL : ∀ b j, rdL gm b j = rdL hm b j := fun b j => by unfold rdL; rw [c4]
  refine ⟨⟨k1, k6, by omega⟩, ?_, ?_, ?_, ?_, ?_, ?_, ?_, ?_, ?_, ?_, ?_⟩
  · exact h1.c (fun b j q => a1 b j (by omega)) (fun b j q => c1 b j (by omega) (by omega))
  · exact h2.c (a1 _ _ (by omega)) (fun j => a2 _ _ (by omega)) (c1 _ _ (by omega) (by omega)) (fun j => cL _ _)
  · exact h3.c (fun b j q => a1 b j (by omega)) (fun j => a2 _ _ (by omega)) (fun b j q => c1 b j (by omega) (by omega)) (fun j => cL _ _)
  · exact h4.c (fun j _ => aQ _ _) (fun b hb hl => ⟨aK b, fun j => ⟨a1 b j (by omega), aQ b j⟩⟩) (by omega) (fun j _ => c1 _ _ (by omega) (by omega)) (fun b j q => c1 b j (by omega) (by omega)) (fun j _ => cL _ _)
  · intro x hx6
    by_cases c : lo ≤ x ∧ x < hi
    · exact ⟨p, hp, (a3 x c.1 c.2).1, (c3 x c.1 c.2).1, fun q => hpn (by omega)⟩
    · obtain ⟨a, e1, e2, e3, e4⟩ := h5 x hx6
      exact ⟨a, e1, by rw [a1 _ _ (by omega)]; exact e2, by rw [c1 _ _ (by omega) (by omega)]; exact e3, e4⟩
  · intro x hx6 t ht
    by_cases c : lo ≤ x ∧ x < hi
    · rw [(a3 x c.1 c.2).2.1, (c3 x c.1 c.2).2.2.2.2.2 t ht]
      exact hf t ht
    · rw [a2 _ _ (by omega), c1 _ _ (by omega) (by omega)]
      exact h6' x hx6 t ht
  · intro x hx6
    by_cases c : lo ≤ x ∧ x < hi
    · obtain ⟨-, -, -, -, x5, x6, -⟩ := a3 x c.1 c.2
      exact ⟨0, by omega, (c3 x c.1 c.2).2.2.2.1, x5, x6, fun j _ q => by omega⟩
    · obtain ⟨o, e1, e2, e3, e4, e5⟩ := h7 x hx6
      refine ⟨o, e1, by rw [c1 _ _ (by omega) (by omega)]; exact e2, by rw [a1 _ _ (by omega)]; exact e3, by rw [a1 _ _ (by omega)]; exact e4, fun j j1 j2 => ?_⟩
      rw [a2 _ _ (by omega), a1 _ _ (by omega), cL, c1 _ _ (by omega) (by omega)]
      exact e5 j j1 j2
  · intro x hx6
    by_cases c : lo ≤ x ∧ x < hi
    · obtain ⟨-, -, -, -, -, -, x7, x8, x9⟩ := a3 x c.1 c.2
      obtain ⟨-, -, -, -, z5, -⟩ := c3 x c.1 c.2
      rw [x7, x8, x9, z5]
      exact ⟨rfl, Or.inl ⟨rfl, rfl, rfl⟩⟩
    · rw [a1 _ _ (by omega), a1 _ _ (by omega), a1 _ _ (by omega), c1 _ _ (by omega) (by omega), c1 _ _ (by omega) (by omega), c1 _ _ (by omega) (by omega)]
      exact h8 x hx6
  · exact h9.c (a1 _ _ (by omega)) (fun m hm4 => a1 _ _ (by omega)) (fun m hm4 j => a2 _ _ (by omega)) (fun b j q => c1 b j (by omega) (by omega))
  · exact h10.c (fun j q r s => a1 _ _ (by omega)) (fun j q => c1 _ _ (by omega) (by omega))
  · exact h11.c (fun b j q => a1 b j (by omega))
theorem RJd.bg (h : RJd hx hm) (X : BgX hx gx lo hi ap f) (M : BgM hm gm lo hi ap fo) (h6 : hi ≤ 6) : RJd gx gm := by
  obtain ⟨a1, a2, a3, a4⟩ := X
  obtain ⟨c1, c3, c4⟩ := M
  refine ⟨fun x hx6 => ?_, by rw [a1 _ _ (by omega), c1 _ _ (by omega) (by omega)]; exact h.2⟩
  by_cases c : lo ≤ x ∧ x < hi
  · rw [(a3 x c.1 c.2).2.2.1, (c3 x c.1 c.2).2.2.1]
  · rw [a1 _ _ (by omega), c1 _ _ (by omega) (by omega)]
    exact h.1 x hx6
theorem RWx.bg (hx6 : x < 6) (h : RWx hx hm x ∨ lo ≤ x ∧ x < hi) (X : BgX hx gx lo hi ap f) (M : BgM hm gm lo hi ap fo) (h6 : hi ≤ 6) : RWx gx gm x := by
  obtain ⟨a1, a2, a3, a4⟩ := X
  obtain ⟨c1, c3, c4⟩ := M
  have aQ : ∀ b j, rdQ gx b j = rdQ hx b j := fun b j => by unfold rdQ; rw [a4]
  have aK : ∀ b, rdK gx b = rdK hx b := fun b => by unfold rdK; rw [a4]
  have aN : hpN gx = hpN hx := by unfold hpN; rw [a4]
  have cL : ∀ b j, rdL gm b j = rdL hm b j := fun b j => by unfold rdL; rw [c4]
  by_cases c : lo ≤ x ∧ x < hi
  · exact ⟨0, by omega, (a3 x c.1 c.2).2.2.2.1, (c3 x c.1 c.2).2.1, fun j hj => by omega⟩
  · exact (h.resolve_right c).c (a1 _ _ (by omega)) (fun j => aQ _ _) (fun b hb hl => ⟨aK b, fun j => ⟨a1 b j (by omega), a2 b j (by omega)⟩⟩) (by omega) (c1 _ _ (by omega) (by omega)) (fun j hj => c1 _ _ (by omega) (by omega)) (fun j hj => cL _ _)
end BG
