/-! at: the version of a time -/
def cntR (f : Nat → Int64) (u : Int64) : Nat → Nat → Int
  | _, 0 => 0
  | i, k + 1 => (if f i ≤ u then 1 else 0) + cntR f u (i + 1) k
def preR (f : Nat → Int64) (u : Int64) : Nat → Nat → Int
  | v, 0 => v
  | v, k + 1 => if f (v + 1) ≤ u then preR f u (v + 1) k else v
theorem cntR_b (f : Nat → Int64) (u : Int64) : ∀ k i, 0 ≤ cntR f u i k ∧ cntR f u i k ≤ k
  | 0, i => by simp [cntR]
  | k + 1, i => by
    have := cntR_b f u k (i + 1)
    simp only [cntR]
    split <;> omega
theorem preR_b (f : Nat → Int64) (u : Int64) : ∀ k v : Nat, (v : Int) ≤ preR f u v k ∧ preR f u v k ≤ v + k
  | 0, v => by simp [preR]
  | k + 1, v => by
    have := preR_b f u k (v + 1)
    simp only [preR]
    split <;> omega
theorem cntR_0 {f : Nat → Int64} {u : Int64} : ∀ k i, (∀ j, i ≤ j → j < i + k → ¬ f j ≤ u) → cntR f u i k = 0
  | 0, i, _ => rfl
  | k + 1, i, h => by
    simp only [cntR]
    rw [if_neg (h i (Nat.le_refl i) (by omega)), cntR_0 k (i + 1) (fun j h1 h2 => h j (by omega) (by omega))]
    rfl
theorem cnt_pre {f : Nat → Int64} {u : Int64} : ∀ k v : Nat, (∀ j, v + 1 ≤ j → j < v + k → f j ≤ f (j + 1)) → preR f u v k = v + cntR f u (v + 1) k
  | 0, v, _ => by simp [preR, cntR]
  | k + 1, v, h => by
    simp only [preR, cntR]
    by_cases c : f (v + 1) ≤ u
    · rw [if_pos c, if_pos c, cnt_pre k (v + 1) (fun j h1 h2 => h j (by omega) (by omega))]
      push_cast
      omega
    · rw [if_neg c, if_neg c]
      have hm : ∀ d, d ≤ k → ¬ f (v + 1 + d) ≤ u := by
        intro d
        induction d with
        | zero => intro _; exact c
        | succ d ih =>
          intro hd q
          refine ih (by omega) ?_
          have := h (v + 1 + d) (by omega) (by omega)
          rw [Int64.le_iff_toInt_le] at *
          have e : v + 1 + (d + 1) = v + 1 + d + 1 := by omega
          rw [e] at q
          omega
      rw [cntR_0 k (v + 1 + 1) (fun j h1 h2 => by
        have := hm (j - (v + 1)) (by omega)
        rw [show v + 1 + (j - (v + 1)) = j by omega] at this
        exact this)]
      omega
section AT
variable {L : Nat} {h : AH} {Q : Option AV → AH → Prop} {u : Int64}
set_option maxRecDepth 10000 in
theorem l_M_at (h1 : rdI h 61 32 ≤ 60) : ∀ (k i : Nat) (m : Int), 1 ≤ i → (i : Int) + k = rdI h 61 32 + 1 → 0 ≤ m → m ≤ i → (Run sysS GM L 186 (sysS.2.1 186 5) [vR (some 61), vL u, vU, vI m, vI i] [] h Q ↔ Q (some (vI (m + cntR (fun j => rdL h 75 j) u i k))) h) := by
  intro k
  induction k with
  | zero =>
    intro i m hi hk m0 m1
    rw [b_M_at_5]
    simp only [b_M_at_0, b_M_at_31, b_M_at_32, b_M_at_40, r_M_at, R_iconst, R_lc, R_null, R_ldc, R_gets0, R_gets1, R_objI, R_dupI, R_dupR, R_popI, R_popR, R_dup2L, R_dup2IR, R_pop2, R_i2l, R_l2i, R_lneg, R_lcmp, R_iadd, R_isub, R_imul, R_iand, R_ior, R_ixor, R_ishl, R_ishr, R_iushr, R_i2b, R_i2c, R_ladd, R_lsub, R_lmul, R_land, R_lor, R_lxor, R_lshl, R_lushr, R_goto, R_gotow, R_ifnullN, R_ifnullS, R_ifnonN, R_ifnonS, R_ifeq, R_ifne, R_iflt, R_ifge, R_ifgt, R_ifle, R_icmpeq, R_icmpne, R_icmplt, R_icmpge, R_icmpgt, R_icmple, R_tsw, R_lsw, R_alen, R_iald, R_bald, R_lald, R_aald, R_iast, R_last, R_bast, R_aast, R_new, R_newI, R_gf, R_pfI, R_pfZ, R_pfL, R_pfR, isZ_0, isZ_1, isZ_ite, gfA_0, gfA_1, gfA_2, gfA_3, opt2_s, opt2_n, R_iload0, R_iload1, R_iload2, R_iload3, R_iload4, R_iload5, R_iload6, R_iload7, R_iload8, R_lload0, R_lload1, R_lload2, R_lload3, R_lload4, R_lload5, R_lload6, R_lload7, R_lload8, R_aload0, R_aload1, R_aload2, R_aload3, R_aload4, R_aload5, R_aload6, R_aload7, R_aload8, R_istore0, R_istore1, R_istore2, R_istore3, R_istore4, R_istore5, R_istore6, R_istore7, R_istore8, R_lstore0, R_lstore1, R_lstore2, R_lstore3, R_lstore4, R_lstore5, R_lstore6, R_lstore7, R_lstore8, R_astore0, R_astore1, R_astore2, R_astore3, R_astore4, R_astore5, R_astore6, R_astore7, R_astore8, R_iinc0, R_iinc1, R_iinc2, R_iinc3, R_iinc4, R_iinc5, R_iinc6, R_iinc7, R_iinc8, KM_61, OM_61, KM_62, OM_62, KM_63, OM_63, KM_64, OM_64, KM_65, OM_65, KM_66, OM_66, KM_67, OM_67, KM_68, OM_68, KM_69, OM_69, KM_70, OM_70, KM_71, OM_71, KM_72, OM_72, KM_73, OM_73, KM_74, OM_74, KM_75, OM_75, KM_76, OM_76, KM_77, OM_77, KM_78, OM_78, KM_79, OM_79, KM_80, OM_80, KM_81, OM_81, KM_82, OM_82, KM_83, OM_83, KM_84, OM_84, KM_85, OM_85, KM_86, OM_86, KM_87, OM_87, KM_88, OM_88, KM_89, OM_89, KM_90, OM_90, KM_91, OM_91, KM_92, OM_92, PM_61_0, PM_61_9, PM_61_10, PM_61_12, PM_61_13, PM_61_15, PM_61_16, PM_61_23, PM_61_28, PM_61_31, PM_61_33, PM_61_34, PM_61_35, PM_61_36, PM_61_37, PM_61_38, PM_61_43, PM_61_44, PM_61_45, PM_61_46, PM_61_47, PM_61_48, PM_61_49, PM_61_50, PM_61_51, PM_61_52, PM_61_53, PM_61_54, PM_61_59, PM_61_60, PM_61_61, Nat.reduceDiv, Nat.reduceMod, Nat.reduceLeDiff, Nat.reduceEqDiff, Int.reduceToNat, Int.reduceLT, Int.reduceLE, Int.reduceEq, Int.reduceNeg, Int.reduceAdd, Int.reduceSub, Int.reduceMul, not_true_eq_false, not_false_eq_true, true_or, or_true, or_false, false_or, false_and, and_false, w32_lit, lc_lt, lc_gt, lc_eq, lc_ge, lc_le, ite10, true_and, and_true, reduceIte, Nat.reduceLT, cats, catA, Nat.reduceAdd, Nat.zero_le, Nat.reduceLeDiff]
    rw [if_pos (by omega)]
    simp [cntR]
  | succ k ih =>
    intro i m hi hk m0 m1
    rw [b_M_at_5]
    simp only [b_M_at_0, b_M_at_31, b_M_at_32, b_M_at_40, r_M_at, R_iconst, R_lc, R_null, R_ldc, R_gets0, R_gets1, R_objI, R_dupI, R_dupR, R_popI, R_popR, R_dup2L, R_dup2IR, R_pop2, R_i2l, R_l2i, R_lneg, R_lcmp, R_iadd, R_isub, R_imul, R_iand, R_ior, R_ixor, R_ishl, R_ishr, R_iushr, R_i2b, R_i2c, R_ladd, R_lsub, R_lmul, R_land, R_lor, R_lxor, R_lshl, R_lushr, R_goto, R_gotow, R_ifnullN, R_ifnullS, R_ifnonN, R_ifnonS, R_ifeq, R_ifne, R_iflt, R_ifge, R_ifgt, R_ifle, R_icmpeq, R_icmpne, R_icmplt, R_icmpge, R_icmpgt, R_icmple, R_tsw, R_lsw, R_alen, R_iald, R_bald, R_lald, R_aald, R_iast, R_last, R_bast, R_aast, R_new, R_newI, R_gf, R_pfI, R_pfZ, R_pfL, R_pfR, isZ_0, isZ_1, isZ_ite, gfA_0, gfA_1, gfA_2, gfA_3, opt2_s, opt2_n, R_iload0, R_iload1, R_iload2, R_iload3, R_iload4, R_iload5, R_iload6, R_iload7, R_iload8, R_lload0, R_lload1, R_lload2, R_lload3, R_lload4, R_lload5, R_lload6, R_lload7, R_lload8, R_aload0, R_aload1, R_aload2, R_aload3, R_aload4, R_aload5, R_aload6, R_aload7, R_aload8, R_istore0, R_istore1, R_istore2, R_istore3, R_istore4, R_istore5, R_istore6, R_istore7, R_istore8, R_lstore0, R_lstore1, R_lstore2, R_lstore3, R_lstore4, R_lstore5, R_lstore6, R_lstore7, R_lstore8, R_astore0, R_astore1, R_astore2, R_astore3, R_astore4, R_astore5, R_astore6, R_astore7, R_astore8, R_iinc0, R_iinc1, R_iinc2, R_iinc3, R_iinc4, R_iinc5, R_iinc6, R_iinc7, R_iinc8, KM_61, OM_61, KM_62, OM_62, KM_63, OM_63, KM_64, OM_64, KM_65, OM_65, KM_66, OM_66, KM_67, OM_67, KM_68, OM_68, KM_69, OM_69, KM_70, OM_70, KM_71, OM_71, KM_72, OM_72, KM_73, OM_73, KM_74, OM_74, KM_75, OM_75, KM_76, OM_76, KM_77, OM_77, KM_78, OM_78, KM_79, OM_79, KM_80, OM_80, KM_81, OM_81, KM_82, OM_82, KM_83, OM_83, KM_84, OM_84, KM_85, OM_85, KM_86, OM_86, KM_87, OM_87, KM_88, OM_88, KM_89, OM_89, KM_90, OM_90, KM_91, OM_91, KM_92, OM_92, PM_61_0, PM_61_9, PM_61_10, PM_61_12, PM_61_13, PM_61_15, PM_61_16, PM_61_23, PM_61_28, PM_61_31, PM_61_33, PM_61_34, PM_61_35, PM_61_36, PM_61_37, PM_61_38, PM_61_43, PM_61_44, PM_61_45, PM_61_46, PM_61_47, PM_61_48, PM_61_49, PM_61_50, PM_61_51, PM_61_52, PM_61_53, PM_61_54, PM_61_59, PM_61_60, PM_61_61, Nat.reduceDiv, Nat.reduceMod, Nat.reduceLeDiff, Nat.reduceEqDiff, Int.reduceToNat, Int.reduceLT, Int.reduceLE, Int.reduceEq, Int.reduceNeg, Int.reduceAdd, Int.reduceSub, Int.reduceMul, not_true_eq_false, not_false_eq_true, true_or, or_true, or_false, false_or, false_and, and_false, w32_lit, lc_lt, lc_gt, lc_eq, lc_ge, lc_le, ite10, true_and, and_true, reduceIte, Nat.reduceLT, cats, catA, Nat.reduceAdd, Nat.zero_le, Nat.reduceLeDiff]
    rw [if_neg (by omega)]
    simp (disch := omega) only [w32_id, inA_t, isZ_t, i2l_id, l2i_id, if_pos, if_neg, true_and, and_true]
    simp only [Int.toNat_natCast]
    have e1 : (i : Int) + 1 = ((i + 1 : Nat) : Int) := by push_cast; rfl
    rw [e1]
    simp only [cntR]
    by_cases c : rdL h 75 i ≤ u
    · have c2 : ¬ u < rdL h 75 i := by rw [i64_nlt]; exact c
      simp only [c, c2, if_true, if_false]
      rw [ih (i + 1) (m + 1) (by omega) (by push_cast; omega) (by omega) (by push_cast; omega)]
      rw [show m + 1 + cntR (fun j => rdL h 75 j) u (i + 1) k = m + (1 + cntR (fun j => rdL h 75 j) u (i + 1) k) by omega]
    · have c2 : u < rdL h 75 i := by rw [← i64_nle]; exact c
      simp only [c, c2, if_true, if_false]
      rw [ih (i + 1) (m + 0) (by omega) (by push_cast; omega) (by omega) (by push_cast; omega)]
      simp
set_option maxRecDepth 10000 in
theorem t_M_at (h0 : 0 ≤ rdI h 61 32) (h1 : rdI h 61 32 ≤ 60) : Call sysS GM L 186 [vR (some 61), vL u] h Q ↔ Q (some (vI (cntR (fun j => rdL h 75 j) u 1 (rdI h 61 32).toNat))) h := by
  simp only [e_M_at, b_M_at_0, R_iconst, R_lc, R_null, R_ldc, R_gets0, R_gets1, R_objI, R_dupI, R_dupR, R_popI, R_popR, R_dup2L, R_dup2IR, R_pop2, R_i2l, R_l2i, R_lneg, R_lcmp, R_iadd, R_isub, R_imul, R_iand, R_ior, R_ixor, R_ishl, R_ishr, R_iushr, R_i2b, R_i2c, R_ladd, R_lsub, R_lmul, R_land, R_lor, R_lxor, R_lshl, R_lushr, R_goto, R_gotow, R_ifnullN, R_ifnullS, R_ifnonN, R_ifnonS, R_ifeq, R_ifne, R_iflt, R_ifge, R_ifgt, R_ifle, R_icmpeq, R_icmpne, R_icmplt, R_icmpge, R_icmpgt, R_icmple, R_tsw, R_lsw, R_alen, R_iald, R_bald, R_lald, R_aald, R_iast, R_last, R_bast, R_aast, R_new, R_newI, R_gf, R_pfI, R_pfZ, R_pfL, R_pfR, isZ_0, isZ_1, isZ_ite, gfA_0, gfA_1, gfA_2, gfA_3, opt2_s, opt2_n, R_iload0, R_iload1, R_iload2, R_iload3, R_iload4, R_iload5, R_iload6, R_iload7, R_iload8, R_lload0, R_lload1, R_lload2, R_lload3, R_lload4, R_lload5, R_lload6, R_lload7, R_lload8, R_aload0, R_aload1, R_aload2, R_aload3, R_aload4, R_aload5, R_aload6, R_aload7, R_aload8, R_istore0, R_istore1, R_istore2, R_istore3, R_istore4, R_istore5, R_istore6, R_istore7, R_istore8, R_lstore0, R_lstore1, R_lstore2, R_lstore3, R_lstore4, R_lstore5, R_lstore6, R_lstore7, R_lstore8, R_astore0, R_astore1, R_astore2, R_astore3, R_astore4, R_astore5, R_astore6, R_astore7, R_astore8, R_iinc0, R_iinc1, R_iinc2, R_iinc3, R_iinc4, R_iinc5, R_iinc6, R_iinc7, R_iinc8, KM_61, OM_61, KM_62, OM_62, KM_63, OM_63, KM_64, OM_64, KM_65, OM_65, KM_66, OM_66, KM_67, OM_67, KM_68, OM_68, KM_69, OM_69, KM_70, OM_70, KM_71, OM_71, KM_72, OM_72, KM_73, OM_73, KM_74, OM_74, KM_75, OM_75, KM_76, OM_76, KM_77, OM_77, KM_78, OM_78, KM_79, OM_79, KM_80, OM_80, KM_81, OM_81, KM_82, OM_82, KM_83, OM_83, KM_84, OM_84, KM_85, OM_85, KM_86, OM_86, KM_87, OM_87, KM_88, OM_88, KM_89, OM_89, KM_90, OM_90, KM_91, OM_91, KM_92, OM_92, PM_61_0, PM_61_9, PM_61_10, PM_61_12, PM_61_13, PM_61_15, PM_61_16, PM_61_23, PM_61_28, PM_61_31, PM_61_33, PM_61_34, PM_61_35, PM_61_36, PM_61_37, PM_61_38, PM_61_43, PM_61_44, PM_61_45, PM_61_46, PM_61_47, PM_61_48, PM_61_49, PM_61_50, PM_61_51, PM_61_52, PM_61_53, PM_61_54, PM_61_59, PM_61_60, PM_61_61, Nat.reduceDiv, Nat.reduceMod, Nat.reduceLeDiff, Nat.reduceEqDiff, Int.reduceToNat, Int.reduceLT, Int.reduceLE, Int.reduceEq, Int.reduceNeg, Int.reduceAdd, Int.reduceSub, Int.reduceMul, not_true_eq_false, not_false_eq_true, true_or, or_true, or_false, false_or, false_and, and_false, w32_lit, lc_lt, lc_gt, lc_eq, lc_ge, lc_le, ite10, true_and, and_true, reduceIte, Nat.reduceLT, cats, catA, Nat.reduceAdd, Nat.zero_le, Nat.reduceLeDiff]
  have := l_M_at (L := L) (Q := Q) (u := u) h1 (rdI h 61 32).toNat 1 0 (by omega) (by omega) (by omega) (by omega)
  rw [Int.zero_add] at this
  exact this
set_option maxRecDepth 10000 in
theorem l_Log_versionOf (h1 : rdI h 17 7 ≤ 60) : ∀ (k v : Nat), (v : Int) + k = rdI h 17 7 → (Run sysS GX L 97 (sysS.2.1 97 2) [vR (some 17), vL u, vU, vI v] [] h Q ↔ Q (some (vI (preR (fun j => rdL h 21 j) u v k))) h) := by
  intro k
  induction k with
  | zero =>
    intro v hk
    rw [b_Log_versionOf_2]
    simp only [b_Log_versionOf_0, b_Log_versionOf_29, r_Log_versionOf, R_iconst, R_lc, R_null, R_ldc, R_gets0, R_gets1, R_objI, R_dupI, R_dupR, R_popI, R_popR, R_dup2L, R_dup2IR, R_pop2, R_i2l, R_l2i, R_lneg, R_lcmp, R_iadd, R_isub, R_imul, R_iand, R_ior, R_ixor, R_ishl, R_ishr, R_iushr, R_i2b, R_i2c, R_ladd, R_lsub, R_lmul, R_land, R_lor, R_lxor, R_lshl, R_lushr, R_goto, R_gotow, R_ifnullN, R_ifnullS, R_ifnonN, R_ifnonS, R_ifeq, R_ifne, R_iflt, R_ifge, R_ifgt, R_ifle, R_icmpeq, R_icmpne, R_icmplt, R_icmpge, R_icmpgt, R_icmple, R_tsw, R_lsw, R_alen, R_iald, R_bald, R_lald, R_aald, R_iast, R_last, R_bast, R_aast, R_new, R_newI, R_gf, R_pfI, R_pfZ, R_pfL, R_pfR, isZ_0, isZ_1, isZ_ite, gfA_0, gfA_1, gfA_2, gfA_3, opt2_s, opt2_n, R_iload0, R_iload1, R_iload2, R_iload3, R_iload4, R_iload5, R_iload6, R_iload7, R_iload8, R_lload0, R_lload1, R_lload2, R_lload3, R_lload4, R_lload5, R_lload6, R_lload7, R_lload8, R_aload0, R_aload1, R_aload2, R_aload3, R_aload4, R_aload5, R_aload6, R_aload7, R_aload8, R_istore0, R_istore1, R_istore2, R_istore3, R_istore4, R_istore5, R_istore6, R_istore7, R_istore8, R_lstore0, R_lstore1, R_lstore2, R_lstore3, R_lstore4, R_lstore5, R_lstore6, R_lstore7, R_lstore8, R_astore0, R_astore1, R_astore2, R_astore3, R_astore4, R_astore5, R_astore6, R_astore7, R_astore8, R_iinc0, R_iinc1, R_iinc2, R_iinc3, R_iinc4, R_iinc5, R_iinc6, R_iinc7, R_iinc8, KX_1, KX_2, KX_3, KX_4, OX_4, KX_5, OX_5, KX_6, OX_6, KX_7, OX_7, KX_8, OX_8, KX_9, OX_9, KX_10, OX_10, KX_11, OX_11, KX_12, OX_12, KX_13, OX_13, KX_14, OX_14, KX_15, OX_15, KX_16, OX_16, KX_17, OX_17, KX_18, OX_18, KX_19, OX_19, KX_20, OX_20, KX_21, OX_21, KX_22, OX_22, KX_23, OX_23, KX_24, OX_24, KX_25, OX_25, KX_26, OX_26, KX_27, OX_27, KX_28, OX_28, KX_29, OX_29, KX_30, OX_30, KX_31, OX_31, KX_32, OX_32, KX_33, OX_33, KX_34, OX_34, KX_35, OX_35, KX_36, OX_36, KX_37, OX_37, KX_38, OX_38, KX_39, OX_39, KX_40, OX_40, KX_41, OX_41, KX_42, OX_42, KX_43, OX_43, KX_44, OX_44, KX_45, OX_45, KX_46, OX_46, KX_47, OX_47, KX_48, OX_48, KX_49, OX_49, KX_50, OX_50, KX_51, OX_51, KX_52, OX_52, KX_53, OX_53, KX_54, OX_54, KX_55, OX_55, KX_56, OX_56, KX_57, OX_57, KX_58, OX_58, KX_59, OX_59, KX_60, OX_60, PX_2_0, PX_4_0, PX_4_1, PX_4_2, PX_4_3, PX_4_4, PX_4_5, PX_4_6, PX_5_0, PX_7_0, PX_9_0, PX_9_1, PX_10_0, PX_10_1, PX_10_2, PX_14_0, PX_14_1, PX_17_0, PX_17_1, PX_17_2, PX_17_3, PX_17_4, PX_17_5, PX_17_6, PX_25_0, PX_27_0, PX_27_1, PX_27_2, PX_27_3, PX_27_4, PX_27_5, PX_28_3, PX_28_5, PX_28_6, PX_32_3, PX_32_5, PX_32_6, PX_36_3, PX_36_5, PX_36_6, PX_40_3, PX_40_5, PX_40_6, PX_44_3, PX_44_5, PX_44_6, PX_48_3, PX_48_5, PX_48_6, PX_52_0, PX_52_1, PX_52_2, PX_52_3, PX_53_1, PX_55_1, PX_57_1, PX_59_1, Nat.reduceDiv, Nat.reduceMod, Nat.reduceLeDiff, Nat.reduceEqDiff, Int.reduceToNat, Int.reduceLT, Int.reduceLE, Int.reduceEq, Int.reduceNeg, Int.reduceAdd, Int.reduceSub, Int.reduceMul, not_true_eq_false, not_false_eq_true, true_or, or_true, or_false, false_or, false_and, and_false, w32_lit, lc_lt, lc_gt, lc_eq, lc_ge, lc_le, ite10, true_and, and_true, reduceIte, Nat.reduceLT, cats, catA, Nat.reduceAdd, Nat.zero_le, Nat.reduceLeDiff]
    rw [if_pos (by omega)]
    simp [preR]
  | succ k ih =>
    intro v hk
    rw [b_Log_versionOf_2]
    simp only [b_Log_versionOf_0, b_Log_versionOf_29, r_Log_versionOf, R_iconst, R_lc, R_null, R_ldc, R_gets0, R_gets1, R_objI, R_dupI, R_dupR, R_popI, R_popR, R_dup2L, R_dup2IR, R_pop2, R_i2l, R_l2i, R_lneg, R_lcmp, R_iadd, R_isub, R_imul, R_iand, R_ior, R_ixor, R_ishl, R_ishr, R_iushr, R_i2b, R_i2c, R_ladd, R_lsub, R_lmul, R_land, R_lor, R_lxor, R_lshl, R_lushr, R_goto, R_gotow, R_ifnullN, R_ifnullS, R_ifnonN, R_ifnonS, R_ifeq, R_ifne, R_iflt, R_ifge, R_ifgt, R_ifle, R_icmpeq, R_icmpne, R_icmplt, R_icmpge, R_icmpgt, R_icmple, R_tsw, R_lsw, R_alen, R_iald, R_bald, R_lald, R_aald, R_iast, R_last, R_bast, R_aast, R_new, R_newI, R_gf, R_pfI, R_pfZ, R_pfL, R_pfR, isZ_0, isZ_1, isZ_ite, gfA_0, gfA_1, gfA_2, gfA_3, opt2_s, opt2_n, R_iload0, R_iload1, R_iload2, R_iload3, R_iload4, R_iload5, R_iload6, R_iload7, R_iload8, R_lload0, R_lload1, R_lload2, R_lload3, R_lload4, R_lload5, R_lload6, R_lload7, R_lload8, R_aload0, R_aload1, R_aload2, R_aload3, R_aload4, R_aload5, R_aload6, R_aload7, R_aload8, R_istore0, R_istore1, R_istore2, R_istore3, R_istore4, R_istore5, R_istore6, R_istore7, R_istore8, R_lstore0, R_lstore1, R_lstore2, R_lstore3, R_lstore4, R_lstore5, R_lstore6, R_lstore7, R_lstore8, R_astore0, R_astore1, R_astore2, R_astore3, R_astore4, R_astore5, R_astore6, R_astore7, R_astore8, R_iinc0, R_iinc1, R_iinc2, R_iinc3, R_iinc4, R_iinc5, R_iinc6, R_iinc7, R_iinc8, KX_1, KX_2, KX_3, KX_4, OX_4, KX_5, OX_5, KX_6, OX_6, KX_7, OX_7, KX_8, OX_8, KX_9, OX_9, KX_10, OX_10, KX_11, OX_11, KX_12, OX_12, KX_13, OX_13, KX_14, OX_14, KX_15, OX_15, KX_16, OX_16, KX_17, OX_17, KX_18, OX_18, KX_19, OX_19, KX_20, OX_20, KX_21, OX_21, KX_22, OX_22, KX_23, OX_23, KX_24, OX_24, KX_25, OX_25, KX_26, OX_26, KX_27, OX_27, KX_28, OX_28, KX_29, OX_29, KX_30, OX_30, KX_31, OX_31, KX_32, OX_32, KX_33, OX_33, KX_34, OX_34, KX_35, OX_35, KX_36, OX_36, KX_37, OX_37, KX_38, OX_38, KX_39, OX_39, KX_40, OX_40, KX_41, OX_41, KX_42, OX_42, KX_43, OX_43, KX_44, OX_44, KX_45, OX_45, KX_46, OX_46, KX_47, OX_47, KX_48, OX_48, KX_49, OX_49, KX_50, OX_50, KX_51, OX_51, KX_52, OX_52, KX_53, OX_53, KX_54, OX_54, KX_55, OX_55, KX_56, OX_56, KX_57, OX_57, KX_58, OX_58, KX_59, OX_59, KX_60, OX_60, PX_2_0, PX_4_0, PX_4_1, PX_4_2, PX_4_3, PX_4_4, PX_4_5, PX_4_6, PX_5_0, PX_7_0, PX_9_0, PX_9_1, PX_10_0, PX_10_1, PX_10_2, PX_14_0, PX_14_1, PX_17_0, PX_17_1, PX_17_2, PX_17_3, PX_17_4, PX_17_5, PX_17_6, PX_25_0, PX_27_0, PX_27_1, PX_27_2, PX_27_3, PX_27_4, PX_27_5, PX_28_3, PX_28_5, PX_28_6, PX_32_3, PX_32_5, PX_32_6, PX_36_3, PX_36_5, PX_36_6, PX_40_3, PX_40_5, PX_40_6, PX_44_3, PX_44_5, PX_44_6, PX_48_3, PX_48_5, PX_48_6, PX_52_0, PX_52_1, PX_52_2, PX_52_3, PX_53_1, PX_55_1, PX_57_1, PX_59_1, Nat.reduceDiv, Nat.reduceMod, Nat.reduceLeDiff, Nat.reduceEqDiff, Int.reduceToNat, Int.reduceLT, Int.reduceLE, Int.reduceEq, Int.reduceNeg, Int.reduceAdd, Int.reduceSub, Int.reduceMul, not_true_eq_false, not_false_eq_true, true_or, or_true, or_false, false_or, false_and, and_false, w32_lit, lc_lt, lc_gt, lc_eq, lc_ge, lc_le, ite10, true_and, and_true, reduceIte, Nat.reduceLT, cats, catA, Nat.reduceAdd, Nat.zero_le, Nat.reduceLeDiff]
    rw [if_neg (by omega)]
    have e1 : w32 ((v : Int) + 1) = ((v + 1 : Nat) : Int) := by rw [w32_id (by omega) (by omega)]; push_cast; rfl
    rw [e1]
    simp only [Int.toNat_natCast, preR]
    rw [inA_t (by omega) (by push_cast; omega), true_and]
    by_cases c : rdL h 21 (v + 1) ≤ u
    · have c2 : ¬ u < rdL h 21 (v + 1) := by rw [i64_nlt]; exact c
      simp only [c, c2, if_true, if_false]
      exact ih (v + 1) (by push_cast; omega)
    · have c2 : u < rdL h 21 (v + 1) := by rw [← i64_nle]; exact c
      simp only [c, c2, if_true, if_false]
set_option maxRecDepth 10000 in
theorem t_Log_versionOf (h0 : 0 ≤ rdI h 17 7) (h1 : rdI h 17 7 ≤ 60) : Call sysS GX L 97 [vR (some 17), vL u] h Q ↔ Q (some (vI (preR (fun j => rdL h 21 j) u 0 (rdI h 17 7).toNat))) h := by
  simp only [e_Log_versionOf, b_Log_versionOf_0, R_iconst, R_lc, R_null, R_ldc, R_gets0, R_gets1, R_objI, R_dupI, R_dupR, R_popI, R_popR, R_dup2L, R_dup2IR, R_pop2, R_i2l, R_l2i, R_lneg, R_lcmp, R_iadd, R_isub, R_imul, R_iand, R_ior, R_ixor, R_ishl, R_ishr, R_iushr, R_i2b, R_i2c, R_ladd, R_lsub, R_lmul, R_land, R_lor, R_lxor, R_lshl, R_lushr, R_goto, R_gotow, R_ifnullN, R_ifnullS, R_ifnonN, R_ifnonS, R_ifeq, R_ifne, R_iflt, R_ifge, R_ifgt, R_ifle, R_icmpeq, R_icmpne, R_icmplt, R_icmpge, R_icmpgt, R_icmple, R_tsw, R_lsw, R_alen, R_iald, R_bald, R_lald, R_aald, R_iast, R_last, R_bast, R_aast, R_new, R_newI, R_gf, R_pfI, R_pfZ, R_pfL, R_pfR, isZ_0, isZ_1, isZ_ite, gfA_0, gfA_1, gfA_2, gfA_3, opt2_s, opt2_n, R_iload0, R_iload1, R_iload2, R_iload3, R_iload4, R_iload5, R_iload6, R_iload7, R_iload8, R_lload0, R_lload1, R_lload2, R_lload3, R_lload4, R_lload5, R_lload6, R_lload7, R_lload8, R_aload0, R_aload1, R_aload2, R_aload3, R_aload4, R_aload5, R_aload6, R_aload7, R_aload8, R_istore0, R_istore1, R_istore2, R_istore3, R_istore4, R_istore5, R_istore6, R_istore7, R_istore8, R_lstore0, R_lstore1, R_lstore2, R_lstore3, R_lstore4, R_lstore5, R_lstore6, R_lstore7, R_lstore8, R_astore0, R_astore1, R_astore2, R_astore3, R_astore4, R_astore5, R_astore6, R_astore7, R_astore8, R_iinc0, R_iinc1, R_iinc2, R_iinc3, R_iinc4, R_iinc5, R_iinc6, R_iinc7, R_iinc8, KX_1, KX_2, KX_3, KX_4, OX_4, KX_5, OX_5, KX_6, OX_6, KX_7, OX_7, KX_8, OX_8, KX_9, OX_9, KX_10, OX_10, KX_11, OX_11, KX_12, OX_12, KX_13, OX_13, KX_14, OX_14, KX_15, OX_15, KX_16, OX_16, KX_17, OX_17, KX_18, OX_18, KX_19, OX_19, KX_20, OX_20, KX_21, OX_21, KX_22, OX_22, KX_23, OX_23, KX_24, OX_24, KX_25, OX_25, KX_26, OX_26, KX_27, OX_27, KX_28, OX_28, KX_29, OX_29, KX_30, OX_30, KX_31, OX_31, KX_32, OX_32, KX_33, OX_33, KX_34, OX_34, KX_35, OX_35, KX_36, OX_36, KX_37, OX_37, KX_38, OX_38, KX_39, OX_39, KX_40, OX_40, KX_41, OX_41, KX_42, OX_42, KX_43, OX_43, KX_44, OX_44, KX_45, OX_45, KX_46, OX_46, KX_47, OX_47, KX_48, OX_48, KX_49, OX_49, KX_50, OX_50, KX_51, OX_51, KX_52, OX_52, KX_53, OX_53, KX_54, OX_54, KX_55, OX_55, KX_56, OX_56, KX_57, OX_57, KX_58, OX_58, KX_59, OX_59, KX_60, OX_60, PX_2_0, PX_4_0, PX_4_1, PX_4_2, PX_4_3, PX_4_4, PX_4_5, PX_4_6, PX_5_0, PX_7_0, PX_9_0, PX_9_1, PX_10_0, PX_10_1, PX_10_2, PX_14_0, PX_14_1, PX_17_0, PX_17_1, PX_17_2, PX_17_3, PX_17_4, PX_17_5, PX_17_6, PX_25_0, PX_27_0, PX_27_1, PX_27_2, PX_27_3, PX_27_4, PX_27_5, PX_28_3, PX_28_5, PX_28_6, PX_32_3, PX_32_5, PX_32_6, PX_36_3, PX_36_5, PX_36_6, PX_40_3, PX_40_5, PX_40_6, PX_44_3, PX_44_5, PX_44_6, PX_48_3, PX_48_5, PX_48_6, PX_52_0, PX_52_1, PX_52_2, PX_52_3, PX_53_1, PX_55_1, PX_57_1, PX_59_1, Nat.reduceDiv, Nat.reduceMod, Nat.reduceLeDiff, Nat.reduceEqDiff, Int.reduceToNat, Int.reduceLT, Int.reduceLE, Int.reduceEq, Int.reduceNeg, Int.reduceAdd, Int.reduceSub, Int.reduceMul, not_true_eq_false, not_false_eq_true, true_or, or_true, or_false, false_or, false_and, and_false, w32_lit, lc_lt, lc_gt, lc_eq, lc_ge, lc_le, ite10, true_and, and_true, reduceIte, Nat.reduceLT, cats, catA, Nat.reduceAdd, Nat.zero_le, Nat.reduceLeDiff]
  exact l_Log_versionOf (L := L) (Q := Q) (u := u) h1 (rdI h 17 7).toNat 0 (by omega)
end AT
