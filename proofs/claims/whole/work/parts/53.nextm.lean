section WB
variable {B : Nat → Int}
theorem sh8_bv (w : Int64) (c : Int) : (sh8 w c).toBitVec = w.toBitVec <<< 8 ||| (Int32.ofInt c).toInt64.toBitVec := by
  have hs := amt64s ⟨8, by decide⟩
  show w.toBitVec <<< (((Int32.ofInt 8).toInt64 &&& 63).toBitVec.smod 64) ||| (Int32.ofInt c).toInt64.toBitVec = _
  rw [BitVec.shiftLeft_eq']
  have : (((Int32.ofInt 8).toInt64 &&& 63).toBitVec.smod 64).toNat = 8 := hs
  rw [this]
theorem let_6 : ∀ c : Fin 26, (Int32.ofInt (97 + (c.val : Int))).toInt64.toBitVec.getLsbD 6 = true := by decide +kernel
theorem sh8_6 {w : Int64} {c : Int} (hc : 97 ≤ c ∧ c ≤ 122) : bL (sh8 w c) 6 = true := by
  unfold bL
  rw [sh8_bv, BitVec.getLsbD_or]
  have := let_6 ⟨(c - 97).toNat, by omega⟩
  simp only at this
  rw [show (97 : Int) + ((c - 97).toNat : Int) = c by omega] at this
  rw [this, Bool.or_true]
theorem sh8_14 {w : Int64} {c : Int} (hw : bL w 6 = true) : bL (sh8 w c) 14 = true := by
  unfold bL at *
  rw [sh8_bv, BitVec.getLsbD_or, BitVec.getLsbD_shiftLeft]
  simp [hw]
theorem wd_14 : ∀ k p w, bL w 6 = true → p < (wdE B k p w).1 → bL (wdE B k p w).2 14 = true
  | 0, p, w, _, h => by simp [wdE] at h
  | k + 1, p, w, hw, h => by
    simp only [wdE] at h ⊢
    by_cases c : 97 ≤ B p ∧ B p ≤ 122
    · rw [if_pos c] at h ⊢
      by_cases d : p + 1 < (wdE B k (p + 1) (sh8 w (B p))).1
      · exact wd_14 k (p + 1) _ (sh8_6 c) d
      · have hq := wdE_b (B := B) k (p + 1) (sh8 w (B p))
        cases k with
        | zero => exact sh8_14 hw
        | succ k =>
          simp only [wdE] at d ⊢
          by_cases c2 : 97 ≤ B (p + 1) ∧ B (p + 1) ≤ 122
          · rw [if_pos c2] at d
            have := wdE_b (B := B) k (p + 1 + 1) (sh8 (sh8 w (B p)) (B (p + 1)))
            omega
          · rw [if_neg c2]
            exact sh8_14 hw
    · rw [if_neg c] at h
      simp at h
theorem sl_14 {w : Int64} (h : isSl w) : bL w 14 = false := by
  rcases h with rfl | rfl | rfl | rfl <;> decide +kernel
/-- a word of one letter; a longer one -/
theorem wd_1 {k p : Nat} (h : (wdE B k p 0).1 = p + 1) (hc : 97 ≤ B p ∧ B p ≤ 122) : (wdE B k p 0).2 = Int64.ofInt (B p) := by
  have e : sh8 0 (B p) = Int64.ofInt (B p) := by
    rw [← i2l_id (by omega) (by omega), ← Int64.toBitVec_inj, sh8_bv]
    simp
  cases k with
  | zero => simp [wdE] at h
  | succ k =>
    simp only [wdE] at h ⊢
    rw [if_pos hc] at h ⊢
    rw [e] at h ⊢
    cases k with
    | zero => rfl
    | succ k =>
      simp only [wdE] at h ⊢
      by_cases c2 : 97 ≤ B (p + 1) ∧ B (p + 1) ≤ 122
      · rw [if_pos c2] at h
        have := wdE_b (B := B) k (p + 1 + 1) (sh8 (Int64.ofInt (B p)) (B (p + 1)))
        omega
      · rw [if_neg c2]
theorem wd_2 {k p : Nat} (h : p + 2 ≤ (wdE B k p 0).1) (hc : 97 ≤ B p ∧ B p ≤ 122) : ¬ isSl (wdE B k p 0).2 := by
  intro hs
  have h1 := sl_14 hs
  cases k with
  | zero => simp only [wdE] at h; omega
  | succ k =>
    simp only [wdE] at h h1
    rw [if_pos hc] at h h1
    rw [wd_14 k (p + 1) _ (sh8_6 hc) (by omega)] at h1
    cases h1
theorem wd_0 {k p : Nat} (hc : 97 ≤ B p ∧ B p ≤ 122) : p + 1 ≤ (wdE B (k + 1) p 0).1 := by
  simp only [wdE]
  rw [if_pos hc]
  exact (wdE_b _ _ _).1
theorem nm_0 {k p : Nat} (hc : 48 ≤ B p ∧ B p ≤ 57) : p + 1 ≤ (nmE B (k + 1) p 0).1 := by
  simp only [nmE]
  rw [if_pos hc]
  exact (nmE_b _ _ _).1
theorem Lx_ex (n p : Nat) : ∃ kd val p1 q, Lx B n p kd val p1 q := by
  by_cases c1 : n ≤ skp B (n - p) p
  · exact ⟨-1, 0, _, _, rfl, Or.inl ⟨c1, rfl, rfl⟩⟩
  · by_cases c2 : isL (B (skp B (n - p) p))
    · by_cases c3 : 8 < (wdE B (n - skp B (n - p) p) (skp B (n - p) p) 0).1 - skp B (n - p) p
      · exact ⟨-2, _, _, _, rfl, Or.inr (Or.inl ⟨by omega, c2, rfl, rfl, Or.inl ⟨c3, rfl⟩⟩)⟩
      · by_cases c4 : isLg (wdE B (n - skp B (n - p) p) (skp B (n - p) p) 0).2 ∨ isSl (wdE B (n - skp B (n - p) p) (skp B (n - p) p) 0).2
        · exact ⟨_, _, _, _, rfl, Or.inr (Or.inl ⟨by omega, c2, rfl, rfl, Or.inr (Or.inl ⟨by omega, c4, rfl⟩)⟩)⟩
        · exact ⟨_, _, _, _, rfl, Or.inr (Or.inl ⟨by omega, c2, rfl, rfl, Or.inr (Or.inr ⟨by omega, c4, rfl⟩)⟩)⟩
    · by_cases c5 : isD (B (skp B (n - p) p))
      · by_cases c3 : 9 < (nmE B (n - skp B (n - p) p) (skp B (n - p) p) 0).1 - skp B (n - p) p
        · exact ⟨-2, _, _, _, rfl, Or.inr (Or.inr (Or.inl ⟨by omega, c5, rfl, rfl, Or.inl ⟨c3, rfl⟩⟩))⟩
        · exact ⟨-4, _, _, _, rfl, Or.inr (Or.inr (Or.inl ⟨by omega, c5, rfl, rfl, Or.inr ⟨by omega, rfl⟩⟩))⟩
      · by_cases c6 : (B (skp B (n - p) p) = 60 ∨ B (skp B (n - p) p) = 62) ∧ B (skp B (n - p) p + 1) = 61
        · exact ⟨_, 0, _, _, rfl, Or.inr (Or.inr (Or.inr ⟨by omega, c2, c5, Or.inl ⟨c6.1, c6.2, rfl, rfl⟩⟩))⟩
        · by_cases c7 : isSg (B (skp B (n - p) p))
          · exact ⟨_, 0, _, _, rfl, Or.inr (Or.inr (Or.inr ⟨by omega, c2, c5, Or.inr ⟨c6, rfl, Or.inl ⟨c7, rfl⟩⟩⟩))⟩
          · exact ⟨_, 0, _, _, rfl, Or.inr (Or.inr (Or.inr ⟨by omega, c2, c5, Or.inr ⟨c6, rfl, Or.inr ⟨c7, rfl⟩⟩⟩))⟩
end WB
section NXM
variable {h : AH} {L n : Nat} {B : Nat → Int} {p pl tk : Int} {w : Int64} {Q : Option AV → AH → Prop}
set_option maxRecDepth 10000 in
theorem t_M_isLong : Call sysS GM L 130 [vR (some 61)] h Q ↔ Q (some (vI (if (rdL h 61 5 = Int64.ofInt 25209 ∨ rdL h 61 5 = Int64.ofInt 26982 ∨ rdL h 61 5 = Int64.ofInt 7304564 ∨ rdL h 61 5 = Int64.ofInt 28530 ∨ rdL h 61 5 = Int64.ofInt 6385252 ∨ rdL h 61 5 = Int64.ofInt 7237492 ∨ rdL h 61 5 = Int64.ofInt 1885954923) then 1 else 0))) h := by
  simp only [e_M_isLong, b_M_isLong_0, b_M_isLong_77, b_M_isLong_81, b_M_isLong_82, r_M_isLong, R_iconst, R_lc, R_null, R_ldc, R_gets0, R_gets1, R_objI, R_dupI, R_dupR, R_popI, R_popR, R_dup2L, R_dup2IR, R_pop2, R_i2l, R_l2i, R_lneg, R_lcmp, R_iadd, R_isub, R_imul, R_iand, R_ior, R_ixor, R_ishl, R_ishr, R_iushr, R_i2b, R_i2c, R_ladd, R_lsub, R_lmul, R_land, R_lor, R_lxor, R_lshl, R_lushr, R_goto, R_gotow, R_ifnullN, R_ifnullS, R_ifnonN, R_ifnonS, R_ifeq, R_ifne, R_iflt, R_ifge, R_ifgt, R_ifle, R_icmpeq, R_icmpne, R_icmplt, R_icmpge, R_icmpgt, R_icmple, R_tsw, R_lsw, R_alen, R_iald, R_bald, R_lald, R_aald, R_iast, R_last, R_bast, R_aast, R_new, R_newI, R_gf, R_pfI, R_pfZ, R_pfL, R_pfR, isZ_0, isZ_1, isZ_ite, gfA_0, gfA_1, gfA_2, gfA_3, opt2_s, opt2_n, R_iload0, R_iload1, R_iload2, R_iload3, R_iload4, R_iload5, R_iload6, R_iload7, R_iload8, R_lload0, R_lload1, R_lload2, R_lload3, R_lload4, R_lload5, R_lload6, R_lload7, R_lload8, R_aload0, R_aload1, R_aload2, R_aload3, R_aload4, R_aload5, R_aload6, R_aload7, R_aload8, R_istore0, R_istore1, R_istore2, R_istore3, R_istore4, R_istore5, R_istore6, R_istore7, R_istore8, R_lstore0, R_lstore1, R_lstore2, R_lstore3, R_lstore4, R_lstore5, R_lstore6, R_lstore7, R_lstore8, R_astore0, R_astore1, R_astore2, R_astore3, R_astore4, R_astore5, R_astore6, R_astore7, R_astore8, R_iinc0, R_iinc1, R_iinc2, R_iinc3, R_iinc4, R_iinc5, R_iinc6, R_iinc7, R_iinc8, KM_61, OM_61, KM_62, OM_62, KM_63, OM_63, KM_64, OM_64, KM_65, OM_65, KM_66, OM_66, KM_67, OM_67, KM_68, OM_68, KM_69, OM_69, KM_70, OM_70, KM_71, OM_71, KM_72, OM_72, KM_73, OM_73, KM_74, OM_74, KM_75, OM_75, KM_76, OM_76, KM_77, OM_77, KM_78, OM_78, KM_79, OM_79, KM_80, OM_80, KM_81, OM_81, KM_82, OM_82, KM_83, OM_83, KM_84, OM_84, KM_85, OM_85, KM_86, OM_86, KM_87, OM_87, KM_88, OM_88, KM_89, OM_89, KM_90, OM_90, KM_91, OM_91, KM_92, OM_92, PM_61_0, PM_61_9, PM_61_10, PM_61_12, PM_61_13, PM_61_15, PM_61_16, PM_61_23, PM_61_28, PM_61_31, PM_61_33, PM_61_34, PM_61_35, PM_61_36, PM_61_37, PM_61_38, PM_61_43, PM_61_44, PM_61_45, PM_61_46, PM_61_47, PM_61_48, PM_61_49, PM_61_50, PM_61_51, PM_61_52, PM_61_53, PM_61_54, PM_61_59, PM_61_60, PM_61_61, Nat.reduceDiv, Nat.reduceMod, Nat.reduceLeDiff, Nat.reduceEqDiff, Int.reduceToNat, Int.reduceLT, Int.reduceLE, Int.reduceEq, Int.reduceNeg, Int.reduceAdd, Int.reduceSub, Int.reduceMul, not_true_eq_false, not_false_eq_true, true_or, or_true, or_false, false_or, false_and, and_false, w32_lit, lc_lt, lc_gt, lc_eq, lc_ge, lc_le, ite10, true_and, and_true, reduceIte, Nat.reduceLT, cats, catA, Nat.reduceAdd, Nat.zero_le, Nat.reduceLeDiff]
  by_cases c : (rdL h 61 5 = Int64.ofInt 25209 ∨ rdL h 61 5 = Int64.ofInt 26982 ∨ rdL h 61 5 = Int64.ofInt 7304564 ∨ rdL h 61 5 = Int64.ofInt 28530 ∨ rdL h 61 5 = Int64.ofInt 6385252 ∨ rdL h 61 5 = Int64.ofInt 7237492 ∨ rdL h 61 5 = Int64.ofInt 1885954923)
  · rw [if_pos c]
    rcases c with c | c | c | c | c | c | c
    · rw [if_pos c]
    all_goals grind
  · rw [if_neg c]
    grind
set_option maxRecDepth 10000 in
theorem t_M_sign {i : Nat} (hB : BM h n B) (hi : i < n) : ((B i = 60 ∨ B i = 62) ∧ B (i + 1) = 61 → (Call sysS GM (L + 1) 131 [vR (some 61), vI (B i)] (lM h i pl tk w) Q ↔ Q none (lM h ((i + 2 : Nat) : Int) pl 4 (Int64.ofInt (256 + B i))))) ∧ (¬ ((B i = 60 ∨ B i = 62) ∧ B (i + 1) = 61) → (isSg (B i) → (Call sysS GM (L + 1) 131 [vR (some 61), vI (B i)] (lM h i pl tk w) Q ↔ Q none (lM h ((i + 1 : Nat) : Int) pl 4 (Int64.ofInt (B i))))) ∧ (¬ isSg (B i) → (Call sysS GM (L + 1) 131 [vR (some 61), vI (B i)] (lM h i pl tk w) Q ↔ Q none (lM h ((i + 1 : Nat) : Int) pl 1 (Int64.ofInt (B i)))))) := by
  have hn := hB.2.1
  have hb := hB.b hi
  have e1 : w32 ((i : Int) + 1) = ((i + 1 : Nat) : Int) := by rw [w32_id (by omega) (by omega)]; push_cast; rfl
  have e2 : w32 (((i + 1 : Nat) : Int) + 1) = ((i + 2 : Nat) : Int) := by rw [w32_id (by omega) (by omega)]; omega
  have e3 : w32 (256 + B i) = 256 + B i := w32_id (by omega) (by omega)
  have main : ∀ x : Int, (x = 0 ∨ x = 1) → (Run sysS GM (L + 1) 131 (sysS.2.1 131 105) [vR (some 61), vI (B i), vU] [vI x] (lM h ((i + 1 : Nat) : Int) pl tk w) Q ↔ if (B i = 60 ∨ B i = 62) ∧ B (i + 1) = 61 then Q none (lM h ((i + 2 : Nat) : Int) pl (if x = 0 then 1 else 4) (Int64.ofInt (256 + B i))) else Q none (lM h ((i + 1 : Nat) : Int) pl (if x = 0 then 1 else 4) (Int64.ofInt (B i)))) := by
    intro x hx
    simp only [b_M_sign_0, b_M_sign_100, b_M_sign_104, b_M_sign_105, b_M_sign_124, b_M_sign_157, b_M_sign_166, b_M_sign_167, r_M_sign, R_iconst, R_lc, R_null, R_ldc, R_gets0, R_gets1, R_objI, R_dupI, R_dupR, R_popI, R_popR, R_dup2L, R_dup2IR, R_pop2, R_i2l, R_l2i, R_lneg, R_lcmp, R_iadd, R_isub, R_imul, R_iand, R_ior, R_ixor, R_ishl, R_ishr, R_iushr, R_i2b, R_i2c, R_ladd, R_lsub, R_lmul, R_land, R_lor, R_lxor, R_lshl, R_lushr, R_goto, R_gotow, R_ifnullN, R_ifnullS, R_ifnonN, R_ifnonS, R_ifeq, R_ifne, R_iflt, R_ifge, R_ifgt, R_ifle, R_icmpeq, R_icmpne, R_icmplt, R_icmpge, R_icmpgt, R_icmple, R_tsw, R_lsw, R_alen, R_iald, R_bald, R_lald, R_aald, R_iast, R_last, R_bast, R_aast, R_new, R_newI, R_gf, R_pfI, R_pfZ, R_pfL, R_pfR, isZ_0, isZ_1, isZ_ite, gfA_0, gfA_1, gfA_2, gfA_3, opt2_s, opt2_n, R_iload0, R_iload1, R_iload2, R_iload3, R_iload4, R_iload5, R_iload6, R_iload7, R_iload8, R_lload0, R_lload1, R_lload2, R_lload3, R_lload4, R_lload5, R_lload6, R_lload7, R_lload8, R_aload0, R_aload1, R_aload2, R_aload3, R_aload4, R_aload5, R_aload6, R_aload7, R_aload8, R_istore0, R_istore1, R_istore2, R_istore3, R_istore4, R_istore5, R_istore6, R_istore7, R_istore8, R_lstore0, R_lstore1, R_lstore2, R_lstore3, R_lstore4, R_lstore5, R_lstore6, R_lstore7, R_lstore8, R_astore0, R_astore1, R_astore2, R_astore3, R_astore4, R_astore5, R_astore6, R_astore7, R_astore8, R_iinc0, R_iinc1, R_iinc2, R_iinc3, R_iinc4, R_iinc5, R_iinc6, R_iinc7, R_iinc8, KM_61, OM_61, KM_62, OM_62, KM_63, OM_63, KM_64, OM_64, KM_65, OM_65, KM_66, OM_66, KM_67, OM_67, KM_68, OM_68, KM_69, OM_69, KM_70, OM_70, KM_71, OM_71, KM_72, OM_72, KM_73, OM_73, KM_74, OM_74, KM_75, OM_75, KM_76, OM_76, KM_77, OM_77, KM_78, OM_78, KM_79, OM_79, KM_80, OM_80, KM_81, OM_81, KM_82, OM_82, KM_83, OM_83, KM_84, OM_84, KM_85, OM_85, KM_86, OM_86, KM_87, OM_87, KM_88, OM_88, KM_89, OM_89, KM_90, OM_90, KM_91, OM_91, KM_92, OM_92, PM_61_0, PM_61_9, PM_61_10, PM_61_12, PM_61_13, PM_61_15, PM_61_16, PM_61_23, PM_61_28, PM_61_31, PM_61_33, PM_61_34, PM_61_35, PM_61_36, PM_61_37, PM_61_38, PM_61_43, PM_61_44, PM_61_45, PM_61_46, PM_61_47, PM_61_48, PM_61_49, PM_61_50, PM_61_51, PM_61_52, PM_61_53, PM_61_54, PM_61_59, PM_61_60, PM_61_61, Nat.reduceDiv, Nat.reduceMod, Nat.reduceLeDiff, Nat.reduceEqDiff, Int.reduceToNat, Int.reduceLT, Int.reduceLE, Int.reduceEq, Int.reduceNeg, Int.reduceAdd, Int.reduceSub, Int.reduceMul, not_true_eq_false, not_false_eq_true, true_or, or_true, or_false, false_or, false_and, and_false, w32_lit, lc_lt, lc_gt, lc_eq, lc_ge, lc_le, ite10, true_and, and_true, reduceIte, Nat.reduceLT, cats, catA, Nat.reduceAdd, Nat.zero_le, Nat.reduceLeDiff, lM_w, lM_at, lM_tk, rdI_lM, and_self, i_M_byteAt, t_M_byteAt hB, e2, e3]
    rw [i2l_id (by omega) (by omega), i2l_id (by omega) (by omega)]
    rcases hx with rfl | rfl <;> simp only [if_true, Int.reduceEq, if_false] <;> grind
  have hS : Call sysS GM (L + 1) 131 [vR (some 61), vI (B i)] (lM h i pl tk w) Q ↔ if B i = 40 ∨ B i = 41 ∨ B i = 91 ∨ B i = 93 ∨ B i = 43 ∨ B i = 45 ∨ B i = 42 ∨ B i = 47 ∨ B i = 37 ∨ B i = 44 ∨ B i = 58 ∨ B i = 60 ∨ B i = 62 ∨ B i = 61 ∨ B i = 35 then Run sysS GM (L + 1) 131 (sysS.2.1 131 105) [vR (some 61), vI (B i), vU] [vI 1] (lM h ((i + 1 : Nat) : Int) pl tk w) Q else Run sysS GM (L + 1) 131 (sysS.2.1 131 105) [vR (some 61), vI (B i), vU] [vI 0] (lM h ((i + 1 : Nat) : Int) pl tk w) Q := by
    simp only [e_M_sign, b_M_sign_0, b_M_sign_100, b_M_sign_104, R_iconst, R_lc, R_null, R_ldc, R_gets0, R_gets1, R_objI, R_dupI, R_dupR, R_popI, R_popR, R_dup2L, R_dup2IR, R_pop2, R_i2l, R_l2i, R_lneg, R_lcmp, R_iadd, R_isub, R_imul, R_iand, R_ior, R_ixor, R_ishl, R_ishr, R_iushr, R_i2b, R_i2c, R_ladd, R_lsub, R_lmul, R_land, R_lor, R_lxor, R_lshl, R_lushr, R_goto, R_gotow, R_ifnullN, R_ifnullS, R_ifnonN, R_ifnonS, R_ifeq, R_ifne, R_iflt, R_ifge, R_ifgt, R_ifle, R_icmpeq, R_icmpne, R_icmplt, R_icmpge, R_icmpgt, R_icmple, R_tsw, R_lsw, R_alen, R_iald, R_bald, R_lald, R_aald, R_iast, R_last, R_bast, R_aast, R_new, R_newI, R_gf, R_pfI, R_pfZ, R_pfL, R_pfR, isZ_0, isZ_1, isZ_ite, gfA_0, gfA_1, gfA_2, gfA_3, opt2_s, opt2_n, R_iload0, R_iload1, R_iload2, R_iload3, R_iload4, R_iload5, R_iload6, R_iload7, R_iload8, R_lload0, R_lload1, R_lload2, R_lload3, R_lload4, R_lload5, R_lload6, R_lload7, R_lload8, R_aload0, R_aload1, R_aload2, R_aload3, R_aload4, R_aload5, R_aload6, R_aload7, R_aload8, R_istore0, R_istore1, R_istore2, R_istore3, R_istore4, R_istore5, R_istore6, R_istore7, R_istore8, R_lstore0, R_lstore1, R_lstore2, R_lstore3, R_lstore4, R_lstore5, R_lstore6, R_lstore7, R_lstore8, R_astore0, R_astore1, R_astore2, R_astore3, R_astore4, R_astore5, R_astore6, R_astore7, R_astore8, R_iinc0, R_iinc1, R_iinc2, R_iinc3, R_iinc4, R_iinc5, R_iinc6, R_iinc7, R_iinc8, KM_61, OM_61, KM_62, OM_62, KM_63, OM_63, KM_64, OM_64, KM_65, OM_65, KM_66, OM_66, KM_67, OM_67, KM_68, OM_68, KM_69, OM_69, KM_70, OM_70, KM_71, OM_71, KM_72, OM_72, KM_73, OM_73, KM_74, OM_74, KM_75, OM_75, KM_76, OM_76, KM_77, OM_77, KM_78, OM_78, KM_79, OM_79, KM_80, OM_80, KM_81, OM_81, KM_82, OM_82, KM_83, OM_83, KM_84, OM_84, KM_85, OM_85, KM_86, OM_86, KM_87, OM_87, KM_88, OM_88, KM_89, OM_89, KM_90, OM_90, KM_91, OM_91, KM_92, OM_92, PM_61_0, PM_61_9, PM_61_10, PM_61_12, PM_61_13, PM_61_15, PM_61_16, PM_61_23, PM_61_28, PM_61_31, PM_61_33, PM_61_34, PM_61_35, PM_61_36, PM_61_37, PM_61_38, PM_61_43, PM_61_44, PM_61_45, PM_61_46, PM_61_47, PM_61_48, PM_61_49, PM_61_50, PM_61_51, PM_61_52, PM_61_53, PM_61_54, PM_61_59, PM_61_60, PM_61_61, Nat.reduceDiv, Nat.reduceMod, Nat.reduceLeDiff, Nat.reduceEqDiff, Int.reduceToNat, Int.reduceLT, Int.reduceLE, Int.reduceEq, Int.reduceNeg, Int.reduceAdd, Int.reduceSub, Int.reduceMul, not_true_eq_false, not_false_eq_true, true_or, or_true, or_false, false_or, false_and, and_false, w32_lit, lc_lt, lc_gt, lc_eq, lc_ge, lc_le, ite10, true_and, and_true, reduceIte, Nat.reduceLT, cats, catA, Nat.reduceAdd, Nat.zero_le, Nat.reduceLeDiff, lM_at, rdI_lM, and_self, e1]
    by_cases c : B i = 40 ∨ B i = 41 ∨ B i = 91 ∨ B i = 93 ∨ B i = 43 ∨ B i = 45 ∨ B i = 42 ∨ B i = 47 ∨ B i = 37 ∨ B i = 44 ∨ B i = 58 ∨ B i = 60 ∨ B i = 62 ∨ B i = 61 ∨ B i = 35
    · rw [if_pos c]
      rcases c with c | c | c | c | c | c | c | c | c | c | c | c | c | c | c <;> simp only [c, if_true, if_false, Int.reduceEq, not_true_eq_false]
    · rw [if_neg c]
      simp only [not_or] at c
      obtain ⟨c1, c2, c3, c4, c5, c6, c7, c8, c9, c10, c11, c12, c13, c14, c15⟩ := c
      simp only [c1, c2, c3, c4, c5, c6, c7, c8, c9, c10, c11, c12, c13, c14, c15, if_false, not_false_eq_true, if_true]
  rw [hS, main 1 (Or.inr rfl), main 0 (Or.inl rfl)]
  refine ⟨fun c => ?_, fun c => ⟨fun d => ?_, fun d => ?_⟩⟩
  · rw [if_pos (by omega), if_pos c]; simp
  · unfold isSg at d
    rw [if_pos d, if_neg c]; simp
  · unfold isSg at d
    rw [if_neg d, if_neg c]; simp
set_option maxRecDepth 10000 in
theorem t_M_next {i p1 q : Nat} {kd : Int} {val : Int64} (hB : BM h n B) (hi : i ≤ n) (hx : Lx B n i kd val p1 q) : ∃ tk' w', TkM kd val tk' w' ∧ ∀ Q, (Call sysS GM (L + 2) 129 [vR (some 61)] (lM h i pl tk w) Q ↔ Q none (lM h q p1 tk' w')) := by
  have hn := hB.2.1
  have z : Int64.ofInt 0 = 0 := rfl
  obtain ⟨hp1, hx⟩ := hx
  have hpb := skp_b (B := B) (n - i) i
  rw [← hp1] at hpb
  have H : ∀ Q, (Call sysS GM (L + 2) 129 [vR (some 61)] (lM h i pl tk w) Q ↔ if 0 ≤ B p1 then Run sysS GM (L + 2) 129 (sysS.2.1 129 73) [vR (some 61), vI (B p1), vU] [] (lM h p1 p1 tk 0) Q else Q none (lM h p1 p1 0 0)) := by
    intro Q
    have hcall : Call sysS GM (L + 2) 129 [vR (some 61)] (lM h i pl tk w) Q ↔ Run sysS GM (L + 2) 129 (sysS.2.1 129 0) [vR (some 61), vU, vU] [] (lM h i pl tk w) Q := Iff.rfl
    rw [hcall, l_next_skip hB (n - i) i (by omega), ← hp1]
    simp only [b_M_next_39, b_M_next_324, r_M_next, R_iconst, R_lc, R_null, R_ldc, R_gets0, R_gets1, R_objI, R_dupI, R_dupR, R_popI, R_popR, R_dup2L, R_dup2IR, R_pop2, R_i2l, R_l2i, R_lneg, R_lcmp, R_iadd, R_isub, R_imul, R_iand, R_ior, R_ixor, R_ishl, R_ishr, R_iushr, R_i2b, R_i2c, R_ladd, R_lsub, R_lmul, R_land, R_lor, R_lxor, R_lshl, R_lushr, R_goto, R_gotow, R_ifnullN, R_ifnullS, R_ifnonN, R_ifnonS, R_ifeq, R_ifne, R_iflt, R_ifge, R_ifgt, R_ifle, R_icmpeq, R_icmpne, R_icmplt, R_icmpge, R_icmpgt, R_icmple, R_tsw, R_lsw, R_alen, R_iald, R_bald, R_lald, R_aald, R_iast, R_last, R_bast, R_aast, R_new, R_newI, R_gf, R_pfI, R_pfZ, R_pfL, R_pfR, isZ_0, isZ_1, isZ_ite, gfA_0, gfA_1, gfA_2, gfA_3, opt2_s, opt2_n, R_iload0, R_iload1, R_iload2, R_iload3, R_iload4, R_iload5, R_iload6, R_iload7, R_iload8, R_lload0, R_lload1, R_lload2, R_lload3, R_lload4, R_lload5, R_lload6, R_lload7, R_lload8, R_aload0, R_aload1, R_aload2, R_aload3, R_aload4, R_aload5, R_aload6, R_aload7, R_aload8, R_istore0, R_istore1, R_istore2, R_istore3, R_istore4, R_istore5, R_istore6, R_istore7, R_istore8, R_lstore0, R_lstore1, R_lstore2, R_lstore3, R_lstore4, R_lstore5, R_lstore6, R_lstore7, R_lstore8, R_astore0, R_astore1, R_astore2, R_astore3, R_astore4, R_astore5, R_astore6, R_astore7, R_astore8, R_iinc0, R_iinc1, R_iinc2, R_iinc3, R_iinc4, R_iinc5, R_iinc6, R_iinc7, R_iinc8, KM_61, OM_61, KM_62, OM_62, KM_63, OM_63, KM_64, OM_64, KM_65, OM_65, KM_66, OM_66, KM_67, OM_67, KM_68, OM_68, KM_69, OM_69, KM_70, OM_70, KM_71, OM_71, KM_72, OM_72, KM_73, OM_73, KM_74, OM_74, KM_75, OM_75, KM_76, OM_76, KM_77, OM_77, KM_78, OM_78, KM_79, OM_79, KM_80, OM_80, KM_81, OM_81, KM_82, OM_82, KM_83, OM_83, KM_84, OM_84, KM_85, OM_85, KM_86, OM_86, KM_87, OM_87, KM_88, OM_88, KM_89, OM_89, KM_90, OM_90, KM_91, OM_91, KM_92, OM_92, PM_61_0, PM_61_9, PM_61_10, PM_61_12, PM_61_13, PM_61_15, PM_61_16, PM_61_23, PM_61_28, PM_61_31, PM_61_33, PM_61_34, PM_61_35, PM_61_36, PM_61_37, PM_61_38, PM_61_43, PM_61_44, PM_61_45, PM_61_46, PM_61_47, PM_61_48, PM_61_49, PM_61_50, PM_61_51, PM_61_52, PM_61_53, PM_61_54, PM_61_59, PM_61_60, PM_61_61, Nat.reduceDiv, Nat.reduceMod, Nat.reduceLeDiff, Nat.reduceEqDiff, Int.reduceToNat, Int.reduceLT, Int.reduceLE, Int.reduceEq, Int.reduceNeg, Int.reduceAdd, Int.reduceSub, Int.reduceMul, not_true_eq_false, not_false_eq_true, true_or, or_true, or_false, false_or, false_and, and_false, w32_lit, lc_lt, lc_gt, lc_eq, lc_ge, lc_le, ite10, true_and, and_true, reduceIte, Nat.reduceLT, cats, catA, Nat.reduceAdd, Nat.zero_le, Nat.reduceLeDiff, lM_pl, lM_w, lM_tk, rdI_lM, and_self, i_M_byteAt, t_M_byteAt hB, z]
  rcases hx with ⟨c1, rfl, rfl⟩ | ⟨c1, c2, rfl, rfl, c3⟩ | ⟨c1, c2, rfl, rfl, c3⟩ | ⟨c1, c2, c3, c4⟩
  · refine ⟨0, 0, Or.inl ⟨rfl, rfl⟩, fun Q => ?_⟩
    rw [H, if_neg (by rw [hB.e c1]; omega)]
  · have hL : 97 ≤ B p1 ∧ B p1 ≤ 122 := c2
    obtain ⟨k, hk⟩ : ∃ k, n - p1 = k + 1 := ⟨n - p1 - 1, by omega⟩
    have w0 := wd_0 (B := B) (k := k) (p := p1) hL
    rw [← hk] at w0
    have wb := wdE_b (B := B) (n - p1) p1 0
    have H2 : ∀ Q, (Call sysS GM (L + 2) 129 [vR (some 61)] (lM h i pl tk w) Q ↔ Run sysS GM (L + 2) 129 (sysS.2.1 129 128) [vR (some 61), vI (B p1), vU] [] (lM h (((wdE B (n - p1) p1 0).1 : Nat) : Int) p1 tk (wdE B (n - p1) p1 0).2) Q) := by
      intro Q
      rw [H, if_pos (by omega), b_M_next_73]
      simp only [R_iconst, R_lc, R_null, R_ldc, R_gets0, R_gets1, R_objI, R_dupI, R_dupR, R_popI, R_popR, R_dup2L, R_dup2IR, R_pop2, R_i2l, R_l2i, R_lneg, R_lcmp, R_iadd, R_isub, R_imul, R_iand, R_ior, R_ixor, R_ishl, R_ishr, R_iushr, R_i2b, R_i2c, R_ladd, R_lsub, R_lmul, R_land, R_lor, R_lxor, R_lshl, R_lushr, R_goto, R_gotow, R_ifnullN, R_ifnullS, R_ifnonN, R_ifnonS, R_ifeq, R_ifne, R_iflt, R_ifge, R_ifgt, R_ifle, R_icmpeq, R_icmpne, R_icmplt, R_icmpge, R_icmpgt, R_icmple, R_tsw, R_lsw, R_alen, R_iald, R_bald, R_lald, R_aald, R_iast, R_last, R_bast, R_aast, R_new, R_newI, R_gf, R_pfI, R_pfZ, R_pfL, R_pfR, isZ_0, isZ_1, isZ_ite, gfA_0, gfA_1, gfA_2, gfA_3, opt2_s, opt2_n, R_iload0, R_iload1, R_iload2, R_iload3, R_iload4, R_iload5, R_iload6, R_iload7, R_iload8, R_lload0, R_lload1, R_lload2, R_lload3, R_lload4, R_lload5, R_lload6, R_lload7, R_lload8, R_aload0, R_aload1, R_aload2, R_aload3, R_aload4, R_aload5, R_aload6, R_aload7, R_aload8, R_istore0, R_istore1, R_istore2, R_istore3, R_istore4, R_istore5, R_istore6, R_istore7, R_istore8, R_lstore0, R_lstore1, R_lstore2, R_lstore3, R_lstore4, R_lstore5, R_lstore6, R_lstore7, R_lstore8, R_astore0, R_astore1, R_astore2, R_astore3, R_astore4, R_astore5, R_astore6, R_astore7, R_astore8, R_iinc0, R_iinc1, R_iinc2, R_iinc3, R_iinc4, R_iinc5, R_iinc6, R_iinc7, R_iinc8, KM_61, OM_61, KM_62, OM_62, KM_63, OM_63, KM_64, OM_64, KM_65, OM_65, KM_66, OM_66, KM_67, OM_67, KM_68, OM_68, KM_69, OM_69, KM_70, OM_70, KM_71, OM_71, KM_72, OM_72, KM_73, OM_73, KM_74, OM_74, KM_75, OM_75, KM_76, OM_76, KM_77, OM_77, KM_78, OM_78, KM_79, OM_79, KM_80, OM_80, KM_81, OM_81, KM_82, OM_82, KM_83, OM_83, KM_84, OM_84, KM_85, OM_85, KM_86, OM_86, KM_87, OM_87, KM_88, OM_88, KM_89, OM_89, KM_90, OM_90, KM_91, OM_91, KM_92, OM_92, PM_61_0, PM_61_9, PM_61_10, PM_61_12, PM_61_13, PM_61_15, PM_61_16, PM_61_23, PM_61_28, PM_61_31, PM_61_33, PM_61_34, PM_61_35, PM_61_36, PM_61_37, PM_61_38, PM_61_43, PM_61_44, PM_61_45, PM_61_46, PM_61_47, PM_61_48, PM_61_49, PM_61_50, PM_61_51, PM_61_52, PM_61_53, PM_61_54, PM_61_59, PM_61_60, PM_61_61, Nat.reduceDiv, Nat.reduceMod, Nat.reduceLeDiff, Nat.reduceEqDiff, Int.reduceToNat, Int.reduceLT, Int.reduceLE, Int.reduceEq, Int.reduceNeg, Int.reduceAdd, Int.reduceSub, Int.reduceMul, not_true_eq_false, not_false_eq_true, true_or, or_true, or_false, false_or, false_and, and_false, w32_lit, lc_lt, lc_gt, lc_eq, lc_ge, lc_le, ite10, true_and, and_true, reduceIte, Nat.reduceLT, cats, catA, Nat.reduceAdd, Nat.zero_le, Nat.reduceLeDiff, i_M_isLetter, t_M_isLetter, hL, not_true_eq_false, if_false]
      rw [l_next_word hB (n - p1) p1 0 (by omega)]
    generalize hq : (wdE B (n - p1) p1 0).1 = q at *
    have hd : w32 ((q : Int) - p1) = ((q - p1 : Nat) : Int) := by rw [w32_id (by omega) (by omega)]; omega
    have H3 : ∀ x : Int, ∀ Q, (Run sysS GM (L + 2) 129 (sysS.2.1 129 177) [vR (some 61), vI (B p1), vU] [vI x] (lM h q p1 tk (wdE B (n - p1) p1 0).2) Q ↔ Q none (lM h q p1 (if 8 < q - p1 then 1 else if x = 0 then 3 else 5) (wdE B (n - p1) p1 0).2)) := by
      intro x Q
      simp only [b_M_next_26, b_M_next_39, b_M_next_73, b_M_next_128, b_M_next_165, b_M_next_172, b_M_next_176, b_M_next_177, b_M_next_197, b_M_next_205, b_M_next_206, b_M_next_212, b_M_next_273, b_M_next_277, b_M_next_293, b_M_next_312, b_M_next_313, b_M_next_319, b_M_next_324, r_M_next, R_iconst, R_lc, R_null, R_ldc, R_gets0, R_gets1, R_objI, R_dupI, R_dupR, R_popI, R_popR, R_dup2L, R_dup2IR, R_pop2, R_i2l, R_l2i, R_lneg, R_lcmp, R_iadd, R_isub, R_imul, R_iand, R_ior, R_ixor, R_ishl, R_ishr, R_iushr, R_i2b, R_i2c, R_ladd, R_lsub, R_lmul, R_land, R_lor, R_lxor, R_lshl, R_lushr, R_goto, R_gotow, R_ifnullN, R_ifnullS, R_ifnonN, R_ifnonS, R_ifeq, R_ifne, R_iflt, R_ifge, R_ifgt, R_ifle, R_icmpeq, R_icmpne, R_icmplt, R_icmpge, R_icmpgt, R_icmple, R_tsw, R_lsw, R_alen, R_iald, R_bald, R_lald, R_aald, R_iast, R_last, R_bast, R_aast, R_new, R_newI, R_gf, R_pfI, R_pfZ, R_pfL, R_pfR, isZ_0, isZ_1, isZ_ite, gfA_0, gfA_1, gfA_2, gfA_3, opt2_s, opt2_n, R_iload0, R_iload1, R_iload2, R_iload3, R_iload4, R_iload5, R_iload6, R_iload7, R_iload8, R_lload0, R_lload1, R_lload2, R_lload3, R_lload4, R_lload5, R_lload6, R_lload7, R_lload8, R_aload0, R_aload1, R_aload2, R_aload3, R_aload4, R_aload5, R_aload6, R_aload7, R_aload8, R_istore0, R_istore1, R_istore2, R_istore3, R_istore4, R_istore5, R_istore6, R_istore7, R_istore8, R_lstore0, R_lstore1, R_lstore2, R_lstore3, R_lstore4, R_lstore5, R_lstore6, R_lstore7, R_lstore8, R_astore0, R_astore1, R_astore2, R_astore3, R_astore4, R_astore5, R_astore6, R_astore7, R_astore8, R_iinc0, R_iinc1, R_iinc2, R_iinc3, R_iinc4, R_iinc5, R_iinc6, R_iinc7, R_iinc8, KM_61, OM_61, KM_62, OM_62, KM_63, OM_63, KM_64, OM_64, KM_65, OM_65, KM_66, OM_66, KM_67, OM_67, KM_68, OM_68, KM_69, OM_69, KM_70, OM_70, KM_71, OM_71, KM_72, OM_72, KM_73, OM_73, KM_74, OM_74, KM_75, OM_75, KM_76, OM_76, KM_77, OM_77, KM_78, OM_78, KM_79, OM_79, KM_80, OM_80, KM_81, OM_81, KM_82, OM_82, KM_83, OM_83, KM_84, OM_84, KM_85, OM_85, KM_86, OM_86, KM_87, OM_87, KM_88, OM_88, KM_89, OM_89, KM_90, OM_90, KM_91, OM_91, KM_92, OM_92, PM_61_0, PM_61_9, PM_61_10, PM_61_12, PM_61_13, PM_61_15, PM_61_16, PM_61_23, PM_61_28, PM_61_31, PM_61_33, PM_61_34, PM_61_35, PM_61_36, PM_61_37, PM_61_38, PM_61_43, PM_61_44, PM_61_45, PM_61_46, PM_61_47, PM_61_48, PM_61_49, PM_61_50, PM_61_51, PM_61_52, PM_61_53, PM_61_54, PM_61_59, PM_61_60, PM_61_61, Nat.reduceDiv, Nat.reduceMod, Nat.reduceLeDiff, Nat.reduceEqDiff, Int.reduceToNat, Int.reduceLT, Int.reduceLE, Int.reduceEq, Int.reduceNeg, Int.reduceAdd, Int.reduceSub, Int.reduceMul, not_true_eq_false, not_false_eq_true, true_or, or_true, or_false, false_or, false_and, and_false, w32_lit, lc_lt, lc_gt, lc_eq, lc_ge, lc_le, ite10, true_and, and_true, reduceIte, Nat.reduceLT, cats, catA, Nat.reduceAdd, Nat.zero_le, Nat.reduceLeDiff, rdI_lM, and_self, hd, lM_tk]
      by_cases c : 8 < q - p1
      · rw [if_neg (by omega), if_pos c]
      · rw [if_pos (by omega), if_neg c]
        by_cases cx : x = 0
        · simp only [cx, if_true]
        · simp only [cx, if_false]
    have hval : q - p1 = 1 → (isSl (wdE B (n - p1) p1 0).2 ↔ (B p1 = 107 ∨ B p1 = 116 ∨ B p1 = 118 ∨ B p1 = 110)) := by
      intro h1
      rw [wd_1 (by omega) hL]
      unfold isSl
      simp (disch := omega) only [oL_eq]
    have hval2 : 2 ≤ q - p1 → ¬ isSl (wdE B (n - p1) p1 0).2 := fun h1 => wd_2 (by omega) hL
    have hfl : ∃ x : Int, ((isLg (wdE B (n - p1) p1 0).2 ∨ isSl (wdE B (n - p1) p1 0).2) → x = 1) ∧ (¬ (isLg (wdE B (n - p1) p1 0).2 ∨ isSl (wdE B (n - p1) p1 0).2) → x = 0) ∧ ∀ Q, (Run sysS GM (L + 2) 129 (sysS.2.1 129 128) [vR (some 61), vI (B p1), vU] [] (lM h q p1 tk (wdE B (n - p1) p1 0).2) Q ↔ Run sysS GM (L + 2) 129 (sysS.2.1 129 177) [vR (some 61), vI (B p1), vU] [vI x] (lM h q p1 tk (wdE B (n - p1) p1 0).2) Q) := by
      simp only [b_M_next_128, b_M_next_165, b_M_next_172, b_M_next_176, R_iconst, R_lc, R_null, R_ldc, R_gets0, R_gets1, R_objI, R_dupI, R_dupR, R_popI, R_popR, R_dup2L, R_dup2IR, R_pop2, R_i2l, R_l2i, R_lneg, R_lcmp, R_iadd, R_isub, R_imul, R_iand, R_ior, R_ixor, R_ishl, R_ishr, R_iushr, R_i2b, R_i2c, R_ladd, R_lsub, R_lmul, R_land, R_lor, R_lxor, R_lshl, R_lushr, R_goto, R_gotow, R_ifnullN, R_ifnullS, R_ifnonN, R_ifnonS, R_ifeq, R_ifne, R_iflt, R_ifge, R_ifgt, R_ifle, R_icmpeq, R_icmpne, R_icmplt, R_icmpge, R_icmpgt, R_icmple, R_tsw, R_lsw, R_alen, R_iald, R_bald, R_lald, R_aald, R_iast, R_last, R_bast, R_aast, R_new, R_newI, R_gf, R_pfI, R_pfZ, R_pfL, R_pfR, isZ_0, isZ_1, isZ_ite, gfA_0, gfA_1, gfA_2, gfA_3, opt2_s, opt2_n, R_iload0, R_iload1, R_iload2, R_iload3, R_iload4, R_iload5, R_iload6, R_iload7, R_iload8, R_lload0, R_lload1, R_lload2, R_lload3, R_lload4, R_lload5, R_lload6, R_lload7, R_lload8, R_aload0, R_aload1, R_aload2, R_aload3, R_aload4, R_aload5, R_aload6, R_aload7, R_aload8, R_istore0, R_istore1, R_istore2, R_istore3, R_istore4, R_istore5, R_istore6, R_istore7, R_istore8, R_lstore0, R_lstore1, R_lstore2, R_lstore3, R_lstore4, R_lstore5, R_lstore6, R_lstore7, R_lstore8, R_astore0, R_astore1, R_astore2, R_astore3, R_astore4, R_astore5, R_astore6, R_astore7, R_astore8, R_iinc0, R_iinc1, R_iinc2, R_iinc3, R_iinc4, R_iinc5, R_iinc6, R_iinc7, R_iinc8, KM_61, OM_61, KM_62, OM_62, KM_63, OM_63, KM_64, OM_64, KM_65, OM_65, KM_66, OM_66, KM_67, OM_67, KM_68, OM_68, KM_69, OM_69, KM_70, OM_70, KM_71, OM_71, KM_72, OM_72, KM_73, OM_73, KM_74, OM_74, KM_75, OM_75, KM_76, OM_76, KM_77, OM_77, KM_78, OM_78, KM_79, OM_79, KM_80, OM_80, KM_81, OM_81, KM_82, OM_82, KM_83, OM_83, KM_84, OM_84, KM_85, OM_85, KM_86, OM_86, KM_87, OM_87, KM_88, OM_88, KM_89, OM_89, KM_90, OM_90, KM_91, OM_91, KM_92, OM_92, PM_61_0, PM_61_9, PM_61_10, PM_61_12, PM_61_13, PM_61_15, PM_61_16, PM_61_23, PM_61_28, PM_61_31, PM_61_33, PM_61_34, PM_61_35, PM_61_36, PM_61_37, PM_61_38, PM_61_43, PM_61_44, PM_61_45, PM_61_46, PM_61_47, PM_61_48, PM_61_49, PM_61_50, PM_61_51, PM_61_52, PM_61_53, PM_61_54, PM_61_59, PM_61_60, PM_61_61, Nat.reduceDiv, Nat.reduceMod, Nat.reduceLeDiff, Nat.reduceEqDiff, Int.reduceToNat, Int.reduceLT, Int.reduceLE, Int.reduceEq, Int.reduceNeg, Int.reduceAdd, Int.reduceSub, Int.reduceMul, not_true_eq_false, not_false_eq_true, true_or, or_true, or_false, false_or, false_and, and_false, w32_lit, lc_lt, lc_gt, lc_eq, lc_ge, lc_le, ite10, true_and, and_true, reduceIte, Nat.reduceLT, cats, catA, Nat.reduceAdd, Nat.zero_le, Nat.reduceLeDiff, rdI_lM, and_self, hd, i_M_isLong, t_M_isLong, rdL_lM]
      generalize (wdE B (n - p1) p1 0).2 = val at *
      unfold isLg
      by_cases c1 : q - p1 = 1
      · have hv := hval c1
        by_cases c2 : B p1 = 107 ∨ B p1 = 116 ∨ B p1 = 118 ∨ B p1 = 110
        · refine ⟨1, fun _ => rfl, fun q => absurd (Or.inr (hv.mpr c2)) q, fun Q => ?_⟩
          rw [if_neg (by omega)]
          rcases c2 with c2 | c2 | c2 | c2 <;> simp only [c2, if_true, if_false, Int.reduceEq]
        · have hns : ¬ isSl val := fun q => c2 (hv.mp q)
          by_cases c3 : val = Int64.ofInt 25209 ∨ val = Int64.ofInt 26982 ∨ val = Int64.ofInt 7304564 ∨ val = Int64.ofInt 28530 ∨ val = Int64.ofInt 6385252 ∨ val = Int64.ofInt 7237492 ∨ val = Int64.ofInt 1885954923
          · refine ⟨1, fun _ => rfl, fun q => absurd (Or.inl c3) q, fun Q => ?_⟩
            rw [if_neg (by omega)]
            simp only [not_or] at c2
            simp only [c2, if_false, c3, if_true, not_true_eq_false]
          · refine ⟨0, fun q => ?_, fun _ => rfl, fun Q => ?_⟩
            · rcases q with q | q
              · exact absurd q c3
              · exact absurd q hns
            · rw [if_neg (by omega)]
              simp only [not_or] at c2
              simp only [c2, if_false, c3, not_false_eq_true, if_true]
      · have hns := hval2 (by omega)
        by_cases c3 : val = Int64.ofInt 25209 ∨ val = Int64.ofInt 26982 ∨ val = Int64.ofInt 7304564 ∨ val = Int64.ofInt 28530 ∨ val = Int64.ofInt 6385252 ∨ val = Int64.ofInt 7237492 ∨ val = Int64.ofInt 1885954923
        · refine ⟨1, fun _ => rfl, fun q => absurd (Or.inl c3) q, fun Q => ?_⟩
          rw [if_pos (by omega)]
          simp only [c3, if_false, if_true, not_true_eq_false]
        · refine ⟨0, fun q => ?_, fun _ => rfl, fun Q => ?_⟩
          · rcases q with q | q
            · exact absurd q c3
            · exact absurd q hns
          · rw [if_pos (by omega)]
            simp only [c3, not_false_eq_true, if_true]
    obtain ⟨x, hx1, hx2, hx3⟩ := hfl
    generalize (wdE B (n - p1) p1 0).2 = val at *
    refine ⟨_, val, ?_, fun Q => by rw [H2, hx3, H3]⟩
    rcases c3 with ⟨c4, rfl⟩ | ⟨c4, c5, rfl⟩ | ⟨c4, c5, rfl⟩
    · rw [if_pos c4]
      exact Or.inr (Or.inl ⟨rfl, rfl⟩)
    · rw [if_neg (by omega), hx1 c5]
      refine Or.inr (Or.inr (Or.inr (Or.inr (Or.inl ?_))))
      rcases c5 with c5 | c5
      · rcases c5 with rfl | rfl | rfl | rfl | rfl | rfl | rfl <;> refine ⟨Or.inl ?_, ?_, rfl, ?_⟩ <;> (try unfold isLg) <;> (try unfold inr) <;> decide
      · rcases c5 with rfl | rfl | rfl | rfl <;> refine ⟨Or.inr ?_, ?_, rfl, ?_⟩ <;> (try unfold isSl) <;> (try unfold inr) <;> decide
    · rw [if_neg (by omega), hx2 c5]
      exact Or.inr (Or.inr (Or.inl ⟨rfl, rfl, rfl⟩))
  · have hL : ¬ (97 ≤ B p1 ∧ B p1 ≤ 122) := by unfold isD at c2; omega
    have hD : 48 ≤ B p1 ∧ B p1 ≤ 57 := c2
    have wb := nmE_b (B := B) (n - p1) p1 0
    obtain ⟨w', a1, a2⟩ := l_next_num (L := L + 1) (tk := tk) (l1 := vI (B p1)) (l2 := vU) hB (p1 := p1) (n - p1) p1 0 0 (by omega) (Nat.le_refl _) (fun _ => rfl)
    have hd : w32 ((((nmE B (n - p1) p1 0).1 : Nat) : Int) - p1) = (((nmE B (n - p1) p1 0).1 - p1 : Nat) : Int) := by rw [w32_id (by omega) (by omega)]; omega
    refine ⟨if 9 < (nmE B (n - p1) p1 0).1 - p1 then 1 else 2, w', ?_, fun Q => ?_⟩
    · rcases c3 with ⟨c4, rfl⟩ | ⟨c4, rfl⟩
      · rw [if_pos c4]
        exact Or.inr (Or.inl ⟨rfl, rfl⟩)
      · rw [if_neg (by omega)]
        exact Or.inr (Or.inr (Or.inr (Or.inl ⟨rfl, rfl, a1 c4⟩)))
    · rw [H, if_pos (by omega), b_M_next_73]
      simp only [R_iconst, R_lc, R_null, R_ldc, R_gets0, R_gets1, R_objI, R_dupI, R_dupR, R_popI, R_popR, R_dup2L, R_dup2IR, R_pop2, R_i2l, R_l2i, R_lneg, R_lcmp, R_iadd, R_isub, R_imul, R_iand, R_ior, R_ixor, R_ishl, R_ishr, R_iushr, R_i2b, R_i2c, R_ladd, R_lsub, R_lmul, R_land, R_lor, R_lxor, R_lshl, R_lushr, R_goto, R_gotow, R_ifnullN, R_ifnullS, R_ifnonN, R_ifnonS, R_ifeq, R_ifne, R_iflt, R_ifge, R_ifgt, R_ifle, R_icmpeq, R_icmpne, R_icmplt, R_icmpge, R_icmpgt, R_icmple, R_tsw, R_lsw, R_alen, R_iald, R_bald, R_lald, R_aald, R_iast, R_last, R_bast, R_aast, R_new, R_newI, R_gf, R_pfI, R_pfZ, R_pfL, R_pfR, isZ_0, isZ_1, isZ_ite, gfA_0, gfA_1, gfA_2, gfA_3, opt2_s, opt2_n, R_iload0, R_iload1, R_iload2, R_iload3, R_iload4, R_iload5, R_iload6, R_iload7, R_iload8, R_lload0, R_lload1, R_lload2, R_lload3, R_lload4, R_lload5, R_lload6, R_lload7, R_lload8, R_aload0, R_aload1, R_aload2, R_aload3, R_aload4, R_aload5, R_aload6, R_aload7, R_aload8, R_istore0, R_istore1, R_istore2, R_istore3, R_istore4, R_istore5, R_istore6, R_istore7, R_istore8, R_lstore0, R_lstore1, R_lstore2, R_lstore3, R_lstore4, R_lstore5, R_lstore6, R_lstore7, R_lstore8, R_astore0, R_astore1, R_astore2, R_astore3, R_astore4, R_astore5, R_astore6, R_astore7, R_astore8, R_iinc0, R_iinc1, R_iinc2, R_iinc3, R_iinc4, R_iinc5, R_iinc6, R_iinc7, R_iinc8, KM_61, OM_61, KM_62, OM_62, KM_63, OM_63, KM_64, OM_64, KM_65, OM_65, KM_66, OM_66, KM_67, OM_67, KM_68, OM_68, KM_69, OM_69, KM_70, OM_70, KM_71, OM_71, KM_72, OM_72, KM_73, OM_73, KM_74, OM_74, KM_75, OM_75, KM_76, OM_76, KM_77, OM_77, KM_78, OM_78, KM_79, OM_79, KM_80, OM_80, KM_81, OM_81, KM_82, OM_82, KM_83, OM_83, KM_84, OM_84, KM_85, OM_85, KM_86, OM_86, KM_87, OM_87, KM_88, OM_88, KM_89, OM_89, KM_90, OM_90, KM_91, OM_91, KM_92, OM_92, PM_61_0, PM_61_9, PM_61_10, PM_61_12, PM_61_13, PM_61_15, PM_61_16, PM_61_23, PM_61_28, PM_61_31, PM_61_33, PM_61_34, PM_61_35, PM_61_36, PM_61_37, PM_61_38, PM_61_43, PM_61_44, PM_61_45, PM_61_46, PM_61_47, PM_61_48, PM_61_49, PM_61_50, PM_61_51, PM_61_52, PM_61_53, PM_61_54, PM_61_59, PM_61_60, PM_61_61, Nat.reduceDiv, Nat.reduceMod, Nat.reduceLeDiff, Nat.reduceEqDiff, Int.reduceToNat, Int.reduceLT, Int.reduceLE, Int.reduceEq, Int.reduceNeg, Int.reduceAdd, Int.reduceSub, Int.reduceMul, not_true_eq_false, not_false_eq_true, true_or, or_true, or_false, false_or, false_and, and_false, w32_lit, lc_lt, lc_gt, lc_eq, lc_ge, lc_le, ite10, true_and, and_true, reduceIte, Nat.reduceLT, cats, catA, Nat.reduceAdd, Nat.zero_le, Nat.reduceLeDiff, i_M_isLetter, t_M_isLetter, hL, not_false_eq_true, if_true, b_M_next_212, i_M_isDigit, t_M_isDigit, hD, not_true_eq_false, if_false]
      rw [a2]
      simp only [b_M_next_293, b_M_next_312, b_M_next_313, b_M_next_324, r_M_next, R_iconst, R_lc, R_null, R_ldc, R_gets0, R_gets1, R_objI, R_dupI, R_dupR, R_popI, R_popR, R_dup2L, R_dup2IR, R_pop2, R_i2l, R_l2i, R_lneg, R_lcmp, R_iadd, R_isub, R_imul, R_iand, R_ior, R_ixor, R_ishl, R_ishr, R_iushr, R_i2b, R_i2c, R_ladd, R_lsub, R_lmul, R_land, R_lor, R_lxor, R_lshl, R_lushr, R_goto, R_gotow, R_ifnullN, R_ifnullS, R_ifnonN, R_ifnonS, R_ifeq, R_ifne, R_iflt, R_ifge, R_ifgt, R_ifle, R_icmpeq, R_icmpne, R_icmplt, R_icmpge, R_icmpgt, R_icmple, R_tsw, R_lsw, R_alen, R_iald, R_bald, R_lald, R_aald, R_iast, R_last, R_bast, R_aast, R_new, R_newI, R_gf, R_pfI, R_pfZ, R_pfL, R_pfR, isZ_0, isZ_1, isZ_ite, gfA_0, gfA_1, gfA_2, gfA_3, opt2_s, opt2_n, R_iload0, R_iload1, R_iload2, R_iload3, R_iload4, R_iload5, R_iload6, R_iload7, R_iload8, R_lload0, R_lload1, R_lload2, R_lload3, R_lload4, R_lload5, R_lload6, R_lload7, R_lload8, R_aload0, R_aload1, R_aload2, R_aload3, R_aload4, R_aload5, R_aload6, R_aload7, R_aload8, R_istore0, R_istore1, R_istore2, R_istore3, R_istore4, R_istore5, R_istore6, R_istore7, R_istore8, R_lstore0, R_lstore1, R_lstore2, R_lstore3, R_lstore4, R_lstore5, R_lstore6, R_lstore7, R_lstore8, R_astore0, R_astore1, R_astore2, R_astore3, R_astore4, R_astore5, R_astore6, R_astore7, R_astore8, R_iinc0, R_iinc1, R_iinc2, R_iinc3, R_iinc4, R_iinc5, R_iinc6, R_iinc7, R_iinc8, KM_61, OM_61, KM_62, OM_62, KM_63, OM_63, KM_64, OM_64, KM_65, OM_65, KM_66, OM_66, KM_67, OM_67, KM_68, OM_68, KM_69, OM_69, KM_70, OM_70, KM_71, OM_71, KM_72, OM_72, KM_73, OM_73, KM_74, OM_74, KM_75, OM_75, KM_76, OM_76, KM_77, OM_77, KM_78, OM_78, KM_79, OM_79, KM_80, OM_80, KM_81, OM_81, KM_82, OM_82, KM_83, OM_83, KM_84, OM_84, KM_85, OM_85, KM_86, OM_86, KM_87, OM_87, KM_88, OM_88, KM_89, OM_89, KM_90, OM_90, KM_91, OM_91, KM_92, OM_92, PM_61_0, PM_61_9, PM_61_10, PM_61_12, PM_61_13, PM_61_15, PM_61_16, PM_61_23, PM_61_28, PM_61_31, PM_61_33, PM_61_34, PM_61_35, PM_61_36, PM_61_37, PM_61_38, PM_61_43, PM_61_44, PM_61_45, PM_61_46, PM_61_47, PM_61_48, PM_61_49, PM_61_50, PM_61_51, PM_61_52, PM_61_53, PM_61_54, PM_61_59, PM_61_60, PM_61_61, Nat.reduceDiv, Nat.reduceMod, Nat.reduceLeDiff, Nat.reduceEqDiff, Int.reduceToNat, Int.reduceLT, Int.reduceLE, Int.reduceEq, Int.reduceNeg, Int.reduceAdd, Int.reduceSub, Int.reduceMul, not_true_eq_false, not_false_eq_true, true_or, or_true, or_false, false_or, false_and, and_false, w32_lit, lc_lt, lc_gt, lc_eq, lc_ge, lc_le, ite10, true_and, and_true, reduceIte, Nat.reduceLT, cats, catA, Nat.reduceAdd, Nat.zero_le, Nat.reduceLeDiff, rdI_lM, and_self, hd, lM_tk]
      by_cases c : 9 < (nmE B (n - p1) p1 0).1 - p1
      · rw [if_neg (by omega), if_pos c]
      · rw [if_pos (by omega), if_neg c]
  · have hL : ¬ (97 ≤ B p1 ∧ B p1 ≤ 122) := c2
    have hD : ¬ (48 ≤ B p1 ∧ B p1 ≤ 57) := c3
    have hb := hB.b c1
    have H2 : ∀ Q, (Call sysS GM (L + 2) 129 [vR (some 61)] (lM h i pl tk w) Q ↔ Call sysS GM (L + 1) 131 [vR (some 61), vI (B p1)] (lM h p1 p1 tk 0) (fun r g => Run sysS GM (L + 2) 129 [.return_] [vR (some 61), vI (B p1), vU] (opt2 r []) g Q)) := by
      intro Q
      rw [H, if_pos (by omega), b_M_next_73]
      simp only [R_iconst, R_lc, R_null, R_ldc, R_gets0, R_gets1, R_objI, R_dupI, R_dupR, R_popI, R_popR, R_dup2L, R_dup2IR, R_pop2, R_i2l, R_l2i, R_lneg, R_lcmp, R_iadd, R_isub, R_imul, R_iand, R_ior, R_ixor, R_ishl, R_ishr, R_iushr, R_i2b, R_i2c, R_ladd, R_lsub, R_lmul, R_land, R_lor, R_lxor, R_lshl, R_lushr, R_goto, R_gotow, R_ifnullN, R_ifnullS, R_ifnonN, R_ifnonS, R_ifeq, R_ifne, R_iflt, R_ifge, R_ifgt, R_ifle, R_icmpeq, R_icmpne, R_icmplt, R_icmpge, R_icmpgt, R_icmple, R_tsw, R_lsw, R_alen, R_iald, R_bald, R_lald, R_aald, R_iast, R_last, R_bast, R_aast, R_new, R_newI, R_gf, R_pfI, R_pfZ, R_pfL, R_pfR, isZ_0, isZ_1, isZ_ite, gfA_0, gfA_1, gfA_2, gfA_3, opt2_s, opt2_n, R_iload0, R_iload1, R_iload2, R_iload3, R_iload4, R_iload5, R_iload6, R_iload7, R_iload8, R_lload0, R_lload1, R_lload2, R_lload3, R_lload4, R_lload5, R_lload6, R_lload7, R_lload8, R_aload0, R_aload1, R_aload2, R_aload3, R_aload4, R_aload5, R_aload6, R_aload7, R_aload8, R_istore0, R_istore1, R_istore2, R_istore3, R_istore4, R_istore5, R_istore6, R_istore7, R_istore8, R_lstore0, R_lstore1, R_lstore2, R_lstore3, R_lstore4, R_lstore5, R_lstore6, R_lstore7, R_lstore8, R_astore0, R_astore1, R_astore2, R_astore3, R_astore4, R_astore5, R_astore6, R_astore7, R_astore8, R_iinc0, R_iinc1, R_iinc2, R_iinc3, R_iinc4, R_iinc5, R_iinc6, R_iinc7, R_iinc8, KM_61, OM_61, KM_62, OM_62, KM_63, OM_63, KM_64, OM_64, KM_65, OM_65, KM_66, OM_66, KM_67, OM_67, KM_68, OM_68, KM_69, OM_69, KM_70, OM_70, KM_71, OM_71, KM_72, OM_72, KM_73, OM_73, KM_74, OM_74, KM_75, OM_75, KM_76, OM_76, KM_77, OM_77, KM_78, OM_78, KM_79, OM_79, KM_80, OM_80, KM_81, OM_81, KM_82, OM_82, KM_83, OM_83, KM_84, OM_84, KM_85, OM_85, KM_86, OM_86, KM_87, OM_87, KM_88, OM_88, KM_89, OM_89, KM_90, OM_90, KM_91, OM_91, KM_92, OM_92, PM_61_0, PM_61_9, PM_61_10, PM_61_12, PM_61_13, PM_61_15, PM_61_16, PM_61_23, PM_61_28, PM_61_31, PM_61_33, PM_61_34, PM_61_35, PM_61_36, PM_61_37, PM_61_38, PM_61_43, PM_61_44, PM_61_45, PM_61_46, PM_61_47, PM_61_48, PM_61_49, PM_61_50, PM_61_51, PM_61_52, PM_61_53, PM_61_54, PM_61_59, PM_61_60, PM_61_61, Nat.reduceDiv, Nat.reduceMod, Nat.reduceLeDiff, Nat.reduceEqDiff, Int.reduceToNat, Int.reduceLT, Int.reduceLE, Int.reduceEq, Int.reduceNeg, Int.reduceAdd, Int.reduceSub, Int.reduceMul, not_true_eq_false, not_false_eq_true, true_or, or_true, or_false, false_or, false_and, and_false, w32_lit, lc_lt, lc_gt, lc_eq, lc_ge, lc_le, ite10, true_and, and_true, reduceIte, Nat.reduceLT, cats, catA, Nat.reduceAdd, Nat.zero_le, Nat.reduceLeDiff, i_M_isLetter, t_M_isLetter, hL, not_false_eq_true, if_true, b_M_next_212, i_M_isDigit, t_M_isDigit, hD, b_M_next_319, i_M_sign, b_M_next_324]
    rcases c4 with ⟨d1, d2, rfl, rfl⟩ | ⟨d1, rfl, d2⟩
    · refine ⟨4, Int64.ofInt (256 + B p1), ?_, fun Q => ?_⟩
      · rcases d1 with d1 | d1 <;> rw [d1]
        · exact Or.inr (Or.inr (Or.inr (Or.inr (Or.inr (Or.inr (Or.inl ⟨rfl, rfl, rfl⟩))))))
        · exact Or.inr (Or.inr (Or.inr (Or.inr (Or.inr (Or.inr (Or.inr ⟨rfl, rfl, rfl⟩))))))
      · rw [H2, (t_M_sign hB c1).1 ⟨d1, d2⟩]
        simp only [R_iconst, R_lc, R_null, R_ldc, R_gets0, R_gets1, R_objI, R_dupI, R_dupR, R_popI, R_popR, R_dup2L, R_dup2IR, R_pop2, R_i2l, R_l2i, R_lneg, R_lcmp, R_iadd, R_isub, R_imul, R_iand, R_ior, R_ixor, R_ishl, R_ishr, R_iushr, R_i2b, R_i2c, R_ladd, R_lsub, R_lmul, R_land, R_lor, R_lxor, R_lshl, R_lushr, R_goto, R_gotow, R_ifnullN, R_ifnullS, R_ifnonN, R_ifnonS, R_ifeq, R_ifne, R_iflt, R_ifge, R_ifgt, R_ifle, R_icmpeq, R_icmpne, R_icmplt, R_icmpge, R_icmpgt, R_icmple, R_tsw, R_lsw, R_alen, R_iald, R_bald, R_lald, R_aald, R_iast, R_last, R_bast, R_aast, R_new, R_newI, R_gf, R_pfI, R_pfZ, R_pfL, R_pfR, isZ_0, isZ_1, isZ_ite, gfA_0, gfA_1, gfA_2, gfA_3, opt2_s, opt2_n, R_iload0, R_iload1, R_iload2, R_iload3, R_iload4, R_iload5, R_iload6, R_iload7, R_iload8, R_lload0, R_lload1, R_lload2, R_lload3, R_lload4, R_lload5, R_lload6, R_lload7, R_lload8, R_aload0, R_aload1, R_aload2, R_aload3, R_aload4, R_aload5, R_aload6, R_aload7, R_aload8, R_istore0, R_istore1, R_istore2, R_istore3, R_istore4, R_istore5, R_istore6, R_istore7, R_istore8, R_lstore0, R_lstore1, R_lstore2, R_lstore3, R_lstore4, R_lstore5, R_lstore6, R_lstore7, R_lstore8, R_astore0, R_astore1, R_astore2, R_astore3, R_astore4, R_astore5, R_astore6, R_astore7, R_astore8, R_iinc0, R_iinc1, R_iinc2, R_iinc3, R_iinc4, R_iinc5, R_iinc6, R_iinc7, R_iinc8, Nat.reduceDiv, Nat.reduceMod, Nat.reduceLeDiff, Nat.reduceEqDiff, Int.reduceToNat, Int.reduceLT, Int.reduceLE, Int.reduceEq, Int.reduceNeg, Int.reduceAdd, Int.reduceSub, Int.reduceMul, not_true_eq_false, not_false_eq_true, true_or, or_true, or_false, false_or, false_and, and_false, w32_lit, lc_lt, lc_gt, lc_eq, lc_ge, lc_le, ite10, true_and, and_true, reduceIte, Nat.reduceLT, cats, catA, Nat.reduceAdd, Nat.zero_le, Nat.reduceLeDiff, r_M_next]
    · rcases d2 with ⟨d2, rfl⟩ | ⟨d2, rfl⟩
      · refine ⟨4, Int64.ofInt (B p1), ?_, fun Q => ?_⟩
        · exact Or.inr (Or.inr (Or.inr (Or.inr (Or.inr (Or.inl ⟨d2, rfl, rfl⟩)))))
        · rw [H2, ((t_M_sign hB c1).2 d1).1 d2]
          simp only [R_iconst, R_lc, R_null, R_ldc, R_gets0, R_gets1, R_objI, R_dupI, R_dupR, R_popI, R_popR, R_dup2L, R_dup2IR, R_pop2, R_i2l, R_l2i, R_lneg, R_lcmp, R_iadd, R_isub, R_imul, R_iand, R_ior, R_ixor, R_ishl, R_ishr, R_iushr, R_i2b, R_i2c, R_ladd, R_lsub, R_lmul, R_land, R_lor, R_lxor, R_lshl, R_lushr, R_goto, R_gotow, R_ifnullN, R_ifnullS, R_ifnonN, R_ifnonS, R_ifeq, R_ifne, R_iflt, R_ifge, R_ifgt, R_ifle, R_icmpeq, R_icmpne, R_icmplt, R_icmpge, R_icmpgt, R_icmple, R_tsw, R_lsw, R_alen, R_iald, R_bald, R_lald, R_aald, R_iast, R_last, R_bast, R_aast, R_new, R_newI, R_gf, R_pfI, R_pfZ, R_pfL, R_pfR, isZ_0, isZ_1, isZ_ite, gfA_0, gfA_1, gfA_2, gfA_3, opt2_s, opt2_n, R_iload0, R_iload1, R_iload2, R_iload3, R_iload4, R_iload5, R_iload6, R_iload7, R_iload8, R_lload0, R_lload1, R_lload2, R_lload3, R_lload4, R_lload5, R_lload6, R_lload7, R_lload8, R_aload0, R_aload1, R_aload2, R_aload3, R_aload4, R_aload5, R_aload6, R_aload7, R_aload8, R_istore0, R_istore1, R_istore2, R_istore3, R_istore4, R_istore5, R_istore6, R_istore7, R_istore8, R_lstore0, R_lstore1, R_lstore2, R_lstore3, R_lstore4, R_lstore5, R_lstore6, R_lstore7, R_lstore8, R_astore0, R_astore1, R_astore2, R_astore3, R_astore4, R_astore5, R_astore6, R_astore7, R_astore8, R_iinc0, R_iinc1, R_iinc2, R_iinc3, R_iinc4, R_iinc5, R_iinc6, R_iinc7, R_iinc8, Nat.reduceDiv, Nat.reduceMod, Nat.reduceLeDiff, Nat.reduceEqDiff, Int.reduceToNat, Int.reduceLT, Int.reduceLE, Int.reduceEq, Int.reduceNeg, Int.reduceAdd, Int.reduceSub, Int.reduceMul, not_true_eq_false, not_false_eq_true, true_or, or_true, or_false, false_or, false_and, and_false, w32_lit, lc_lt, lc_gt, lc_eq, lc_ge, lc_le, ite10, true_and, and_true, reduceIte, Nat.reduceLT, cats, catA, Nat.reduceAdd, Nat.zero_le, Nat.reduceLeDiff, r_M_next]
      · refine ⟨1, Int64.ofInt (B p1), ?_, fun Q => ?_⟩
        · exact Or.inr (Or.inl ⟨rfl, rfl⟩)
        · rw [H2, ((t_M_sign hB c1).2 d1).2 d2]
          simp only [R_iconst, R_lc, R_null, R_ldc, R_gets0, R_gets1, R_objI, R_dupI, R_dupR, R_popI, R_popR, R_dup2L, R_dup2IR, R_pop2, R_i2l, R_l2i, R_lneg, R_lcmp, R_iadd, R_isub, R_imul, R_iand, R_ior, R_ixor, R_ishl, R_ishr, R_iushr, R_i2b, R_i2c, R_ladd, R_lsub, R_lmul, R_land, R_lor, R_lxor, R_lshl, R_lushr, R_goto, R_gotow, R_ifnullN, R_ifnullS, R_ifnonN, R_ifnonS, R_ifeq, R_ifne, R_iflt, R_ifge, R_ifgt, R_ifle, R_icmpeq, R_icmpne, R_icmplt, R_icmpge, R_icmpgt, R_icmple, R_tsw, R_lsw, R_alen, R_iald, R_bald, R_lald, R_aald, R_iast, R_last, R_bast, R_aast, R_new, R_newI, R_gf, R_pfI, R_pfZ, R_pfL, R_pfR, isZ_0, isZ_1, isZ_ite, gfA_0, gfA_1, gfA_2, gfA_3, opt2_s, opt2_n, R_iload0, R_iload1, R_iload2, R_iload3, R_iload4, R_iload5, R_iload6, R_iload7, R_iload8, R_lload0, R_lload1, R_lload2, R_lload3, R_lload4, R_lload5, R_lload6, R_lload7, R_lload8, R_aload0, R_aload1, R_aload2, R_aload3, R_aload4, R_aload5, R_aload6, R_aload7, R_aload8, R_istore0, R_istore1, R_istore2, R_istore3, R_istore4, R_istore5, R_istore6, R_istore7, R_istore8, R_lstore0, R_lstore1, R_lstore2, R_lstore3, R_lstore4, R_lstore5, R_lstore6, R_lstore7, R_lstore8, R_astore0, R_astore1, R_astore2, R_astore3, R_astore4, R_astore5, R_astore6, R_astore7, R_astore8, R_iinc0, R_iinc1, R_iinc2, R_iinc3, R_iinc4, R_iinc5, R_iinc6, R_iinc7, R_iinc8, Nat.reduceDiv, Nat.reduceMod, Nat.reduceLeDiff, Nat.reduceEqDiff, Int.reduceToNat, Int.reduceLT, Int.reduceLE, Int.reduceEq, Int.reduceNeg, Int.reduceAdd, Int.reduceSub, Int.reduceMul, not_true_eq_false, not_false_eq_true, true_or, or_true, or_false, false_or, false_and, and_false, w32_lit, lc_lt, lc_gt, lc_eq, lc_ge, lc_le, ite10, true_and, and_true, reduceIte, Nat.reduceLT, cats, catA, Nat.reduceAdd, Nat.zero_le, Nat.reduceLeDiff, r_M_next]
end NXM
