/-! numbers: division; the tasks' cells -/
theorem div_id {x y : Int} (h0 : 0 ≤ x) (h1 : x < 2147483648) (h2 : 0 < y) (h3 : y < 2147483648) : (Int32.ofInt x / Int32.ofInt y).toInt = x / y := by
  rw [Int32.toInt_div, to_oi ⟨by omega, h1⟩, to_oi ⟨by omega, h3⟩, Int.tdiv_eq_ediv_of_nonneg h0]
  have h4 : 0 ≤ x / y := Int.ediv_nonneg h0 (by omega)
  have h5 : x / y ≤ x := Int.ediv_le_self _ h0
  rw [Int.bmod_eq_of_le (by omega) (by omega)]
theorem tm_id {x y : Int} (x1 : -2147483648 ≤ x) (x2 : x < 2147483648) (h2 : 0 < y) (h3 : y < 2147483648) : (Int32.ofInt x - Int32.ofInt x / Int32.ofInt y * Int32.ofInt y).toInt = x.tmod y := by
  rw [Int32.toInt_sub, Int32.toInt_mul, Int32.toInt_div, to_oi ⟨x1, x2⟩, to_oi ⟨by omega, h3⟩, Int.sub_bmod_bmod]
  have e : ((x.tdiv y).bmod (2 ^ 32) * y).bmod (2 ^ 32) = (x.tdiv y * y).bmod (2 ^ 32) := Int.bmod_mul_bmod
  have e2 : (x - (x.tdiv y).bmod (2 ^ 32) * y).bmod (2 ^ 32) = (x - x.tdiv y * y).bmod (2 ^ 32) := by
    rw [← Int.sub_bmod_bmod, e, Int.sub_bmod_bmod]
  rw [e2, show x - x.tdiv y * y = x.tmod y by rw [Int.tmod_def, Int.mul_comm]]
  have a1 := Int.lt_tmod_of_pos x h2
  have a2 := Int.tmod_lt_of_pos x h2
  rw [Int.bmod_eq_of_le (by omega) (by omega)]
theorem rem_id {x y : Int} (h0 : 0 ≤ x) (h1 : x < 2147483648) (h2 : 0 < y) (h3 : y < 2147483648) : (Int32.ofInt x - Int32.ofInt x / Int32.ofInt y * Int32.ofInt y).toInt = x % y := by
  rw [tm_id (by omega) h1 h2 h3, Int.tmod_eq_emod_of_nonneg h0]
theorem xor_neg {x y : Int} (hx : inr x) (h2 : 0 ≤ y) (h3 : y < 2147483648) : ((Int32.ofInt x ^^^ Int32.ofInt y).toInt < 0) = (x < 0) := by
  have e : ∀ z : Int32, (z.toInt < 0) = (z.toBitVec.msb = true) := by
    intro z
    have h1 : z.toInt = z.toBitVec.toInt := rfl
    rw [BitVec.msb_eq_toInt, h1, decide_eq_true_eq]
  have hy : (Int32.ofInt y).toBitVec.msb = false := by
    have := e (Int32.ofInt y)
    rw [to_oi ⟨by omega, h3⟩] at this
    cases hm : (Int32.ofInt y).toBitVec.msb with
    | false => rfl
    | true => rw [hm] at this; simp at this; omega
  have h4 := e (Int32.ofInt x)
  rw [to_oi hx] at h4
  rw [e, h4, Int32.toBitVec_xor, BitVec.msb_xor, hy, Bool.xor_false]
set_option maxRecDepth 10000 in
theorem t_floorModI {G : GB} {L : Nat} {h : AH} {Q : Option AV → AH → Prop} {x : Int} (h0 : -100 ≤ x) (h1 : x < 100) : Call sysS G L 212 [vI x, vI 40] h Q ↔ Q (some (vI (x % 40))) h := by
  simp only [e_Math_floorMod_II, b_Math_floorMod_II_0, b_Math_floorMod_II_18, r_Math_floorMod_II, R_iconst, R_lc, R_null, R_ldc, R_gets0, R_gets1, R_objI, R_dupI, R_dupR, R_popI, R_popR, R_dup2L, R_dup2IR, R_pop2, R_i2l, R_l2i, R_lneg, R_lcmp, R_iadd, R_isub, R_imul, R_iand, R_ior, R_ixor, R_ishl, R_ishr, R_iushr, R_i2b, R_i2c, R_ladd, R_lsub, R_lmul, R_land, R_lor, R_lxor, R_lshl, R_lushr, R_goto, R_gotow, R_ifnullN, R_ifnullS, R_ifnonN, R_ifnonS, R_ifeq, R_ifne, R_iflt, R_ifge, R_ifgt, R_ifle, R_icmpeq, R_icmpne, R_icmplt, R_icmpge, R_icmpgt, R_icmple, R_tsw, R_lsw, R_alen, R_iald, R_bald, R_lald, R_aald, R_iast, R_last, R_bast, R_aast, R_new, R_newI, R_gf, R_pfI, R_pfZ, R_pfL, R_pfR, isZ_0, isZ_1, isZ_ite, gfA_0, gfA_1, gfA_2, gfA_3, opt2_s, opt2_n, R_iload0, R_iload1, R_iload2, R_iload3, R_iload4, R_iload5, R_iload6, R_iload7, R_iload8, R_lload0, R_lload1, R_lload2, R_lload3, R_lload4, R_lload5, R_lload6, R_lload7, R_lload8, R_aload0, R_aload1, R_aload2, R_aload3, R_aload4, R_aload5, R_aload6, R_aload7, R_aload8, R_istore0, R_istore1, R_istore2, R_istore3, R_istore4, R_istore5, R_istore6, R_istore7, R_istore8, R_lstore0, R_lstore1, R_lstore2, R_lstore3, R_lstore4, R_lstore5, R_lstore6, R_lstore7, R_lstore8, R_astore0, R_astore1, R_astore2, R_astore3, R_astore4, R_astore5, R_astore6, R_astore7, R_astore8, R_iinc0, R_iinc1, R_iinc2, R_iinc3, R_iinc4, R_iinc5, R_iinc6, R_iinc7, R_iinc8, Nat.reduceDiv, Nat.reduceMod, Nat.reduceLeDiff, Nat.reduceEqDiff, Int.reduceToNat, Int.reduceLT, Int.reduceLE, Int.reduceEq, Int.reduceNeg, Int.reduceAdd, Int.reduceSub, Int.reduceMul, not_true_eq_false, not_false_eq_true, true_or, or_true, or_false, false_or, false_and, and_false, w32_lit, lc_lt, lc_gt, lc_eq, lc_ge, lc_le, ite10, true_and, and_true, reduceIte, Nat.reduceLT, cats, catA, Nat.reduceAdd, Nat.zero_le, Nat.reduceLeDiff]
  rw [R_irem (by decide)]
  simp only [b_Math_floorMod_II_0, b_Math_floorMod_II_18, r_Math_floorMod_II, R_iconst, R_lc, R_null, R_ldc, R_gets0, R_gets1, R_objI, R_dupI, R_dupR, R_popI, R_popR, R_dup2L, R_dup2IR, R_pop2, R_i2l, R_l2i, R_lneg, R_lcmp, R_iadd, R_isub, R_imul, R_iand, R_ior, R_ixor, R_ishl, R_ishr, R_iushr, R_i2b, R_i2c, R_ladd, R_lsub, R_lmul, R_land, R_lor, R_lxor, R_lshl, R_lushr, R_goto, R_gotow, R_ifnullN, R_ifnullS, R_ifnonN, R_ifnonS, R_ifeq, R_ifne, R_iflt, R_ifge, R_ifgt, R_ifle, R_icmpeq, R_icmpne, R_icmplt, R_icmpge, R_icmpgt, R_icmple, R_tsw, R_lsw, R_alen, R_iald, R_bald, R_lald, R_aald, R_iast, R_last, R_bast, R_aast, R_new, R_newI, R_gf, R_pfI, R_pfZ, R_pfL, R_pfR, isZ_0, isZ_1, isZ_ite, gfA_0, gfA_1, gfA_2, gfA_3, opt2_s, opt2_n, R_iload0, R_iload1, R_iload2, R_iload3, R_iload4, R_iload5, R_iload6, R_iload7, R_iload8, R_lload0, R_lload1, R_lload2, R_lload3, R_lload4, R_lload5, R_lload6, R_lload7, R_lload8, R_aload0, R_aload1, R_aload2, R_aload3, R_aload4, R_aload5, R_aload6, R_aload7, R_aload8, R_istore0, R_istore1, R_istore2, R_istore3, R_istore4, R_istore5, R_istore6, R_istore7, R_istore8, R_lstore0, R_lstore1, R_lstore2, R_lstore3, R_lstore4, R_lstore5, R_lstore6, R_lstore7, R_lstore8, R_astore0, R_astore1, R_astore2, R_astore3, R_astore4, R_astore5, R_astore6, R_astore7, R_astore8, R_iinc0, R_iinc1, R_iinc2, R_iinc3, R_iinc4, R_iinc5, R_iinc6, R_iinc7, R_iinc8, Nat.reduceDiv, Nat.reduceMod, Nat.reduceLeDiff, Nat.reduceEqDiff, Int.reduceToNat, Int.reduceLT, Int.reduceLE, Int.reduceEq, Int.reduceNeg, Int.reduceAdd, Int.reduceSub, Int.reduceMul, not_true_eq_false, not_false_eq_true, true_or, or_true, or_false, false_or, false_and, and_false, w32_lit, lc_lt, lc_gt, lc_eq, lc_ge, lc_le, ite10, true_and, and_true, reduceIte, Nat.reduceLT, cats, catA, Nat.reduceAdd, Nat.zero_le, Nat.reduceLeDiff]
  rw [tm_id (by omega) (by omega) (by omega) (by omega)]
  have a1 := Int.lt_tmod_of_pos x (show (0 : Int) < 40 by omega)
  have a2 := Int.tmod_lt_of_pos x (show (0 : Int) < 40 by omega)
  have a3 : x.tmod 40 = if 0 ≤ x ∨ x % 40 = 0 then x % 40 else x % 40 - 40 := by
    rw [Int.tmod_eq_emod]
    by_cases hx : 0 ≤ x
    · simp [hx]
    · by_cases hd : x % 40 = 0
      · have : (40 : Int) ∣ x := Int.dvd_of_emod_eq_zero hd
        simp [hx, this]
        intro q; exact absurd hd q
      · have : ¬ (40 : Int) ∣ x := fun q => hd (Int.emod_eq_zero_of_dvd q)
        simp [hx, this, hd]
  have hs := xor_neg (x := x) (y := 40) ⟨by omega, by omega⟩ (by omega) (by omega)
  by_cases c1 : x < 0
  · have c3 : ¬ 0 ≤ (Int32.ofInt x ^^^ Int32.ofInt 40).toInt := by
      rw [← hs] at c1
      omega
    by_cases c2 : x.tmod 40 = 0
    · simp only [c3, c2, if_false, if_true]
      have : x % 40 = 0 := by
        rw [a3] at c2
        split at c2 <;> omega
      rw [this]
    · simp only [c3, c2, if_false]
      rw [w32_id (by omega) (by omega)]
      have : x.tmod 40 + 40 = x % 40 := by
        rw [a3] at c2 ⊢
        split at c2
        · rename_i q
          rcases q with q | q
          · omega
          · exact absurd q c2
        · rename_i q
          rw [if_neg q]; omega
      rw [this]
  · have c3 : 0 ≤ (Int32.ofInt x ^^^ Int32.ofInt 40).toInt := by
      rw [← hs] at c1
      omega
    simp only [c3, if_true]
    rw [a3, if_pos (Or.inl (by omega))]
section TK
variable {h : AH} {x : Nat}
theorem six (hx : x < 6) : x = 0 ∨ x = 1 ∨ x = 2 ∨ x = 3 ∨ x = 4 ∨ x = 5 := by omega
theorem PT (hx : x < 6) : rdR GX h 27 x = some (28 + 4 * x) := by rcases six hx with rfl | rfl | rfl | rfl | rfl | rfl <;> rfl
theorem KT (hx : x < 6) : knd GX h (28 + 4 * x) = (9, 12) := by rcases six hx with rfl | rfl | rfl | rfl | rfl | rfl <;> rfl
theorem OT (hx : x < 6) : GX.2.2 (28 + 4 * x) = true := by rcases six hx with rfl | rfl | rfl | rfl | rfl | rfl <;> rfl
theorem PTw (hx : x < 6) : rdR GX h (28 + 4 * x) 3 = some (29 + 4 * x) := by rcases six hx with rfl | rfl | rfl | rfl | rfl | rfl <;> rfl
theorem PTs (hx : x < 6) : rdR GX h (28 + 4 * x) 5 = some (30 + 4 * x) := by rcases six hx with rfl | rfl | rfl | rfl | rfl | rfl <;> rfl
theorem PTr (hx : x < 6) : rdR GX h (28 + 4 * x) 6 = some (31 + 4 * x) := by rcases six hx with rfl | rfl | rfl | rfl | rfl | rfl <;> rfl
theorem KTw (hx : x < 6) : knd GX h (29 + 4 * x) = (32, 6) := by rcases six hx with rfl | rfl | rfl | rfl | rfl | rfl <;> rfl
theorem KTs (hx : x < 6) : knd GX h (30 + 4 * x) = (21, 40) := by rcases six hx with rfl | rfl | rfl | rfl | rfl | rfl <;> rfl
theorem KTr (hx : x < 6) : knd GX h (31 + 4 * x) = (20, 40) := by rcases six hx with rfl | rfl | rfl | rfl | rfl | rfl <;> rfl
theorem OTw (hx : x < 6) : GX.2.2 (29 + 4 * x) = true := by rcases six hx with rfl | rfl | rfl | rfl | rfl | rfl <;> rfl
theorem OTs (hx : x < 6) : GX.2.2 (30 + 4 * x) = true := by rcases six hx with rfl | rfl | rfl | rfl | rfl | rfl <;> rfl
theorem OTr (hx : x < 6) : GX.2.2 (31 + 4 * x) = true := by rcases six hx with rfl | rfl | rfl | rfl | rfl | rfl <;> rfl
theorem FTw (hx : x < 6) (k : Nat) : GX.1 (29 + 4 * x) k = none := by rcases six hx with rfl | rfl | rfl | rfl | rfl | rfl <;> rfl
theorem four4 (hx : x < 4) : x = 0 ∨ x = 1 ∨ x = 2 ∨ x = 3 := by omega
theorem PK (hx : x < 4) : rdR GX h 52 x = some (53 + 2 * x) := by rcases four4 hx with rfl | rfl | rfl | rfl <;> rfl
theorem KK (hx : x < 4) : knd GX h (53 + 2 * x) = (10, 2) := by rcases four4 hx with rfl | rfl | rfl | rfl <;> rfl
theorem OK (hx : x < 4) : GX.2.2 (53 + 2 * x) = true := by rcases four4 hx with rfl | rfl | rfl | rfl <;> rfl
theorem PKo (hx : x < 4) : rdR GX h (53 + 2 * x) 1 = some (54 + 2 * x) := by rcases four4 hx with rfl | rfl | rfl | rfl <;> rfl
theorem KKo (hx : x < 4) : knd GX h (54 + 2 * x) = (21, 6) := by rcases four4 hx with rfl | rfl | rfl | rfl <;> rfl
theorem OKo (hx : x < 4) : GX.2.2 (54 + 2 * x) = true := by rcases four4 hx with rfl | rfl | rfl | rfl <;> rfl
end TK
set_option maxRecDepth 10000 in
theorem t_X_taskOf {L : Nat} {h : AH} {Q : Option AV → AH → Prop} {n : Int} (h0 : 1 ≤ rdI h 4 7) (h1 : rdI h 4 7 ≤ 6) : Call sysS GX L 27 [vR (some 4), vI n] h Q ↔ if 0 ≤ n ∧ n < rdI h 4 7 then Q (some (vR (some (28 + 4 * n.toNat)))) h else Q (some (vR none)) h := by
  simp only [e_X_taskOf, b_X_taskOf_0, b_X_taskOf_12, b_X_taskOf_16, b_X_taskOf_22, r_X_taskOf, R_iconst, R_lc, R_null, R_ldc, R_gets0, R_gets1, R_objI, R_dupI, R_dupR, R_popI, R_popR, R_dup2L, R_dup2IR, R_pop2, R_i2l, R_l2i, R_lneg, R_lcmp, R_iadd, R_isub, R_imul, R_iand, R_ior, R_ixor, R_ishl, R_ishr, R_iushr, R_i2b, R_i2c, R_ladd, R_lsub, R_lmul, R_land, R_lor, R_lxor, R_lshl, R_lushr, R_goto, R_gotow, R_ifnullN, R_ifnullS, R_ifnonN, R_ifnonS, R_ifeq, R_ifne, R_iflt, R_ifge, R_ifgt, R_ifle, R_icmpeq, R_icmpne, R_icmplt, R_icmpge, R_icmpgt, R_icmple, R_tsw, R_lsw, R_alen, R_iald, R_bald, R_lald, R_aald, R_iast, R_last, R_bast, R_aast, R_new, R_newI, R_gf, R_pfI, R_pfZ, R_pfL, R_pfR, isZ_0, isZ_1, isZ_ite, gfA_0, gfA_1, gfA_2, gfA_3, opt2_s, opt2_n, R_iload0, R_iload1, R_iload2, R_iload3, R_iload4, R_iload5, R_iload6, R_iload7, R_iload8, R_lload0, R_lload1, R_lload2, R_lload3, R_lload4, R_lload5, R_lload6, R_lload7, R_lload8, R_aload0, R_aload1, R_aload2, R_aload3, R_aload4, R_aload5, R_aload6, R_aload7, R_aload8, R_istore0, R_istore1, R_istore2, R_istore3, R_istore4, R_istore5, R_istore6, R_istore7, R_istore8, R_lstore0, R_lstore1, R_lstore2, R_lstore3, R_lstore4, R_lstore5, R_lstore6, R_lstore7, R_lstore8, R_astore0, R_astore1, R_astore2, R_astore3, R_astore4, R_astore5, R_astore6, R_astore7, R_astore8, R_iinc0, R_iinc1, R_iinc2, R_iinc3, R_iinc4, R_iinc5, R_iinc6, R_iinc7, R_iinc8, KX_1, KX_2, KX_3, KX_4, OX_4, KX_5, OX_5, KX_6, OX_6, KX_7, OX_7, KX_8, OX_8, KX_9, OX_9, KX_10, OX_10, KX_11, OX_11, KX_12, OX_12, KX_13, OX_13, KX_14, OX_14, KX_15, OX_15, KX_16, OX_16, KX_17, OX_17, KX_18, OX_18, KX_19, OX_19, KX_20, OX_20, KX_21, OX_21, KX_22, OX_22, KX_23, OX_23, KX_24, OX_24, KX_25, OX_25, KX_26, OX_26, KX_27, OX_27, KX_28, OX_28, KX_29, OX_29, KX_30, OX_30, KX_31, OX_31, KX_32, OX_32, KX_33, OX_33, KX_34, OX_34, KX_35, OX_35, KX_36, OX_36, KX_37, OX_37, KX_38, OX_38, KX_39, OX_39, KX_40, OX_40, KX_41, OX_41, KX_42, OX_42, KX_43, OX_43, KX_44, OX_44, KX_45, OX_45, KX_46, OX_46, KX_47, OX_47, KX_48, OX_48, KX_49, OX_49, KX_50, OX_50, KX_51, OX_51, KX_52, OX_52, KX_53, OX_53, KX_54, OX_54, KX_55, OX_55, KX_56, OX_56, KX_57, OX_57, KX_58, OX_58, KX_59, OX_59, KX_60, OX_60, PX_2_0, PX_4_0, PX_4_1, PX_4_2, PX_4_3, PX_4_4, PX_4_5, PX_4_6, PX_5_0, PX_7_0, PX_9_0, PX_9_1, PX_10_0, PX_10_1, PX_10_2, PX_14_0, PX_14_1, PX_17_0, PX_17_1, PX_17_2, PX_17_3, PX_17_4, PX_17_5, PX_17_6, PX_25_0, PX_27_0, PX_27_1, PX_27_2, PX_27_3, PX_27_4, PX_27_5, PX_28_3, PX_28_5, PX_28_6, PX_32_3, PX_32_5, PX_32_6, PX_36_3, PX_36_5, PX_36_6, PX_40_3, PX_40_5, PX_40_6, PX_44_3, PX_44_5, PX_44_6, PX_48_3, PX_48_5, PX_48_6, PX_52_0, PX_52_1, PX_52_2, PX_52_3, PX_53_1, PX_55_1, PX_57_1, PX_59_1, Nat.reduceDiv, Nat.reduceMod, Nat.reduceLeDiff, Nat.reduceEqDiff, Int.reduceToNat, Int.reduceLT, Int.reduceLE, Int.reduceEq, Int.reduceNeg, Int.reduceAdd, Int.reduceSub, Int.reduceMul, not_true_eq_false, not_false_eq_true, true_or, or_true, or_false, false_or, false_and, and_false, w32_lit, lc_lt, lc_gt, lc_eq, lc_ge, lc_le, ite10, true_and, and_true, reduceIte, Nat.reduceLT, cats, catA, Nat.reduceAdd, Nat.zero_le, Nat.reduceLeDiff]
  by_cases c : 0 ≤ n ∧ n < rdI h 4 7
  · rw [if_pos c, if_neg (by omega), if_pos c.2, PT (by omega)]
    simp (disch := omega) only [w32_id, inA_t, isZ_t, i2l_id, l2i_id, if_pos, if_neg, true_and, and_true]
  · rw [if_neg c]
    grind
