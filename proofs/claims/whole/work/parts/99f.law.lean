/-! the law, case by case -/
section LW
variable {n c : Nat} {xs : Nat → Int32} {h : AH} {Q : Option AV → AH → Prop}
theorem w7 (hc : 8 * c ≤ 5000) : w32 (((8 * c : Nat) : Int) + 1) = ((8 * c + 1 : Nat) : Int) ∧ w32 (((8 * c : Nat) : Int) + 2) = ((8 * c + 2 : Nat) : Int) ∧ w32 (((8 * c : Nat) : Int) + 3) = ((8 * c + 3 : Nat) : Int) ∧ w32 (((8 * c : Nat) : Int) + 4) = ((8 * c + 4 : Nat) : Int) ∧ w32 (((8 * c : Nat) : Int) + 5) = ((8 * c + 5 : Nat) : Int) ∧ w32 (((8 * c : Nat) : Int) + 6) = ((8 * c + 6 : Nat) : Int) ∧ w32 (((8 * c : Nat) : Int) + 7) = ((8 * c + 7 : Nat) : Int) ∧ w32 (((8 * c : Nat) : Int) + 8) = ((8 * c + 8 : Nat) : Int) := by
  refine ⟨?_, ?_, ?_, ?_, ?_, ?_, ?_, ?_⟩ <;> (rw [w32_id (by omega) (by omega)]; push_cast; rfl)
set_option maxRecDepth 10000 in
theorem law_c0 (hn : n ≤ 4096) (h8 : 8 * c + 8 ≤ n) (hI : LI n xs c h) (nx : ∀ g, LI n xs (c + 1) g → Run sysS G0 1000 199 (sysS.2.1 199 1480) [vR (some 0), vR (some 4), vR (some 61), vI ((8 * c : Nat) : Int)] [] g Q) : Run sysS G0 1000 199 (sysS.2.1 199 152) [vR (some 0), vR (some 4), vR (some 61), vI ((8 * c : Nat) : Int)] [] h Q := by
  have k0 : knd G0 h 0 = (20, n) := hI.2.2.2.2.2
  have i5 := hI.2.2.2.2.1
  have k4 := hI.1.kd (a := 4) rfl
  obtain ⟨w1, w2, w3, w4, w5, w6, w7, -⟩ := w7 (c := c) (by omega)
  obtain ⟨r, gx, g, o, C, D, s0, q0, A1, I1⟩ := law_step (kx := 1) (km := 123) (ax := [vR (some 4), vI (xs (8 * c + 1)).toInt, vI (xs (8 * c + 2)).toInt, vI (xs (8 * c + 3)).toInt, vI (xs (8 * c + 4)).toInt, vI (xs (8 * c + 5)).toInt]) (am := [vR (some 61), vI (xs (8 * c + 1)).toInt, vI (xs (8 * c + 2)).toInt, vI (xs (8 * c + 3)).toInt, vI (xs (8 * c + 4)).toInt, vI (xs (8 * c + 5)).toInt]) hI (fun hx hm R => Lk.le (by omega) (l_feed R))
  obtain ⟨x, rfl⟩ : ∃ x, r = vI x := by obtain ⟨x, z⟩ := o.1 rfl; exact ⟨x, Option.some.inj z⟩
  have k0' : knd G0 gx 0 = (20, n) := q0
  have k61 := A1.kd (a := 61) rfl
  simp only [b_law_law_152, R_aload0, R_aload1, R_aload2, R_iload3, R_iconst, R_iadd, R_iald, R_i2l, R_lc, R_lshl, R_land, R_lor, R_lcmp, R_ifeq, R_icmpeq, R_goto, R_gotow, opt2_s, Int.reduceToNat, Int.toNat_natCast, k0, w1, w2, w3, w4, w5, w6, w7, i5, k4, i_X_feed, Nat.reduceDiv, Nat.reduceMod, Nat.reduceLeDiff, Nat.reduceEqDiff, Int.reduceToNat, Int.reduceLT, Int.reduceLE, Int.reduceEq, Int.reduceNeg, Int.reduceAdd, Int.reduceSub, Int.reduceMul, not_true_eq_false, not_false_eq_true, true_or, or_true, or_false, false_or, false_and, and_false, w32_lit, lc_lt, lc_gt, lc_eq, lc_ge, lc_le, ite10, true_and, and_true, reduceIte, Nat.reduceLT, cats, catA, Nat.reduceAdd, Nat.zero_le, Nat.reduceLeDiff]
  simp (disch := omega) only [inA_t, true_and]
  refine C _ ?_
  simp only [b_law_law_152, R_aload0, R_aload1, R_aload2, R_iload3, R_iconst, R_iadd, R_iald, R_i2l, R_lc, R_lshl, R_land, R_lor, R_lcmp, R_ifeq, R_icmpeq, R_goto, R_gotow, opt2_s, Int.reduceToNat, Int.toNat_natCast, k0', w1, w2, w3, w4, w5, w6, w7, s0, k61, i_M_feed, Nat.reduceDiv, Nat.reduceMod, Nat.reduceLeDiff, Nat.reduceEqDiff, Int.reduceToNat, Int.reduceLT, Int.reduceLE, Int.reduceEq, Int.reduceNeg, Int.reduceAdd, Int.reduceSub, Int.reduceMul, not_true_eq_false, not_false_eq_true, true_or, or_true, or_false, false_or, false_and, and_false, w32_lit, lc_lt, lc_gt, lc_eq, lc_ge, lc_le, ite10, true_and, and_true, reduceIte, Nat.reduceLT, cats, catA, Nat.reduceAdd, Nat.zero_le, Nat.reduceLeDiff]
  simp (disch := omega) only [inA_t, true_and]
  refine D _ ?_
  simp only [R_aload0, R_aload1, R_aload2, R_iload3, R_iconst, R_iadd, R_iald, R_i2l, R_lc, R_lshl, R_land, R_lor, R_lcmp, R_ifeq, R_icmpeq, R_goto, R_gotow, opt2_s, Int.reduceToNat, Int.toNat_natCast, eq_self, Nat.reduceDiv, Nat.reduceMod, Nat.reduceLeDiff, Nat.reduceEqDiff, Int.reduceToNat, Int.reduceLT, Int.reduceLE, Int.reduceEq, Int.reduceNeg, Int.reduceAdd, Int.reduceSub, Int.reduceMul, not_true_eq_false, not_false_eq_true, true_or, or_true, or_false, false_or, false_and, and_false, w32_lit, lc_lt, lc_gt, lc_eq, lc_ge, lc_le, ite10, true_and, and_true, reduceIte, Nat.reduceLT, cats, catA, Nat.reduceAdd, Nat.zero_le, Nat.reduceLeDiff]
  exact nx g I1
set_option maxRecDepth 10000 in
theorem law_c1 (hn : n ≤ 4096) (h8 : 8 * c + 8 ≤ n) (hI : LI n xs c h) (nx : ∀ g, LI n xs (c + 1) g → Run sysS G0 1000 199 (sysS.2.1 199 1480) [vR (some 0), vR (some 4), vR (some 61), vI ((8 * c : Nat) : Int)] [] g Q) : Run sysS G0 1000 199 (sysS.2.1 199 215) [vR (some 0), vR (some 4), vR (some 61), vI ((8 * c : Nat) : Int)] [] h Q := by
  have k0 : knd G0 h 0 = (20, n) := hI.2.2.2.2.2
  have i5 := hI.2.2.2.2.1
  have k4 := hI.1.kd (a := 4) rfl
  obtain ⟨w1, w2, w3, w4, w5, w6, w7, -⟩ := w7 (c := c) (by omega)
  obtain ⟨r, gx, g, o, C, D, s0, q0, A1, I1⟩ := law_step (kx := 2) (km := 125) (ax := [vR (some 4), vI (xs (8 * c + 1)).toInt]) (am := [vR (some 61), vI (xs (8 * c + 1)).toInt]) hI (fun hx hm R => Lk.le (by omega) (l_keep (inr_to _) R))
  obtain ⟨x, rfl⟩ : ∃ x, r = vI x := by obtain ⟨x, z⟩ := o.1 rfl; exact ⟨x, Option.some.inj z⟩
  have k0' : knd G0 gx 0 = (20, n) := q0
  have k61 := A1.kd (a := 61) rfl
  simp only [b_law_law_215, R_aload0, R_aload1, R_aload2, R_iload3, R_iconst, R_iadd, R_iald, R_i2l, R_lc, R_lshl, R_land, R_lor, R_lcmp, R_ifeq, R_icmpeq, R_goto, R_gotow, opt2_s, Int.reduceToNat, Int.toNat_natCast, k0, w1, w2, w3, w4, w5, w6, w7, i5, k4, i_X_keep, Nat.reduceDiv, Nat.reduceMod, Nat.reduceLeDiff, Nat.reduceEqDiff, Int.reduceToNat, Int.reduceLT, Int.reduceLE, Int.reduceEq, Int.reduceNeg, Int.reduceAdd, Int.reduceSub, Int.reduceMul, not_true_eq_false, not_false_eq_true, true_or, or_true, or_false, false_or, false_and, and_false, w32_lit, lc_lt, lc_gt, lc_eq, lc_ge, lc_le, ite10, true_and, and_true, reduceIte, Nat.reduceLT, cats, catA, Nat.reduceAdd, Nat.zero_le, Nat.reduceLeDiff]
  simp (disch := omega) only [inA_t, true_and]
  refine C _ ?_
  simp only [b_law_law_215, R_aload0, R_aload1, R_aload2, R_iload3, R_iconst, R_iadd, R_iald, R_i2l, R_lc, R_lshl, R_land, R_lor, R_lcmp, R_ifeq, R_icmpeq, R_goto, R_gotow, opt2_s, Int.reduceToNat, Int.toNat_natCast, k0', w1, w2, w3, w4, w5, w6, w7, s0, k61, i_M_keep, Nat.reduceDiv, Nat.reduceMod, Nat.reduceLeDiff, Nat.reduceEqDiff, Int.reduceToNat, Int.reduceLT, Int.reduceLE, Int.reduceEq, Int.reduceNeg, Int.reduceAdd, Int.reduceSub, Int.reduceMul, not_true_eq_false, not_false_eq_true, true_or, or_true, or_false, false_or, false_and, and_false, w32_lit, lc_lt, lc_gt, lc_eq, lc_ge, lc_le, ite10, true_and, and_true, reduceIte, Nat.reduceLT, cats, catA, Nat.reduceAdd, Nat.zero_le, Nat.reduceLeDiff]
  simp (disch := omega) only [inA_t, true_and]
  refine D _ ?_
  simp only [R_aload0, R_aload1, R_aload2, R_iload3, R_iconst, R_iadd, R_iald, R_i2l, R_lc, R_lshl, R_land, R_lor, R_lcmp, R_ifeq, R_icmpeq, R_goto, R_gotow, opt2_s, Int.reduceToNat, Int.toNat_natCast, eq_self, Nat.reduceDiv, Nat.reduceMod, Nat.reduceLeDiff, Nat.reduceEqDiff, Int.reduceToNat, Int.reduceLT, Int.reduceLE, Int.reduceEq, Int.reduceNeg, Int.reduceAdd, Int.reduceSub, Int.reduceMul, not_true_eq_false, not_false_eq_true, true_or, or_true, or_false, false_or, false_and, and_false, w32_lit, lc_lt, lc_gt, lc_eq, lc_ge, lc_le, ite10, true_and, and_true, reduceIte, Nat.reduceLT, cats, catA, Nat.reduceAdd, Nat.zero_le, Nat.reduceLeDiff]
  exact nx g I1
set_option maxRecDepth 10000 in
theorem law_c2 (hn : n ≤ 4096) (h8 : 8 * c + 8 ≤ n) (hI : LI n xs c h) (nx : ∀ g, LI n xs (c + 1) g → Run sysS G0 1000 199 (sysS.2.1 199 1480) [vR (some 0), vR (some 4), vR (some 61), vI ((8 * c : Nat) : Int)] [] g Q) : Run sysS G0 1000 199 (sysS.2.1 199 238) [vR (some 0), vR (some 4), vR (some 61), vI ((8 * c : Nat) : Int)] [] h Q := by
  have k0 : knd G0 h 0 = (20, n) := hI.2.2.2.2.2
  have i5 := hI.2.2.2.2.1
  have k4 := hI.1.kd (a := 4) rfl
  obtain ⟨w1, w2, w3, w4, w5, w6, w7, -⟩ := w7 (c := c) (by omega)
  obtain ⟨r, gx, g, o, C, D, s0, q0, A1, I1⟩ := law_step (kx := 3) (km := 164) (ax := [vR (some 4), vL (jJ (xs (8 * c + 1)).toInt (xs (8 * c + 2)).toInt)]) (am := [vR (some 61), vL (jJ (xs (8 * c + 1)).toInt (xs (8 * c + 2)).toInt)]) hI (fun hx hm R => Lk.le (by omega) (l_rule R))
  obtain ⟨x, rfl⟩ : ∃ x, r = vI x := by obtain ⟨x, z⟩ := o.1 rfl; exact ⟨x, Option.some.inj z⟩
  have k0' : knd G0 gx 0 = (20, n) := q0
  have k61 := A1.kd (a := 61) rfl
  simp only [b_law_law_238, R_aload0, R_aload1, R_aload2, R_iload3, R_iconst, R_iadd, R_iald, R_i2l, R_lc, R_lshl, R_land, R_lor, R_lcmp, R_ifeq, R_icmpeq, R_goto, R_gotow, opt2_s, Int.reduceToNat, Int.toNat_natCast, k0, w1, w2, w3, w4, w5, w6, w7, i5, k4, i_X_rule, Nat.reduceDiv, Nat.reduceMod, Nat.reduceLeDiff, Nat.reduceEqDiff, Int.reduceToNat, Int.reduceLT, Int.reduceLE, Int.reduceEq, Int.reduceNeg, Int.reduceAdd, Int.reduceSub, Int.reduceMul, not_true_eq_false, not_false_eq_true, true_or, or_true, or_false, false_or, false_and, and_false, w32_lit, lc_lt, lc_gt, lc_eq, lc_ge, lc_le, ite10, true_and, and_true, reduceIte, Nat.reduceLT, cats, catA, Nat.reduceAdd, Nat.zero_le, Nat.reduceLeDiff]
  simp (disch := omega) only [inA_t, true_and]
  refine C _ ?_
  simp only [b_law_law_238, R_aload0, R_aload1, R_aload2, R_iload3, R_iconst, R_iadd, R_iald, R_i2l, R_lc, R_lshl, R_land, R_lor, R_lcmp, R_ifeq, R_icmpeq, R_goto, R_gotow, opt2_s, Int.reduceToNat, Int.toNat_natCast, k0', w1, w2, w3, w4, w5, w6, w7, s0, k61, i_M_rule, Nat.reduceDiv, Nat.reduceMod, Nat.reduceLeDiff, Nat.reduceEqDiff, Int.reduceToNat, Int.reduceLT, Int.reduceLE, Int.reduceEq, Int.reduceNeg, Int.reduceAdd, Int.reduceSub, Int.reduceMul, not_true_eq_false, not_false_eq_true, true_or, or_true, or_false, false_or, false_and, and_false, w32_lit, lc_lt, lc_gt, lc_eq, lc_ge, lc_le, ite10, true_and, and_true, reduceIte, Nat.reduceLT, cats, catA, Nat.reduceAdd, Nat.zero_le, Nat.reduceLeDiff]
  simp (disch := omega) only [inA_t, true_and]
  refine D _ ?_
  simp only [R_aload0, R_aload1, R_aload2, R_iload3, R_iconst, R_iadd, R_iald, R_i2l, R_lc, R_lshl, R_land, R_lor, R_lcmp, R_ifeq, R_icmpeq, R_goto, R_gotow, opt2_s, Int.reduceToNat, Int.toNat_natCast, eq_self, Nat.reduceDiv, Nat.reduceMod, Nat.reduceLeDiff, Nat.reduceEqDiff, Int.reduceToNat, Int.reduceLT, Int.reduceLE, Int.reduceEq, Int.reduceNeg, Int.reduceAdd, Int.reduceSub, Int.reduceMul, not_true_eq_false, not_false_eq_true, true_or, or_true, or_false, false_or, false_and, and_false, w32_lit, lc_lt, lc_gt, lc_eq, lc_ge, lc_le, ite10, true_and, and_true, reduceIte, Nat.reduceLT, cats, catA, Nat.reduceAdd, Nat.zero_le, Nat.reduceLeDiff]
  exact nx g I1
set_option maxRecDepth 10000 in
theorem law_c3 (hn : n ≤ 4096) (h8 : 8 * c + 8 ≤ n) (hI : LI n xs c h) (nx : ∀ g, LI n xs (c + 1) g → Run sysS G0 1000 199 (sysS.2.1 199 1480) [vR (some 0), vR (some 4), vR (some 61), vI ((8 * c : Nat) : Int)] [] g Q) : Run sysS G0 1000 199 (sysS.2.1 199 291) [vR (some 0), vR (some 4), vR (some 61), vI ((8 * c : Nat) : Int)] [] h Q := by
  have k0 : knd G0 h 0 = (20, n) := hI.2.2.2.2.2
  have i5 := hI.2.2.2.2.1
  have k4 := hI.1.kd (a := 4) rfl
  obtain ⟨w1, w2, w3, w4, w5, w6, w7, -⟩ := w7 (c := c) (by omega)
  obtain ⟨r, gx, g, o, C, D, s0, q0, A1, I1⟩ := law_step (kx := 4) (km := 165) (ax := [vR (some 4)]) (am := [vR (some 61)]) hI (fun hx hm R => Lk.le (by omega) (l_fault R))
  obtain ⟨x, rfl⟩ : ∃ x, r = vI x := by obtain ⟨x, z⟩ := o.1 rfl; exact ⟨x, Option.some.inj z⟩
  have k0' : knd G0 gx 0 = (20, n) := q0
  have k61 := A1.kd (a := 61) rfl
  simp only [b_law_law_291, R_aload0, R_aload1, R_aload2, R_iload3, R_iconst, R_iadd, R_iald, R_i2l, R_lc, R_lshl, R_land, R_lor, R_lcmp, R_ifeq, R_icmpeq, R_goto, R_gotow, opt2_s, Int.reduceToNat, Int.toNat_natCast, k0, w1, w2, w3, w4, w5, w6, w7, i5, k4, i_X_fault, Nat.reduceDiv, Nat.reduceMod, Nat.reduceLeDiff, Nat.reduceEqDiff, Int.reduceToNat, Int.reduceLT, Int.reduceLE, Int.reduceEq, Int.reduceNeg, Int.reduceAdd, Int.reduceSub, Int.reduceMul, not_true_eq_false, not_false_eq_true, true_or, or_true, or_false, false_or, false_and, and_false, w32_lit, lc_lt, lc_gt, lc_eq, lc_ge, lc_le, ite10, true_and, and_true, reduceIte, Nat.reduceLT, cats, catA, Nat.reduceAdd, Nat.zero_le, Nat.reduceLeDiff]
  refine C _ ?_
  simp only [b_law_law_291, R_aload0, R_aload1, R_aload2, R_iload3, R_iconst, R_iadd, R_iald, R_i2l, R_lc, R_lshl, R_land, R_lor, R_lcmp, R_ifeq, R_icmpeq, R_goto, R_gotow, opt2_s, Int.reduceToNat, Int.toNat_natCast, k0', w1, w2, w3, w4, w5, w6, w7, s0, k61, i_M_fault_0, Nat.reduceDiv, Nat.reduceMod, Nat.reduceLeDiff, Nat.reduceEqDiff, Int.reduceToNat, Int.reduceLT, Int.reduceLE, Int.reduceEq, Int.reduceNeg, Int.reduceAdd, Int.reduceSub, Int.reduceMul, not_true_eq_false, not_false_eq_true, true_or, or_true, or_false, false_or, false_and, and_false, w32_lit, lc_lt, lc_gt, lc_eq, lc_ge, lc_le, ite10, true_and, and_true, reduceIte, Nat.reduceLT, cats, catA, Nat.reduceAdd, Nat.zero_le, Nat.reduceLeDiff]
  refine D _ ?_
  simp only [R_aload0, R_aload1, R_aload2, R_iload3, R_iconst, R_iadd, R_iald, R_i2l, R_lc, R_lshl, R_land, R_lor, R_lcmp, R_ifeq, R_icmpeq, R_goto, R_gotow, opt2_s, Int.reduceToNat, Int.toNat_natCast, eq_self, Nat.reduceDiv, Nat.reduceMod, Nat.reduceLeDiff, Nat.reduceEqDiff, Int.reduceToNat, Int.reduceLT, Int.reduceLE, Int.reduceEq, Int.reduceNeg, Int.reduceAdd, Int.reduceSub, Int.reduceMul, not_true_eq_false, not_false_eq_true, true_or, or_true, or_false, false_or, false_and, and_false, w32_lit, lc_lt, lc_gt, lc_eq, lc_ge, lc_le, ite10, true_and, and_true, reduceIte, Nat.reduceLT, cats, catA, Nat.reduceAdd, Nat.zero_le, Nat.reduceLeDiff]
  exact nx g I1
set_option maxRecDepth 10000 in
theorem law_c4 (hn : n ≤ 4096) (h8 : 8 * c + 8 ≤ n) (hI : LI n xs c h) (nx : ∀ g, LI n xs (c + 1) g → Run sysS G0 1000 199 (sysS.2.1 199 1480) [vR (some 0), vR (some 4), vR (some 61), vI ((8 * c : Nat) : Int)] [] g Q) : Run sysS G0 1000 199 (sysS.2.1 199 304) [vR (some 0), vR (some 4), vR (some 61), vI ((8 * c : Nat) : Int)] [] h Q := by
  have k0 : knd G0 h 0 = (20, n) := hI.2.2.2.2.2
  have i5 := hI.2.2.2.2.1
  have k4 := hI.1.kd (a := 4) rfl
  obtain ⟨w1, w2, w3, w4, w5, w6, w7, -⟩ := w7 (c := c) (by omega)
  obtain ⟨r, gx, g, o, C, D, s0, q0, A1, I1⟩ := law_step (kx := 5) (km := 167) (ax := [vR (some 4), vI (xs (8 * c + 1)).toInt, vL (jJ (xs (8 * c + 2)).toInt (xs (8 * c + 3)).toInt)]) (am := [vR (some 61), vI (xs (8 * c + 1)).toInt, vL (jJ (xs (8 * c + 2)).toInt (xs (8 * c + 3)).toInt)]) hI (fun hx hm R => Lk.le (by omega) (l_drop (inr_to _) R))
  obtain ⟨x, rfl⟩ : ∃ x, r = vI x := by obtain ⟨x, z⟩ := o.1 rfl; exact ⟨x, Option.some.inj z⟩
  have k0' : knd G0 gx 0 = (20, n) := q0
  have k61 := A1.kd (a := 61) rfl
  simp only [b_law_law_304, R_aload0, R_aload1, R_aload2, R_iload3, R_iconst, R_iadd, R_iald, R_i2l, R_lc, R_lshl, R_land, R_lor, R_lcmp, R_ifeq, R_icmpeq, R_goto, R_gotow, opt2_s, Int.reduceToNat, Int.toNat_natCast, k0, w1, w2, w3, w4, w5, w6, w7, i5, k4, i_X_drop, Nat.reduceDiv, Nat.reduceMod, Nat.reduceLeDiff, Nat.reduceEqDiff, Int.reduceToNat, Int.reduceLT, Int.reduceLE, Int.reduceEq, Int.reduceNeg, Int.reduceAdd, Int.reduceSub, Int.reduceMul, not_true_eq_false, not_false_eq_true, true_or, or_true, or_false, false_or, false_and, and_false, w32_lit, lc_lt, lc_gt, lc_eq, lc_ge, lc_le, ite10, true_and, and_true, reduceIte, Nat.reduceLT, cats, catA, Nat.reduceAdd, Nat.zero_le, Nat.reduceLeDiff]
  simp (disch := omega) only [inA_t, true_and]
  refine C _ ?_
  simp only [b_law_law_304, R_aload0, R_aload1, R_aload2, R_iload3, R_iconst, R_iadd, R_iald, R_i2l, R_lc, R_lshl, R_land, R_lor, R_lcmp, R_ifeq, R_icmpeq, R_goto, R_gotow, opt2_s, Int.reduceToNat, Int.toNat_natCast, k0', w1, w2, w3, w4, w5, w6, w7, s0, k61, i_M_drop, Nat.reduceDiv, Nat.reduceMod, Nat.reduceLeDiff, Nat.reduceEqDiff, Int.reduceToNat, Int.reduceLT, Int.reduceLE, Int.reduceEq, Int.reduceNeg, Int.reduceAdd, Int.reduceSub, Int.reduceMul, not_true_eq_false, not_false_eq_true, true_or, or_true, or_false, false_or, false_and, and_false, w32_lit, lc_lt, lc_gt, lc_eq, lc_ge, lc_le, ite10, true_and, and_true, reduceIte, Nat.reduceLT, cats, catA, Nat.reduceAdd, Nat.zero_le, Nat.reduceLeDiff]
  simp (disch := omega) only [inA_t, true_and]
  refine D _ ?_
  simp only [R_aload0, R_aload1, R_aload2, R_iload3, R_iconst, R_iadd, R_iald, R_i2l, R_lc, R_lshl, R_land, R_lor, R_lcmp, R_ifeq, R_icmpeq, R_goto, R_gotow, opt2_s, Int.reduceToNat, Int.toNat_natCast, eq_self, Nat.reduceDiv, Nat.reduceMod, Nat.reduceLeDiff, Nat.reduceEqDiff, Int.reduceToNat, Int.reduceLT, Int.reduceLE, Int.reduceEq, Int.reduceNeg, Int.reduceAdd, Int.reduceSub, Int.reduceMul, not_true_eq_false, not_false_eq_true, true_or, or_true, or_false, false_or, false_and, and_false, w32_lit, lc_lt, lc_gt, lc_eq, lc_ge, lc_le, ite10, true_and, and_true, reduceIte, Nat.reduceLT, cats, catA, Nat.reduceAdd, Nat.zero_le, Nat.reduceLeDiff]
  exact nx g I1
set_option maxRecDepth 10000 in
theorem law_c5 (hn : n ≤ 4096) (h8 : 8 * c + 8 ≤ n) (hI : LI n xs c h) (nx : ∀ g, LI n xs (c + 1) g → Run sysS G0 1000 199 (sysS.2.1 199 1480) [vR (some 0), vR (some 4), vR (some 61), vI ((8 * c : Nat) : Int)] [] g Q) : Run sysS G0 1000 199 (sysS.2.1 199 367) [vR (some 0), vR (some 4), vR (some 61), vI ((8 * c : Nat) : Int)] [] h Q := by
  have k0 : knd G0 h 0 = (20, n) := hI.2.2.2.2.2
  have i5 := hI.2.2.2.2.1
  have k4 := hI.1.kd (a := 4) rfl
  obtain ⟨w1, w2, w3, w4, w5, w6, w7, -⟩ := w7 (c := c) (by omega)
  by_cases hz : (xs (8 * c + 1)).toInt = 0
  · obtain ⟨r, gx, g, o, C, D, s0, q0, A1, I1⟩ := law_step (kx := 6) (km := 168) (ax := [vR (some 4), vI 0]) (am := [vR (some 61), vI 0]) hI (fun hx hm R => Lk.le (by omega) (l_alike rfl R))
    obtain ⟨x, rfl⟩ : ∃ x, r = vI x := by obtain ⟨x, z⟩ := o.1 rfl; exact ⟨x, Option.some.inj z⟩
    have k0' : knd G0 gx 0 = (20, n) := q0
    have k61 := A1.kd (a := 61) rfl
    simp only [b_law_law_367, b_law_law_380, b_law_law_381, b_law_law_397, b_law_law_398, R_aload0, R_aload1, R_aload2, R_iload3, R_iconst, R_iadd, R_iald, R_i2l, R_lc, R_lshl, R_land, R_lor, R_lcmp, R_ifeq, R_icmpeq, R_goto, R_gotow, opt2_s, Int.reduceToNat, Int.toNat_natCast, k0, w1, w2, w3, w4, w5, w6, w7, i5, k4, i_X_alike, Nat.reduceDiv, Nat.reduceMod, Nat.reduceLeDiff, Nat.reduceEqDiff, Int.reduceToNat, Int.reduceLT, Int.reduceLE, Int.reduceEq, Int.reduceNeg, Int.reduceAdd, Int.reduceSub, Int.reduceMul, not_true_eq_false, not_false_eq_true, true_or, or_true, or_false, false_or, false_and, and_false, w32_lit, lc_lt, lc_gt, lc_eq, lc_ge, lc_le, ite10, true_and, and_true, reduceIte, Nat.reduceLT, cats, catA, Nat.reduceAdd, Nat.zero_le, Nat.reduceLeDiff, hz]
    simp (disch := omega) only [inA_t, true_and]
    refine C _ ?_
    simp only [b_law_law_367, b_law_law_380, b_law_law_381, b_law_law_397, b_law_law_398, R_aload0, R_aload1, R_aload2, R_iload3, R_iconst, R_iadd, R_iald, R_i2l, R_lc, R_lshl, R_land, R_lor, R_lcmp, R_ifeq, R_icmpeq, R_goto, R_gotow, opt2_s, Int.reduceToNat, Int.toNat_natCast, k0', w1, w2, w3, w4, w5, w6, w7, s0, k61, i_M_alike, Nat.reduceDiv, Nat.reduceMod, Nat.reduceLeDiff, Nat.reduceEqDiff, Int.reduceToNat, Int.reduceLT, Int.reduceLE, Int.reduceEq, Int.reduceNeg, Int.reduceAdd, Int.reduceSub, Int.reduceMul, not_true_eq_false, not_false_eq_true, true_or, or_true, or_false, false_or, false_and, and_false, w32_lit, lc_lt, lc_gt, lc_eq, lc_ge, lc_le, ite10, true_and, and_true, reduceIte, Nat.reduceLT, cats, catA, Nat.reduceAdd, Nat.zero_le, Nat.reduceLeDiff, hz]
    simp (disch := omega) only [inA_t, true_and]
    refine D _ ?_
    simp only [R_aload0, R_aload1, R_aload2, R_iload3, R_iconst, R_iadd, R_iald, R_i2l, R_lc, R_lshl, R_land, R_lor, R_lcmp, R_ifeq, R_icmpeq, R_goto, R_gotow, opt2_s, Int.reduceToNat, Int.toNat_natCast, eq_self, Nat.reduceDiv, Nat.reduceMod, Nat.reduceLeDiff, Nat.reduceEqDiff, Int.reduceToNat, Int.reduceLT, Int.reduceLE, Int.reduceEq, Int.reduceNeg, Int.reduceAdd, Int.reduceSub, Int.reduceMul, not_true_eq_false, not_false_eq_true, true_or, or_true, or_false, false_or, false_and, and_false, w32_lit, lc_lt, lc_gt, lc_eq, lc_ge, lc_le, ite10, true_and, and_true, reduceIte, Nat.reduceLT, cats, catA, Nat.reduceAdd, Nat.zero_le, Nat.reduceLeDiff]
    exact nx g I1
  · obtain ⟨r, gx, g, o, C, D, s0, q0, A1, I1⟩ := law_step (kx := 6) (km := 168) (ax := [vR (some 4), vI 1]) (am := [vR (some 61), vI 1]) hI (fun hx hm R => Lk.le (by omega) (l_alike rfl R))
    obtain ⟨x, rfl⟩ : ∃ x, r = vI x := by obtain ⟨x, z⟩ := o.1 rfl; exact ⟨x, Option.some.inj z⟩
    have k0' : knd G0 gx 0 = (20, n) := q0
    have k61 := A1.kd (a := 61) rfl
    simp only [b_law_law_367, b_law_law_380, b_law_law_381, b_law_law_397, b_law_law_398, R_aload0, R_aload1, R_aload2, R_iload3, R_iconst, R_iadd, R_iald, R_i2l, R_lc, R_lshl, R_land, R_lor, R_lcmp, R_ifeq, R_icmpeq, R_goto, R_gotow, opt2_s, Int.reduceToNat, Int.toNat_natCast, k0, w1, w2, w3, w4, w5, w6, w7, i5, k4, i_X_alike, Nat.reduceDiv, Nat.reduceMod, Nat.reduceLeDiff, Nat.reduceEqDiff, Int.reduceToNat, Int.reduceLT, Int.reduceLE, Int.reduceEq, Int.reduceNeg, Int.reduceAdd, Int.reduceSub, Int.reduceMul, not_true_eq_false, not_false_eq_true, true_or, or_true, or_false, false_or, false_and, and_false, w32_lit, lc_lt, lc_gt, lc_eq, lc_ge, lc_le, ite10, true_and, and_true, reduceIte, Nat.reduceLT, cats, catA, Nat.reduceAdd, Nat.zero_le, Nat.reduceLeDiff, hz]
    simp (disch := omega) only [inA_t, true_and]
    refine C _ ?_
    simp only [b_law_law_367, b_law_law_380, b_law_law_381, b_law_law_397, b_law_law_398, R_aload0, R_aload1, R_aload2, R_iload3, R_iconst, R_iadd, R_iald, R_i2l, R_lc, R_lshl, R_land, R_lor, R_lcmp, R_ifeq, R_icmpeq, R_goto, R_gotow, opt2_s, Int.reduceToNat, Int.toNat_natCast, k0', w1, w2, w3, w4, w5, w6, w7, s0, k61, i_M_alike, Nat.reduceDiv, Nat.reduceMod, Nat.reduceLeDiff, Nat.reduceEqDiff, Int.reduceToNat, Int.reduceLT, Int.reduceLE, Int.reduceEq, Int.reduceNeg, Int.reduceAdd, Int.reduceSub, Int.reduceMul, not_true_eq_false, not_false_eq_true, true_or, or_true, or_false, false_or, false_and, and_false, w32_lit, lc_lt, lc_gt, lc_eq, lc_ge, lc_le, ite10, true_and, and_true, reduceIte, Nat.reduceLT, cats, catA, Nat.reduceAdd, Nat.zero_le, Nat.reduceLeDiff, hz]
    simp (disch := omega) only [inA_t, true_and]
    refine D _ ?_
    simp only [R_aload0, R_aload1, R_aload2, R_iload3, R_iconst, R_iadd, R_iald, R_i2l, R_lc, R_lshl, R_land, R_lor, R_lcmp, R_ifeq, R_icmpeq, R_goto, R_gotow, opt2_s, Int.reduceToNat, Int.toNat_natCast, eq_self, Nat.reduceDiv, Nat.reduceMod, Nat.reduceLeDiff, Nat.reduceEqDiff, Int.reduceToNat, Int.reduceLT, Int.reduceLE, Int.reduceEq, Int.reduceNeg, Int.reduceAdd, Int.reduceSub, Int.reduceMul, not_true_eq_false, not_false_eq_true, true_or, or_true, or_false, false_or, false_and, and_false, w32_lit, lc_lt, lc_gt, lc_eq, lc_ge, lc_le, ite10, true_and, and_true, reduceIte, Nat.reduceLT, cats, catA, Nat.reduceAdd, Nat.zero_le, Nat.reduceLeDiff]
    exact nx g I1
set_option maxRecDepth 10000 in
theorem law_c6 (hn : n ≤ 4096) (h8 : 8 * c + 8 ≤ n) (hI : LI n xs c h) (nx : ∀ g, LI n xs (c + 1) g → Run sysS G0 1000 199 (sysS.2.1 199 1480) [vR (some 0), vR (some 4), vR (some 61), vI ((8 * c : Nat) : Int)] [] g Q) : Run sysS G0 1000 199 (sysS.2.1 199 406) [vR (some 0), vR (some 4), vR (some 61), vI ((8 * c : Nat) : Int)] [] h Q := by
  have k0 : knd G0 h 0 = (20, n) := hI.2.2.2.2.2
  have i5 := hI.2.2.2.2.1
  have k4 := hI.1.kd (a := 4) rfl
  obtain ⟨w1, w2, w3, w4, w5, w6, w7, -⟩ := w7 (c := c) (by omega)
  by_cases hz : (xs (8 * c + 1)).toInt = 0
  · obtain ⟨r, gx, g, o, C, D, s0, q0, A1, I1⟩ := law_step (kx := 7) (km := 169) (ax := [vR (some 4), vI 0]) (am := [vR (some 61), vI 0]) hI (fun hx hm R => Lk.le (by omega) (l_asOf rfl R))
    obtain ⟨x, rfl⟩ : ∃ x, r = vI x := by obtain ⟨x, z⟩ := o.1 rfl; exact ⟨x, Option.some.inj z⟩
    have k0' : knd G0 gx 0 = (20, n) := q0
    have k61 := A1.kd (a := 61) rfl
    simp only [b_law_law_406, b_law_law_419, b_law_law_420, b_law_law_436, b_law_law_437, R_aload0, R_aload1, R_aload2, R_iload3, R_iconst, R_iadd, R_iald, R_i2l, R_lc, R_lshl, R_land, R_lor, R_lcmp, R_ifeq, R_icmpeq, R_goto, R_gotow, opt2_s, Int.reduceToNat, Int.toNat_natCast, k0, w1, w2, w3, w4, w5, w6, w7, i5, k4, i_X_asOf, Nat.reduceDiv, Nat.reduceMod, Nat.reduceLeDiff, Nat.reduceEqDiff, Int.reduceToNat, Int.reduceLT, Int.reduceLE, Int.reduceEq, Int.reduceNeg, Int.reduceAdd, Int.reduceSub, Int.reduceMul, not_true_eq_false, not_false_eq_true, true_or, or_true, or_false, false_or, false_and, and_false, w32_lit, lc_lt, lc_gt, lc_eq, lc_ge, lc_le, ite10, true_and, and_true, reduceIte, Nat.reduceLT, cats, catA, Nat.reduceAdd, Nat.zero_le, Nat.reduceLeDiff, hz]
    simp (disch := omega) only [inA_t, true_and]
    refine C _ ?_
    simp only [b_law_law_406, b_law_law_419, b_law_law_420, b_law_law_436, b_law_law_437, R_aload0, R_aload1, R_aload2, R_iload3, R_iconst, R_iadd, R_iald, R_i2l, R_lc, R_lshl, R_land, R_lor, R_lcmp, R_ifeq, R_icmpeq, R_goto, R_gotow, opt2_s, Int.reduceToNat, Int.toNat_natCast, k0', w1, w2, w3, w4, w5, w6, w7, s0, k61, i_M_asOf, Nat.reduceDiv, Nat.reduceMod, Nat.reduceLeDiff, Nat.reduceEqDiff, Int.reduceToNat, Int.reduceLT, Int.reduceLE, Int.reduceEq, Int.reduceNeg, Int.reduceAdd, Int.reduceSub, Int.reduceMul, not_true_eq_false, not_false_eq_true, true_or, or_true, or_false, false_or, false_and, and_false, w32_lit, lc_lt, lc_gt, lc_eq, lc_ge, lc_le, ite10, true_and, and_true, reduceIte, Nat.reduceLT, cats, catA, Nat.reduceAdd, Nat.zero_le, Nat.reduceLeDiff, hz]
    simp (disch := omega) only [inA_t, true_and]
    refine D _ ?_
    simp only [R_aload0, R_aload1, R_aload2, R_iload3, R_iconst, R_iadd, R_iald, R_i2l, R_lc, R_lshl, R_land, R_lor, R_lcmp, R_ifeq, R_icmpeq, R_goto, R_gotow, opt2_s, Int.reduceToNat, Int.toNat_natCast, eq_self, Nat.reduceDiv, Nat.reduceMod, Nat.reduceLeDiff, Nat.reduceEqDiff, Int.reduceToNat, Int.reduceLT, Int.reduceLE, Int.reduceEq, Int.reduceNeg, Int.reduceAdd, Int.reduceSub, Int.reduceMul, not_true_eq_false, not_false_eq_true, true_or, or_true, or_false, false_or, false_and, and_false, w32_lit, lc_lt, lc_gt, lc_eq, lc_ge, lc_le, ite10, true_and, and_true, reduceIte, Nat.reduceLT, cats, catA, Nat.reduceAdd, Nat.zero_le, Nat.reduceLeDiff]
    exact nx g I1
  · obtain ⟨r, gx, g, o, C, D, s0, q0, A1, I1⟩ := law_step (kx := 7) (km := 169) (ax := [vR (some 4), vI 1]) (am := [vR (some 61), vI 1]) hI (fun hx hm R => Lk.le (by omega) (l_asOf rfl R))
    obtain ⟨x, rfl⟩ : ∃ x, r = vI x := by obtain ⟨x, z⟩ := o.1 rfl; exact ⟨x, Option.some.inj z⟩
    have k0' : knd G0 gx 0 = (20, n) := q0
    have k61 := A1.kd (a := 61) rfl
    simp only [b_law_law_406, b_law_law_419, b_law_law_420, b_law_law_436, b_law_law_437, R_aload0, R_aload1, R_aload2, R_iload3, R_iconst, R_iadd, R_iald, R_i2l, R_lc, R_lshl, R_land, R_lor, R_lcmp, R_ifeq, R_icmpeq, R_goto, R_gotow, opt2_s, Int.reduceToNat, Int.toNat_natCast, k0, w1, w2, w3, w4, w5, w6, w7, i5, k4, i_X_asOf, Nat.reduceDiv, Nat.reduceMod, Nat.reduceLeDiff, Nat.reduceEqDiff, Int.reduceToNat, Int.reduceLT, Int.reduceLE, Int.reduceEq, Int.reduceNeg, Int.reduceAdd, Int.reduceSub, Int.reduceMul, not_true_eq_false, not_false_eq_true, true_or, or_true, or_false, false_or, false_and, and_false, w32_lit, lc_lt, lc_gt, lc_eq, lc_ge, lc_le, ite10, true_and, and_true, reduceIte, Nat.reduceLT, cats, catA, Nat.reduceAdd, Nat.zero_le, Nat.reduceLeDiff, hz]
    simp (disch := omega) only [inA_t, true_and]
    refine C _ ?_
    simp only [b_law_law_406, b_law_law_419, b_law_law_420, b_law_law_436, b_law_law_437, R_aload0, R_aload1, R_aload2, R_iload3, R_iconst, R_iadd, R_iald, R_i2l, R_lc, R_lshl, R_land, R_lor, R_lcmp, R_ifeq, R_icmpeq, R_goto, R_gotow, opt2_s, Int.reduceToNat, Int.toNat_natCast, k0', w1, w2, w3, w4, w5, w6, w7, s0, k61, i_M_asOf, Nat.reduceDiv, Nat.reduceMod, Nat.reduceLeDiff, Nat.reduceEqDiff, Int.reduceToNat, Int.reduceLT, Int.reduceLE, Int.reduceEq, Int.reduceNeg, Int.reduceAdd, Int.reduceSub, Int.reduceMul, not_true_eq_false, not_false_eq_true, true_or, or_true, or_false, false_or, false_and, and_false, w32_lit, lc_lt, lc_gt, lc_eq, lc_ge, lc_le, ite10, true_and, and_true, reduceIte, Nat.reduceLT, cats, catA, Nat.reduceAdd, Nat.zero_le, Nat.reduceLeDiff, hz]
    simp (disch := omega) only [inA_t, true_and]
    refine D _ ?_
    simp only [R_aload0, R_aload1, R_aload2, R_iload3, R_iconst, R_iadd, R_iald, R_i2l, R_lc, R_lshl, R_land, R_lor, R_lcmp, R_ifeq, R_icmpeq, R_goto, R_gotow, opt2_s, Int.reduceToNat, Int.toNat_natCast, eq_self, Nat.reduceDiv, Nat.reduceMod, Nat.reduceLeDiff, Nat.reduceEqDiff, Int.reduceToNat, Int.reduceLT, Int.reduceLE, Int.reduceEq, Int.reduceNeg, Int.reduceAdd, Int.reduceSub, Int.reduceMul, not_true_eq_false, not_false_eq_true, true_or, or_true, or_false, false_or, false_and, and_false, w32_lit, lc_lt, lc_gt, lc_eq, lc_ge, lc_le, ite10, true_and, and_true, reduceIte, Nat.reduceLT, cats, catA, Nat.reduceAdd, Nat.zero_le, Nat.reduceLeDiff]
    exact nx g I1
set_option maxRecDepth 10000 in
theorem law_c7 (hn : n ≤ 4096) (h8 : 8 * c + 8 ≤ n) (hI : LI n xs c h) (nx : ∀ g, LI n xs (c + 1) g → Run sysS G0 1000 199 (sysS.2.1 199 1480) [vR (some 0), vR (some 4), vR (some 61), vI ((8 * c : Nat) : Int)] [] g Q) : Run sysS G0 1000 199 (sysS.2.1 199 445) [vR (some 0), vR (some 4), vR (some 61), vI ((8 * c : Nat) : Int)] [] h Q := by
  have k0 : knd G0 h 0 = (20, n) := hI.2.2.2.2.2
  have i5 := hI.2.2.2.2.1
  have k4 := hI.1.kd (a := 4) rfl
  obtain ⟨w1, w2, w3, w4, w5, w6, w7, -⟩ := w7 (c := c) (by omega)
  obtain ⟨r, gx, g, o, C, D, s0, q0, A1, I1⟩ := law_step (kx := 8) (km := 176) (ax := [vR (some 4), vI (xs (8 * c + 1)).toInt]) (am := [vR (some 61), vI (xs (8 * c + 1)).toInt]) hI (fun hx hm R => Lk.le (by omega) (l_tasks (inr_to _) (by omega) R))
  obtain ⟨x, rfl⟩ : ∃ x, r = vI x := by obtain ⟨x, z⟩ := o.1 rfl; exact ⟨x, Option.some.inj z⟩
  have k0' : knd G0 gx 0 = (20, n) := q0
  have k61 := A1.kd (a := 61) rfl
  simp only [b_law_law_445, R_aload0, R_aload1, R_aload2, R_iload3, R_iconst, R_iadd, R_iald, R_i2l, R_lc, R_lshl, R_land, R_lor, R_lcmp, R_ifeq, R_icmpeq, R_goto, R_gotow, opt2_s, Int.reduceToNat, Int.toNat_natCast, k0, w1, w2, w3, w4, w5, w6, w7, i5, k4, i_X_tasks, Nat.reduceDiv, Nat.reduceMod, Nat.reduceLeDiff, Nat.reduceEqDiff, Int.reduceToNat, Int.reduceLT, Int.reduceLE, Int.reduceEq, Int.reduceNeg, Int.reduceAdd, Int.reduceSub, Int.reduceMul, not_true_eq_false, not_false_eq_true, true_or, or_true, or_false, false_or, false_and, and_false, w32_lit, lc_lt, lc_gt, lc_eq, lc_ge, lc_le, ite10, true_and, and_true, reduceIte, Nat.reduceLT, cats, catA, Nat.reduceAdd, Nat.zero_le, Nat.reduceLeDiff]
  simp (disch := omega) only [inA_t, true_and]
  refine C _ ?_
  simp only [b_law_law_445, R_aload0, R_aload1, R_aload2, R_iload3, R_iconst, R_iadd, R_iald, R_i2l, R_lc, R_lshl, R_land, R_lor, R_lcmp, R_ifeq, R_icmpeq, R_goto, R_gotow, opt2_s, Int.reduceToNat, Int.toNat_natCast, k0', w1, w2, w3, w4, w5, w6, w7, s0, k61, i_M_tasks, Nat.reduceDiv, Nat.reduceMod, Nat.reduceLeDiff, Nat.reduceEqDiff, Int.reduceToNat, Int.reduceLT, Int.reduceLE, Int.reduceEq, Int.reduceNeg, Int.reduceAdd, Int.reduceSub, Int.reduceMul, not_true_eq_false, not_false_eq_true, true_or, or_true, or_false, false_or, false_and, and_false, w32_lit, lc_lt, lc_gt, lc_eq, lc_ge, lc_le, ite10, true_and, and_true, reduceIte, Nat.reduceLT, cats, catA, Nat.reduceAdd, Nat.zero_le, Nat.reduceLeDiff]
  simp (disch := omega) only [inA_t, true_and]
  refine D _ ?_
  simp only [R_aload0, R_aload1, R_aload2, R_iload3, R_iconst, R_iadd, R_iald, R_i2l, R_lc, R_lshl, R_land, R_lor, R_lcmp, R_ifeq, R_icmpeq, R_goto, R_gotow, opt2_s, Int.reduceToNat, Int.toNat_natCast, eq_self, Nat.reduceDiv, Nat.reduceMod, Nat.reduceLeDiff, Nat.reduceEqDiff, Int.reduceToNat, Int.reduceLT, Int.reduceLE, Int.reduceEq, Int.reduceNeg, Int.reduceAdd, Int.reduceSub, Int.reduceMul, not_true_eq_false, not_false_eq_true, true_or, or_true, or_false, false_or, false_and, and_false, w32_lit, lc_lt, lc_gt, lc_eq, lc_ge, lc_le, ite10, true_and, and_true, reduceIte, Nat.reduceLT, cats, catA, Nat.reduceAdd, Nat.zero_le, Nat.reduceLeDiff]
  exact nx g I1
set_option maxRecDepth 10000 in
theorem law_c8 (hn : n ≤ 4096) (h8 : 8 * c + 8 ≤ n) (hI : LI n xs c h) (nx : ∀ g, LI n xs (c + 1) g → Run sysS G0 1000 199 (sysS.2.1 199 1480) [vR (some 0), vR (some 4), vR (some 61), vI ((8 * c : Nat) : Int)] [] g Q) : Run sysS G0 1000 199 (sysS.2.1 199 468) [vR (some 0), vR (some 4), vR (some 61), vI ((8 * c : Nat) : Int)] [] h Q := by
  have k0 : knd G0 h 0 = (20, n) := hI.2.2.2.2.2
  have i5 := hI.2.2.2.2.1
  have k4 := hI.1.kd (a := 4) rfl
  obtain ⟨w1, w2, w3, w4, w5, w6, w7, -⟩ := w7 (c := c) (by omega)
  obtain ⟨r, gx, g, o, C, D, s0, q0, A1, I1⟩ := law_step (kx := 9) (km := 175) (ax := [vR (some 4), vI (xs (8 * c + 1)).toInt, vL (jJ (xs (8 * c + 2)).toInt (xs (8 * c + 3)).toInt), vL (jJ (xs (8 * c + 4)).toInt (xs (8 * c + 5)).toInt), vL (jJ (xs (8 * c + 6)).toInt (xs (8 * c + 7)).toInt)]) (am := [vR (some 61), vI (xs (8 * c + 1)).toInt, vL (jJ (xs (8 * c + 2)).toInt (xs (8 * c + 3)).toInt), vL (jJ (xs (8 * c + 4)).toInt (xs (8 * c + 5)).toInt), vL (jJ (xs (8 * c + 6)).toInt (xs (8 * c + 7)).toInt)]) hI (fun hx hm R => Lk.le (by omega) (l_row (inr_to _) (by omega) R))
  obtain ⟨x, rfl⟩ : ∃ x, r = vI x := by obtain ⟨x, z⟩ := o.1 rfl; exact ⟨x, Option.some.inj z⟩
  have k0' : knd G0 gx 0 = (20, n) := q0
  have k61 := A1.kd (a := 61) rfl
  simp only [b_law_law_468, R_aload0, R_aload1, R_aload2, R_iload3, R_iconst, R_iadd, R_iald, R_i2l, R_lc, R_lshl, R_land, R_lor, R_lcmp, R_ifeq, R_icmpeq, R_goto, R_gotow, opt2_s, Int.reduceToNat, Int.toNat_natCast, k0, w1, w2, w3, w4, w5, w6, w7, i5, k4, i_X_row, Nat.reduceDiv, Nat.reduceMod, Nat.reduceLeDiff, Nat.reduceEqDiff, Int.reduceToNat, Int.reduceLT, Int.reduceLE, Int.reduceEq, Int.reduceNeg, Int.reduceAdd, Int.reduceSub, Int.reduceMul, not_true_eq_false, not_false_eq_true, true_or, or_true, or_false, false_or, false_and, and_false, w32_lit, lc_lt, lc_gt, lc_eq, lc_ge, lc_le, ite10, true_and, and_true, reduceIte, Nat.reduceLT, cats, catA, Nat.reduceAdd, Nat.zero_le, Nat.reduceLeDiff]
  simp (disch := omega) only [inA_t, true_and]
  refine C _ ?_
  simp only [b_law_law_468, R_aload0, R_aload1, R_aload2, R_iload3, R_iconst, R_iadd, R_iald, R_i2l, R_lc, R_lshl, R_land, R_lor, R_lcmp, R_ifeq, R_icmpeq, R_goto, R_gotow, opt2_s, Int.reduceToNat, Int.toNat_natCast, k0', w1, w2, w3, w4, w5, w6, w7, s0, k61, i_M_row, Nat.reduceDiv, Nat.reduceMod, Nat.reduceLeDiff, Nat.reduceEqDiff, Int.reduceToNat, Int.reduceLT, Int.reduceLE, Int.reduceEq, Int.reduceNeg, Int.reduceAdd, Int.reduceSub, Int.reduceMul, not_true_eq_false, not_false_eq_true, true_or, or_true, or_false, false_or, false_and, and_false, w32_lit, lc_lt, lc_gt, lc_eq, lc_ge, lc_le, ite10, true_and, and_true, reduceIte, Nat.reduceLT, cats, catA, Nat.reduceAdd, Nat.zero_le, Nat.reduceLeDiff]
  simp (disch := omega) only [inA_t, true_and]
  refine D _ ?_
  simp only [R_aload0, R_aload1, R_aload2, R_iload3, R_iconst, R_iadd, R_iald, R_i2l, R_lc, R_lshl, R_land, R_lor, R_lcmp, R_ifeq, R_icmpeq, R_goto, R_gotow, opt2_s, Int.reduceToNat, Int.toNat_natCast, eq_self, Nat.reduceDiv, Nat.reduceMod, Nat.reduceLeDiff, Nat.reduceEqDiff, Int.reduceToNat, Int.reduceLT, Int.reduceLE, Int.reduceEq, Int.reduceNeg, Int.reduceAdd, Int.reduceSub, Int.reduceMul, not_true_eq_false, not_false_eq_true, true_or, or_true, or_false, false_or, false_and, and_false, w32_lit, lc_lt, lc_gt, lc_eq, lc_ge, lc_le, ite10, true_and, and_true, reduceIte, Nat.reduceLT, cats, catA, Nat.reduceAdd, Nat.zero_le, Nat.reduceLeDiff]
  exact nx g I1
set_option maxRecDepth 10000 in
theorem law_c9 (hn : n ≤ 4096) (h8 : 8 * c + 8 ≤ n) (hI : LI n xs c h) (nx : ∀ g, LI n xs (c + 1) g → Run sysS G0 1000 199 (sysS.2.1 199 1480) [vR (some 0), vR (some 4), vR (some 61), vI ((8 * c : Nat) : Int)] [] g Q) : Run sysS G0 1000 199 (sysS.2.1 199 615) [vR (some 0), vR (some 4), vR (some 61), vI ((8 * c : Nat) : Int)] [] h Q := by
  have k0 : knd G0 h 0 = (20, n) := hI.2.2.2.2.2
  have i5 := hI.2.2.2.2.1
  have k4 := hI.1.kd (a := 4) rfl
  obtain ⟨w1, w2, w3, w4, w5, w6, w7, -⟩ := w7 (c := c) (by omega)
  obtain ⟨r, gx, g, o, C, D, s0, q0, A1, I1⟩ := law_step (kx := 10) (km := 179) (ax := [vR (some 4), vI (xs (8 * c + 1)).toInt, vL (jJ (xs (8 * c + 2)).toInt (xs (8 * c + 3)).toInt), vL (jJ (xs (8 * c + 4)).toInt (xs (8 * c + 5)).toInt), vL (jJ (xs (8 * c + 6)).toInt (xs (8 * c + 7)).toInt)]) (am := [vR (some 61), vI (xs (8 * c + 1)).toInt, vL (jJ (xs (8 * c + 2)).toInt (xs (8 * c + 3)).toInt), vL (jJ (xs (8 * c + 4)).toInt (xs (8 * c + 5)).toInt), vL (jJ (xs (8 * c + 6)).toInt (xs (8 * c + 7)).toInt)]) hI (fun hx hm R => Lk.le (by omega) (l_goes (inr_to _) R))
  obtain ⟨x, rfl⟩ : ∃ x, r = vI x := by obtain ⟨x, z⟩ := o.1 rfl; exact ⟨x, Option.some.inj z⟩
  have k0' : knd G0 gx 0 = (20, n) := q0
  have k61 := A1.kd (a := 61) rfl
  simp only [b_law_law_615, R_aload0, R_aload1, R_aload2, R_iload3, R_iconst, R_iadd, R_iald, R_i2l, R_lc, R_lshl, R_land, R_lor, R_lcmp, R_ifeq, R_icmpeq, R_goto, R_gotow, opt2_s, Int.reduceToNat, Int.toNat_natCast, k0, w1, w2, w3, w4, w5, w6, w7, i5, k4, i_X_goes, Nat.reduceDiv, Nat.reduceMod, Nat.reduceLeDiff, Nat.reduceEqDiff, Int.reduceToNat, Int.reduceLT, Int.reduceLE, Int.reduceEq, Int.reduceNeg, Int.reduceAdd, Int.reduceSub, Int.reduceMul, not_true_eq_false, not_false_eq_true, true_or, or_true, or_false, false_or, false_and, and_false, w32_lit, lc_lt, lc_gt, lc_eq, lc_ge, lc_le, ite10, true_and, and_true, reduceIte, Nat.reduceLT, cats, catA, Nat.reduceAdd, Nat.zero_le, Nat.reduceLeDiff]
  simp (disch := omega) only [inA_t, true_and]
  refine C _ ?_
  simp only [b_law_law_615, R_aload0, R_aload1, R_aload2, R_iload3, R_iconst, R_iadd, R_iald, R_i2l, R_lc, R_lshl, R_land, R_lor, R_lcmp, R_ifeq, R_icmpeq, R_goto, R_gotow, opt2_s, Int.reduceToNat, Int.toNat_natCast, k0', w1, w2, w3, w4, w5, w6, w7, s0, k61, i_M_goes, Nat.reduceDiv, Nat.reduceMod, Nat.reduceLeDiff, Nat.reduceEqDiff, Int.reduceToNat, Int.reduceLT, Int.reduceLE, Int.reduceEq, Int.reduceNeg, Int.reduceAdd, Int.reduceSub, Int.reduceMul, not_true_eq_false, not_false_eq_true, true_or, or_true, or_false, false_or, false_and, and_false, w32_lit, lc_lt, lc_gt, lc_eq, lc_ge, lc_le, ite10, true_and, and_true, reduceIte, Nat.reduceLT, cats, catA, Nat.reduceAdd, Nat.zero_le, Nat.reduceLeDiff]
  simp (disch := omega) only [inA_t, true_and]
  refine D _ ?_
  simp only [R_aload0, R_aload1, R_aload2, R_iload3, R_iconst, R_iadd, R_iald, R_i2l, R_lc, R_lshl, R_land, R_lor, R_lcmp, R_ifeq, R_icmpeq, R_goto, R_gotow, opt2_s, Int.reduceToNat, Int.toNat_natCast, eq_self, Nat.reduceDiv, Nat.reduceMod, Nat.reduceLeDiff, Nat.reduceEqDiff, Int.reduceToNat, Int.reduceLT, Int.reduceLE, Int.reduceEq, Int.reduceNeg, Int.reduceAdd, Int.reduceSub, Int.reduceMul, not_true_eq_false, not_false_eq_true, true_or, or_true, or_false, false_or, false_and, and_false, w32_lit, lc_lt, lc_gt, lc_eq, lc_ge, lc_le, ite10, true_and, and_true, reduceIte, Nat.reduceLT, cats, catA, Nat.reduceAdd, Nat.zero_le, Nat.reduceLeDiff]
  exact nx g I1
set_option maxRecDepth 10000 in
theorem law_c10 (hn : n ≤ 4096) (h8 : 8 * c + 8 ≤ n) (hI : LI n xs c h) (nx : ∀ g, LI n xs (c + 1) g → Run sysS G0 1000 199 (sysS.2.1 199 1480) [vR (some 0), vR (some 4), vR (some 61), vI ((8 * c : Nat) : Int)] [] g Q) : Run sysS G0 1000 199 (sysS.2.1 199 762) [vR (some 0), vR (some 4), vR (some 61), vI ((8 * c : Nat) : Int)] [] h Q := by
  have k0 : knd G0 h 0 = (20, n) := hI.2.2.2.2.2
  have i5 := hI.2.2.2.2.1
  have k4 := hI.1.kd (a := 4) rfl
  obtain ⟨w1, w2, w3, w4, w5, w6, w7, -⟩ := w7 (c := c) (by omega)
  obtain ⟨r, gx, g, o, C, D, s0, q0, A1, I1⟩ := law_step (kx := 11) (km := 180) (ax := [vR (some 4), vI (xs (8 * c + 1)).toInt, vL (jJ (xs (8 * c + 2)).toInt (xs (8 * c + 3)).toInt), vL (jJ (xs (8 * c + 4)).toInt (xs (8 * c + 5)).toInt), vL (jJ (xs (8 * c + 6)).toInt (xs (8 * c + 7)).toInt)]) (am := [vR (some 61), vI (xs (8 * c + 1)).toInt, vL (jJ (xs (8 * c + 2)).toInt (xs (8 * c + 3)).toInt), vL (jJ (xs (8 * c + 4)).toInt (xs (8 * c + 5)).toInt), vL (jJ (xs (8 * c + 6)).toInt (xs (8 * c + 7)).toInt)]) hI (fun hx hm R => Lk.le (by omega) (l_send (inr_to _) (by omega) R))
  obtain ⟨x, rfl⟩ : ∃ x, r = vI x := by obtain ⟨x, z⟩ := o.1 rfl; exact ⟨x, Option.some.inj z⟩
  have k0' : knd G0 gx 0 = (20, n) := q0
  have k61 := A1.kd (a := 61) rfl
  simp only [b_law_law_762, R_aload0, R_aload1, R_aload2, R_iload3, R_iconst, R_iadd, R_iald, R_i2l, R_lc, R_lshl, R_land, R_lor, R_lcmp, R_ifeq, R_icmpeq, R_goto, R_gotow, opt2_s, Int.reduceToNat, Int.toNat_natCast, k0, w1, w2, w3, w4, w5, w6, w7, i5, k4, i_X_send, Nat.reduceDiv, Nat.reduceMod, Nat.reduceLeDiff, Nat.reduceEqDiff, Int.reduceToNat, Int.reduceLT, Int.reduceLE, Int.reduceEq, Int.reduceNeg, Int.reduceAdd, Int.reduceSub, Int.reduceMul, not_true_eq_false, not_false_eq_true, true_or, or_true, or_false, false_or, false_and, and_false, w32_lit, lc_lt, lc_gt, lc_eq, lc_ge, lc_le, ite10, true_and, and_true, reduceIte, Nat.reduceLT, cats, catA, Nat.reduceAdd, Nat.zero_le, Nat.reduceLeDiff]
  simp (disch := omega) only [inA_t, true_and]
  refine C _ ?_
  simp only [b_law_law_762, R_aload0, R_aload1, R_aload2, R_iload3, R_iconst, R_iadd, R_iald, R_i2l, R_lc, R_lshl, R_land, R_lor, R_lcmp, R_ifeq, R_icmpeq, R_goto, R_gotow, opt2_s, Int.reduceToNat, Int.toNat_natCast, k0', w1, w2, w3, w4, w5, w6, w7, s0, k61, i_M_send, Nat.reduceDiv, Nat.reduceMod, Nat.reduceLeDiff, Nat.reduceEqDiff, Int.reduceToNat, Int.reduceLT, Int.reduceLE, Int.reduceEq, Int.reduceNeg, Int.reduceAdd, Int.reduceSub, Int.reduceMul, not_true_eq_false, not_false_eq_true, true_or, or_true, or_false, false_or, false_and, and_false, w32_lit, lc_lt, lc_gt, lc_eq, lc_ge, lc_le, ite10, true_and, and_true, reduceIte, Nat.reduceLT, cats, catA, Nat.reduceAdd, Nat.zero_le, Nat.reduceLeDiff]
  simp (disch := omega) only [inA_t, true_and]
  refine D _ ?_
  simp only [R_aload0, R_aload1, R_aload2, R_iload3, R_iconst, R_iadd, R_iald, R_i2l, R_lc, R_lshl, R_land, R_lor, R_lcmp, R_ifeq, R_icmpeq, R_goto, R_gotow, opt2_s, Int.reduceToNat, Int.toNat_natCast, eq_self, Nat.reduceDiv, Nat.reduceMod, Nat.reduceLeDiff, Nat.reduceEqDiff, Int.reduceToNat, Int.reduceLT, Int.reduceLE, Int.reduceEq, Int.reduceNeg, Int.reduceAdd, Int.reduceSub, Int.reduceMul, not_true_eq_false, not_false_eq_true, true_or, or_true, or_false, false_or, false_and, and_false, w32_lit, lc_lt, lc_gt, lc_eq, lc_ge, lc_le, ite10, true_and, and_true, reduceIte, Nat.reduceLT, cats, catA, Nat.reduceAdd, Nat.zero_le, Nat.reduceLeDiff]
  exact nx g I1
set_option maxRecDepth 10000 in
theorem law_c11 (hn : n ≤ 4096) (h8 : 8 * c + 8 ≤ n) (hI : LI n xs c h) (nx : ∀ g, LI n xs (c + 1) g → Run sysS G0 1000 199 (sysS.2.1 199 1480) [vR (some 0), vR (some 4), vR (some 61), vI ((8 * c : Nat) : Int)] [] g Q) : Run sysS G0 1000 199 (sysS.2.1 199 909) [vR (some 0), vR (some 4), vR (some 61), vI ((8 * c : Nat) : Int)] [] h Q := by
  have k0 : knd G0 h 0 = (20, n) := hI.2.2.2.2.2
  have i5 := hI.2.2.2.2.1
  have k4 := hI.1.kd (a := 4) rfl
  obtain ⟨w1, w2, w3, w4, w5, w6, w7, -⟩ := w7 (c := c) (by omega)
  obtain ⟨r, gx, g, o, C, D, s0, q0, A1, I1⟩ := law_step (kx := 12) (km := 181) (ax := [vR (some 4), vI (xs (8 * c + 1)).toInt, vI (xs (8 * c + 2)).toInt]) (am := [vR (some 61), vI (xs (8 * c + 1)).toInt, vI (xs (8 * c + 2)).toInt]) hI (fun hx hm R => Lk.le (by omega) (l_apply (inr_to _) (inr_to _) (by omega) R))
  obtain ⟨x, rfl⟩ : ∃ x, r = vI x := by obtain ⟨x, z⟩ := o.1 rfl; exact ⟨x, Option.some.inj z⟩
  have k0' : knd G0 gx 0 = (20, n) := q0
  have k61 := A1.kd (a := 61) rfl
  simp only [b_law_law_909, R_aload0, R_aload1, R_aload2, R_iload3, R_iconst, R_iadd, R_iald, R_i2l, R_lc, R_lshl, R_land, R_lor, R_lcmp, R_ifeq, R_icmpeq, R_goto, R_gotow, opt2_s, Int.reduceToNat, Int.toNat_natCast, k0, w1, w2, w3, w4, w5, w6, w7, i5, k4, i_X_apply, Nat.reduceDiv, Nat.reduceMod, Nat.reduceLeDiff, Nat.reduceEqDiff, Int.reduceToNat, Int.reduceLT, Int.reduceLE, Int.reduceEq, Int.reduceNeg, Int.reduceAdd, Int.reduceSub, Int.reduceMul, not_true_eq_false, not_false_eq_true, true_or, or_true, or_false, false_or, false_and, and_false, w32_lit, lc_lt, lc_gt, lc_eq, lc_ge, lc_le, ite10, true_and, and_true, reduceIte, Nat.reduceLT, cats, catA, Nat.reduceAdd, Nat.zero_le, Nat.reduceLeDiff]
  simp (disch := omega) only [inA_t, true_and]
  refine C _ ?_
  simp only [b_law_law_909, R_aload0, R_aload1, R_aload2, R_iload3, R_iconst, R_iadd, R_iald, R_i2l, R_lc, R_lshl, R_land, R_lor, R_lcmp, R_ifeq, R_icmpeq, R_goto, R_gotow, opt2_s, Int.reduceToNat, Int.toNat_natCast, k0', w1, w2, w3, w4, w5, w6, w7, s0, k61, i_M_apply, Nat.reduceDiv, Nat.reduceMod, Nat.reduceLeDiff, Nat.reduceEqDiff, Int.reduceToNat, Int.reduceLT, Int.reduceLE, Int.reduceEq, Int.reduceNeg, Int.reduceAdd, Int.reduceSub, Int.reduceMul, not_true_eq_false, not_false_eq_true, true_or, or_true, or_false, false_or, false_and, and_false, w32_lit, lc_lt, lc_gt, lc_eq, lc_ge, lc_le, ite10, true_and, and_true, reduceIte, Nat.reduceLT, cats, catA, Nat.reduceAdd, Nat.zero_le, Nat.reduceLeDiff]
  simp (disch := omega) only [inA_t, true_and]
  refine D _ ?_
  simp only [R_aload0, R_aload1, R_aload2, R_iload3, R_iconst, R_iadd, R_iald, R_i2l, R_lc, R_lshl, R_land, R_lor, R_lcmp, R_ifeq, R_icmpeq, R_goto, R_gotow, opt2_s, Int.reduceToNat, Int.toNat_natCast, eq_self, Nat.reduceDiv, Nat.reduceMod, Nat.reduceLeDiff, Nat.reduceEqDiff, Int.reduceToNat, Int.reduceLT, Int.reduceLE, Int.reduceEq, Int.reduceNeg, Int.reduceAdd, Int.reduceSub, Int.reduceMul, not_true_eq_false, not_false_eq_true, true_or, or_true, or_false, false_or, false_and, and_false, w32_lit, lc_lt, lc_gt, lc_eq, lc_ge, lc_le, ite10, true_and, and_true, reduceIte, Nat.reduceLT, cats, catA, Nat.reduceAdd, Nat.zero_le, Nat.reduceLeDiff]
  exact nx g I1
set_option maxRecDepth 10000 in
theorem law_c12 (hn : n ≤ 4096) (h8 : 8 * c + 8 ≤ n) (hI : LI n xs c h) (nx : ∀ g, LI n xs (c + 1) g → Run sysS G0 1000 199 (sysS.2.1 199 1480) [vR (some 0), vR (some 4), vR (some 61), vI ((8 * c : Nat) : Int)] [] g Q) : Run sysS G0 1000 199 (sysS.2.1 199 942) [vR (some 0), vR (some 4), vR (some 61), vI ((8 * c : Nat) : Int)] [] h Q := by
  have k0 : knd G0 h 0 = (20, n) := hI.2.2.2.2.2
  have i5 := hI.2.2.2.2.1
  have k4 := hI.1.kd (a := 4) rfl
  obtain ⟨w1, w2, w3, w4, w5, w6, w7, -⟩ := w7 (c := c) (by omega)
  obtain ⟨r, gx, g, o, C, D, s0, q0, A1, I1⟩ := law_step (kx := 13) (km := 184) (ax := [vR (some 4), vI (xs (8 * c + 1)).toInt, vI (xs (8 * c + 2)).toInt]) (am := [vR (some 61), vI (xs (8 * c + 1)).toInt, vI (xs (8 * c + 2)).toInt]) hI (fun hx hm R => Lk.le (by omega) (l_out (by omega) (inr_to _) (inr_to _) R))
  obtain ⟨x, rfl⟩ : ∃ x, r = vL x := by obtain ⟨x, z⟩ := o.2 rfl; exact ⟨x, Option.some.inj z⟩
  have k0' : knd G0 gx 0 = (20, n) := q0
  have k61 := A1.kd (a := 61) rfl
  simp only [b_law_law_942, R_aload0, R_aload1, R_aload2, R_iload3, R_iconst, R_iadd, R_iald, R_i2l, R_lc, R_lshl, R_land, R_lor, R_lcmp, R_ifeq, R_icmpeq, R_goto, R_gotow, opt2_s, Int.reduceToNat, Int.toNat_natCast, k0, w1, w2, w3, w4, w5, w6, w7, i5, k4, i_X_out, Nat.reduceDiv, Nat.reduceMod, Nat.reduceLeDiff, Nat.reduceEqDiff, Int.reduceToNat, Int.reduceLT, Int.reduceLE, Int.reduceEq, Int.reduceNeg, Int.reduceAdd, Int.reduceSub, Int.reduceMul, not_true_eq_false, not_false_eq_true, true_or, or_true, or_false, false_or, false_and, and_false, w32_lit, lc_lt, lc_gt, lc_eq, lc_ge, lc_le, ite10, true_and, and_true, reduceIte, Nat.reduceLT, cats, catA, Nat.reduceAdd, Nat.zero_le, Nat.reduceLeDiff]
  simp (disch := omega) only [inA_t, true_and]
  refine C _ ?_
  simp only [b_law_law_942, R_aload0, R_aload1, R_aload2, R_iload3, R_iconst, R_iadd, R_iald, R_i2l, R_lc, R_lshl, R_land, R_lor, R_lcmp, R_ifeq, R_icmpeq, R_goto, R_gotow, opt2_s, Int.reduceToNat, Int.toNat_natCast, k0', w1, w2, w3, w4, w5, w6, w7, s0, k61, i_M_out, Nat.reduceDiv, Nat.reduceMod, Nat.reduceLeDiff, Nat.reduceEqDiff, Int.reduceToNat, Int.reduceLT, Int.reduceLE, Int.reduceEq, Int.reduceNeg, Int.reduceAdd, Int.reduceSub, Int.reduceMul, not_true_eq_false, not_false_eq_true, true_or, or_true, or_false, false_or, false_and, and_false, w32_lit, lc_lt, lc_gt, lc_eq, lc_ge, lc_le, ite10, true_and, and_true, reduceIte, Nat.reduceLT, cats, catA, Nat.reduceAdd, Nat.zero_le, Nat.reduceLeDiff]
  simp (disch := omega) only [inA_t, true_and]
  refine D _ ?_
  simp only [R_aload0, R_aload1, R_aload2, R_iload3, R_iconst, R_iadd, R_iald, R_i2l, R_lc, R_lshl, R_land, R_lor, R_lcmp, R_ifeq, R_icmpeq, R_goto, R_gotow, opt2_s, Int.reduceToNat, Int.toNat_natCast, eq_self, Nat.reduceDiv, Nat.reduceMod, Nat.reduceLeDiff, Nat.reduceEqDiff, Int.reduceToNat, Int.reduceLT, Int.reduceLE, Int.reduceEq, Int.reduceNeg, Int.reduceAdd, Int.reduceSub, Int.reduceMul, not_true_eq_false, not_false_eq_true, true_or, or_true, or_false, false_or, false_and, and_false, w32_lit, lc_lt, lc_gt, lc_eq, lc_ge, lc_le, ite10, true_and, and_true, reduceIte, Nat.reduceLT, cats, catA, Nat.reduceAdd, Nat.zero_le, Nat.reduceLeDiff]
  exact nx g I1
set_option maxRecDepth 10000 in
theorem law_c13 (hn : n ≤ 4096) (h8 : 8 * c + 8 ≤ n) (hI : LI n xs c h) (nx : ∀ g, LI n xs (c + 1) g → Run sysS G0 1000 199 (sysS.2.1 199 1480) [vR (some 0), vR (some 4), vR (some 61), vI ((8 * c : Nat) : Int)] [] g Q) : Run sysS G0 1000 199 (sysS.2.1 199 976) [vR (some 0), vR (some 4), vR (some 61), vI ((8 * c : Nat) : Int)] [] h Q := by
  have k0 : knd G0 h 0 = (20, n) := hI.2.2.2.2.2
  have i5 := hI.2.2.2.2.1
  have k4 := hI.1.kd (a := 4) rfl
  obtain ⟨w1, w2, w3, w4, w5, w6, w7, -⟩ := w7 (c := c) (by omega)
  obtain ⟨r, gx, g, o, C, D, s0, q0, A1, I1⟩ := law_step (kx := 14) (km := 185) (ax := [vR (some 4), vI (xs (8 * c + 1)).toInt, vI (xs (8 * c + 2)).toInt]) (am := [vR (some 61), vI (xs (8 * c + 1)).toInt, vI (xs (8 * c + 2)).toInt]) hI (fun hx hm R => Lk.le (by omega) (l_from (by omega) (inr_to _) (inr_to _) R))
  obtain ⟨x, rfl⟩ : ∃ x, r = vI x := by obtain ⟨x, z⟩ := o.1 rfl; exact ⟨x, Option.some.inj z⟩
  have k0' : knd G0 gx 0 = (20, n) := q0
  have k61 := A1.kd (a := 61) rfl
  simp only [b_law_law_976, R_aload0, R_aload1, R_aload2, R_iload3, R_iconst, R_iadd, R_iald, R_i2l, R_lc, R_lshl, R_land, R_lor, R_lcmp, R_ifeq, R_icmpeq, R_goto, R_gotow, opt2_s, Int.reduceToNat, Int.toNat_natCast, k0, w1, w2, w3, w4, w5, w6, w7, i5, k4, i_X_from, Nat.reduceDiv, Nat.reduceMod, Nat.reduceLeDiff, Nat.reduceEqDiff, Int.reduceToNat, Int.reduceLT, Int.reduceLE, Int.reduceEq, Int.reduceNeg, Int.reduceAdd, Int.reduceSub, Int.reduceMul, not_true_eq_false, not_false_eq_true, true_or, or_true, or_false, false_or, false_and, and_false, w32_lit, lc_lt, lc_gt, lc_eq, lc_ge, lc_le, ite10, true_and, and_true, reduceIte, Nat.reduceLT, cats, catA, Nat.reduceAdd, Nat.zero_le, Nat.reduceLeDiff]
  simp (disch := omega) only [inA_t, true_and]
  refine C _ ?_
  simp only [b_law_law_976, R_aload0, R_aload1, R_aload2, R_iload3, R_iconst, R_iadd, R_iald, R_i2l, R_lc, R_lshl, R_land, R_lor, R_lcmp, R_ifeq, R_icmpeq, R_goto, R_gotow, opt2_s, Int.reduceToNat, Int.toNat_natCast, k0', w1, w2, w3, w4, w5, w6, w7, s0, k61, i_M_from, Nat.reduceDiv, Nat.reduceMod, Nat.reduceLeDiff, Nat.reduceEqDiff, Int.reduceToNat, Int.reduceLT, Int.reduceLE, Int.reduceEq, Int.reduceNeg, Int.reduceAdd, Int.reduceSub, Int.reduceMul, not_true_eq_false, not_false_eq_true, true_or, or_true, or_false, false_or, false_and, and_false, w32_lit, lc_lt, lc_gt, lc_eq, lc_ge, lc_le, ite10, true_and, and_true, reduceIte, Nat.reduceLT, cats, catA, Nat.reduceAdd, Nat.zero_le, Nat.reduceLeDiff]
  simp (disch := omega) only [inA_t, true_and]
  refine D _ ?_
  simp only [R_aload0, R_aload1, R_aload2, R_iload3, R_iconst, R_iadd, R_iald, R_i2l, R_lc, R_lshl, R_land, R_lor, R_lcmp, R_ifeq, R_icmpeq, R_goto, R_gotow, opt2_s, Int.reduceToNat, Int.toNat_natCast, eq_self, Nat.reduceDiv, Nat.reduceMod, Nat.reduceLeDiff, Nat.reduceEqDiff, Int.reduceToNat, Int.reduceLT, Int.reduceLE, Int.reduceEq, Int.reduceNeg, Int.reduceAdd, Int.reduceSub, Int.reduceMul, not_true_eq_false, not_false_eq_true, true_or, or_true, or_false, false_or, false_and, and_false, w32_lit, lc_lt, lc_gt, lc_eq, lc_ge, lc_le, ite10, true_and, and_true, reduceIte, Nat.reduceLT, cats, catA, Nat.reduceAdd, Nat.zero_le, Nat.reduceLeDiff]
  exact nx g I1
set_option maxRecDepth 10000 in
theorem law_c14 (hn : n ≤ 4096) (h8 : 8 * c + 8 ≤ n) (hI : LI n xs c h) (nx : ∀ g, LI n xs (c + 1) g → Run sysS G0 1000 199 (sysS.2.1 199 1480) [vR (some 0), vR (some 4), vR (some 61), vI ((8 * c : Nat) : Int)] [] g Q) : Run sysS G0 1000 199 (sysS.2.1 199 1009) [vR (some 0), vR (some 4), vR (some 61), vI ((8 * c : Nat) : Int)] [] h Q := by
  have k0 : knd G0 h 0 = (20, n) := hI.2.2.2.2.2
  have i5 := hI.2.2.2.2.1
  have k4 := hI.1.kd (a := 4) rfl
  obtain ⟨w1, w2, w3, w4, w5, w6, w7, -⟩ := w7 (c := c) (by omega)
  obtain ⟨r, gx, g, o, C, D, s0, q0, A1, I1⟩ := law_step (kx := 15) (km := 186) (ax := [vR (some 4), vL (jJ (xs (8 * c + 1)).toInt (xs (8 * c + 2)).toInt)]) (am := [vR (some 61), vL (jJ (xs (8 * c + 1)).toInt (xs (8 * c + 2)).toInt)]) hI (fun hx hm R => Lk.le (by omega) (l_at R))
  obtain ⟨x, rfl⟩ : ∃ x, r = vI x := by obtain ⟨x, z⟩ := o.1 rfl; exact ⟨x, Option.some.inj z⟩
  have k0' : knd G0 gx 0 = (20, n) := q0
  have k61 := A1.kd (a := 61) rfl
  simp only [b_law_law_1009, R_aload0, R_aload1, R_aload2, R_iload3, R_iconst, R_iadd, R_iald, R_i2l, R_lc, R_lshl, R_land, R_lor, R_lcmp, R_ifeq, R_icmpeq, R_goto, R_gotow, opt2_s, Int.reduceToNat, Int.toNat_natCast, k0, w1, w2, w3, w4, w5, w6, w7, i5, k4, i_X_at, Nat.reduceDiv, Nat.reduceMod, Nat.reduceLeDiff, Nat.reduceEqDiff, Int.reduceToNat, Int.reduceLT, Int.reduceLE, Int.reduceEq, Int.reduceNeg, Int.reduceAdd, Int.reduceSub, Int.reduceMul, not_true_eq_false, not_false_eq_true, true_or, or_true, or_false, false_or, false_and, and_false, w32_lit, lc_lt, lc_gt, lc_eq, lc_ge, lc_le, ite10, true_and, and_true, reduceIte, Nat.reduceLT, cats, catA, Nat.reduceAdd, Nat.zero_le, Nat.reduceLeDiff]
  simp (disch := omega) only [inA_t, true_and]
  refine C _ ?_
  simp only [b_law_law_1009, R_aload0, R_aload1, R_aload2, R_iload3, R_iconst, R_iadd, R_iald, R_i2l, R_lc, R_lshl, R_land, R_lor, R_lcmp, R_ifeq, R_icmpeq, R_goto, R_gotow, opt2_s, Int.reduceToNat, Int.toNat_natCast, k0', w1, w2, w3, w4, w5, w6, w7, s0, k61, i_M_at, Nat.reduceDiv, Nat.reduceMod, Nat.reduceLeDiff, Nat.reduceEqDiff, Int.reduceToNat, Int.reduceLT, Int.reduceLE, Int.reduceEq, Int.reduceNeg, Int.reduceAdd, Int.reduceSub, Int.reduceMul, not_true_eq_false, not_false_eq_true, true_or, or_true, or_false, false_or, false_and, and_false, w32_lit, lc_lt, lc_gt, lc_eq, lc_ge, lc_le, ite10, true_and, and_true, reduceIte, Nat.reduceLT, cats, catA, Nat.reduceAdd, Nat.zero_le, Nat.reduceLeDiff]
  simp (disch := omega) only [inA_t, true_and]
  refine D _ ?_
  simp only [R_aload0, R_aload1, R_aload2, R_iload3, R_iconst, R_iadd, R_iald, R_i2l, R_lc, R_lshl, R_land, R_lor, R_lcmp, R_ifeq, R_icmpeq, R_goto, R_gotow, opt2_s, Int.reduceToNat, Int.toNat_natCast, eq_self, Nat.reduceDiv, Nat.reduceMod, Nat.reduceLeDiff, Nat.reduceEqDiff, Int.reduceToNat, Int.reduceLT, Int.reduceLE, Int.reduceEq, Int.reduceNeg, Int.reduceAdd, Int.reduceSub, Int.reduceMul, not_true_eq_false, not_false_eq_true, true_or, or_true, or_false, false_or, false_and, and_false, w32_lit, lc_lt, lc_gt, lc_eq, lc_ge, lc_le, ite10, true_and, and_true, reduceIte, Nat.reduceLT, cats, catA, Nat.reduceAdd, Nat.zero_le, Nat.reduceLeDiff]
  exact nx g I1
set_option maxRecDepth 10000 in
theorem law_c15 (hn : n ≤ 4096) (h8 : 8 * c + 8 ≤ n) (hI : LI n xs c h) (nx : ∀ g, LI n xs (c + 1) g → Run sysS G0 1000 199 (sysS.2.1 199 1480) [vR (some 0), vR (some 4), vR (some 61), vI ((8 * c : Nat) : Int)] [] g Q) : Run sysS G0 1000 199 (sysS.2.1 199 1062) [vR (some 0), vR (some 4), vR (some 61), vI ((8 * c : Nat) : Int)] [] h Q := by
  have k0 : knd G0 h 0 = (20, n) := hI.2.2.2.2.2
  have i5 := hI.2.2.2.2.1
  have k4 := hI.1.kd (a := 4) rfl
  obtain ⟨w1, w2, w3, w4, w5, w6, w7, -⟩ := w7 (c := c) (by omega)
  obtain ⟨r, gx, g, o, C, D, s0, q0, A1, I1⟩ := law_step (kx := 16) (km := 187) (ax := [vR (some 4), vI (xs (8 * c + 1)).toInt, vI (xs (8 * c + 2)).toInt, vI (xs (8 * c + 3)).toInt]) (am := [vR (some 61), vI (xs (8 * c + 1)).toInt, vI (xs (8 * c + 2)).toInt, vI (xs (8 * c + 3)).toInt]) hI (fun hx hm R => Lk.le (by omega) (l_rules (inr_to _) (inr_to _) (inr_to _) R))
  obtain ⟨x, rfl⟩ : ∃ x, r = vI x := by obtain ⟨x, z⟩ := o.1 rfl; exact ⟨x, Option.some.inj z⟩
  have k0' : knd G0 gx 0 = (20, n) := q0
  have k61 := A1.kd (a := 61) rfl
  simp only [b_law_law_1062, R_aload0, R_aload1, R_aload2, R_iload3, R_iconst, R_iadd, R_iald, R_i2l, R_lc, R_lshl, R_land, R_lor, R_lcmp, R_ifeq, R_icmpeq, R_goto, R_gotow, opt2_s, Int.reduceToNat, Int.toNat_natCast, k0, w1, w2, w3, w4, w5, w6, w7, i5, k4, i_X_rules, Nat.reduceDiv, Nat.reduceMod, Nat.reduceLeDiff, Nat.reduceEqDiff, Int.reduceToNat, Int.reduceLT, Int.reduceLE, Int.reduceEq, Int.reduceNeg, Int.reduceAdd, Int.reduceSub, Int.reduceMul, not_true_eq_false, not_false_eq_true, true_or, or_true, or_false, false_or, false_and, and_false, w32_lit, lc_lt, lc_gt, lc_eq, lc_ge, lc_le, ite10, true_and, and_true, reduceIte, Nat.reduceLT, cats, catA, Nat.reduceAdd, Nat.zero_le, Nat.reduceLeDiff]
  simp (disch := omega) only [inA_t, true_and]
  refine C _ ?_
  simp only [b_law_law_1062, R_aload0, R_aload1, R_aload2, R_iload3, R_iconst, R_iadd, R_iald, R_i2l, R_lc, R_lshl, R_land, R_lor, R_lcmp, R_ifeq, R_icmpeq, R_goto, R_gotow, opt2_s, Int.reduceToNat, Int.toNat_natCast, k0', w1, w2, w3, w4, w5, w6, w7, s0, k61, i_M_rules, Nat.reduceDiv, Nat.reduceMod, Nat.reduceLeDiff, Nat.reduceEqDiff, Int.reduceToNat, Int.reduceLT, Int.reduceLE, Int.reduceEq, Int.reduceNeg, Int.reduceAdd, Int.reduceSub, Int.reduceMul, not_true_eq_false, not_false_eq_true, true_or, or_true, or_false, false_or, false_and, and_false, w32_lit, lc_lt, lc_gt, lc_eq, lc_ge, lc_le, ite10, true_and, and_true, reduceIte, Nat.reduceLT, cats, catA, Nat.reduceAdd, Nat.zero_le, Nat.reduceLeDiff]
  simp (disch := omega) only [inA_t, true_and]
  refine D _ ?_
  simp only [R_aload0, R_aload1, R_aload2, R_iload3, R_iconst, R_iadd, R_iald, R_i2l, R_lc, R_lshl, R_land, R_lor, R_lcmp, R_ifeq, R_icmpeq, R_goto, R_gotow, opt2_s, Int.reduceToNat, Int.toNat_natCast, eq_self, Nat.reduceDiv, Nat.reduceMod, Nat.reduceLeDiff, Nat.reduceEqDiff, Int.reduceToNat, Int.reduceLT, Int.reduceLE, Int.reduceEq, Int.reduceNeg, Int.reduceAdd, Int.reduceSub, Int.reduceMul, not_true_eq_false, not_false_eq_true, true_or, or_true, or_false, false_or, false_and, and_false, w32_lit, lc_lt, lc_gt, lc_eq, lc_ge, lc_le, ite10, true_and, and_true, reduceIte, Nat.reduceLT, cats, catA, Nat.reduceAdd, Nat.zero_le, Nat.reduceLeDiff]
  exact nx g I1
set_option maxRecDepth 10000 in
theorem law_c16 (hn : n ≤ 4096) (h8 : 8 * c + 8 ≤ n) (hI : LI n xs c h) (nx : ∀ g, LI n xs (c + 1) g → Run sysS G0 1000 199 (sysS.2.1 199 1480) [vR (some 0), vR (some 4), vR (some 61), vI ((8 * c : Nat) : Int)] [] g Q) : Run sysS G0 1000 199 (sysS.2.1 199 1105) [vR (some 0), vR (some 4), vR (some 61), vI ((8 * c : Nat) : Int)] [] h Q := by
  have k0 : knd G0 h 0 = (20, n) := hI.2.2.2.2.2
  have i5 := hI.2.2.2.2.1
  have k4 := hI.1.kd (a := 4) rfl
  obtain ⟨w1, w2, w3, w4, w5, w6, w7, -⟩ := w7 (c := c) (by omega)
  obtain ⟨r, gx, g, o, C, D, s0, q0, A1, I1⟩ := law_step (kx := 17) (km := 189) (ax := [vR (some 4), vI (xs (8 * c + 1)).toInt, vI (xs (8 * c + 2)).toInt]) (am := [vR (some 61), vI (xs (8 * c + 1)).toInt, vI (xs (8 * c + 2)).toInt]) hI (fun hx hm R => Lk.le (by omega) (l_off (inr_to _) (inr_to _) R))
  obtain ⟨x, rfl⟩ : ∃ x, r = vI x := by obtain ⟨x, z⟩ := o.1 rfl; exact ⟨x, Option.some.inj z⟩
  have k0' : knd G0 gx 0 = (20, n) := q0
  have k61 := A1.kd (a := 61) rfl
  simp only [b_law_law_1105, R_aload0, R_aload1, R_aload2, R_iload3, R_iconst, R_iadd, R_iald, R_i2l, R_lc, R_lshl, R_land, R_lor, R_lcmp, R_ifeq, R_icmpeq, R_goto, R_gotow, opt2_s, Int.reduceToNat, Int.toNat_natCast, k0, w1, w2, w3, w4, w5, w6, w7, i5, k4, i_X_off, Nat.reduceDiv, Nat.reduceMod, Nat.reduceLeDiff, Nat.reduceEqDiff, Int.reduceToNat, Int.reduceLT, Int.reduceLE, Int.reduceEq, Int.reduceNeg, Int.reduceAdd, Int.reduceSub, Int.reduceMul, not_true_eq_false, not_false_eq_true, true_or, or_true, or_false, false_or, false_and, and_false, w32_lit, lc_lt, lc_gt, lc_eq, lc_ge, lc_le, ite10, true_and, and_true, reduceIte, Nat.reduceLT, cats, catA, Nat.reduceAdd, Nat.zero_le, Nat.reduceLeDiff]
  simp (disch := omega) only [inA_t, true_and]
  refine C _ ?_
  simp only [b_law_law_1105, R_aload0, R_aload1, R_aload2, R_iload3, R_iconst, R_iadd, R_iald, R_i2l, R_lc, R_lshl, R_land, R_lor, R_lcmp, R_ifeq, R_icmpeq, R_goto, R_gotow, opt2_s, Int.reduceToNat, Int.toNat_natCast, k0', w1, w2, w3, w4, w5, w6, w7, s0, k61, i_M_off, Nat.reduceDiv, Nat.reduceMod, Nat.reduceLeDiff, Nat.reduceEqDiff, Int.reduceToNat, Int.reduceLT, Int.reduceLE, Int.reduceEq, Int.reduceNeg, Int.reduceAdd, Int.reduceSub, Int.reduceMul, not_true_eq_false, not_false_eq_true, true_or, or_true, or_false, false_or, false_and, and_false, w32_lit, lc_lt, lc_gt, lc_eq, lc_ge, lc_le, ite10, true_and, and_true, reduceIte, Nat.reduceLT, cats, catA, Nat.reduceAdd, Nat.zero_le, Nat.reduceLeDiff]
  simp (disch := omega) only [inA_t, true_and]
  refine D _ ?_
  simp only [R_aload0, R_aload1, R_aload2, R_iload3, R_iconst, R_iadd, R_iald, R_i2l, R_lc, R_lshl, R_land, R_lor, R_lcmp, R_ifeq, R_icmpeq, R_goto, R_gotow, opt2_s, Int.reduceToNat, Int.toNat_natCast, eq_self, Nat.reduceDiv, Nat.reduceMod, Nat.reduceLeDiff, Nat.reduceEqDiff, Int.reduceToNat, Int.reduceLT, Int.reduceLE, Int.reduceEq, Int.reduceNeg, Int.reduceAdd, Int.reduceSub, Int.reduceMul, not_true_eq_false, not_false_eq_true, true_or, or_true, or_false, false_or, false_and, and_false, w32_lit, lc_lt, lc_gt, lc_eq, lc_ge, lc_le, ite10, true_and, and_true, reduceIte, Nat.reduceLT, cats, catA, Nat.reduceAdd, Nat.zero_le, Nat.reduceLeDiff]
  exact nx g I1
set_option maxRecDepth 10000 in
theorem law_c17 (hn : n ≤ 4096) (h8 : 8 * c + 8 ≤ n) (hI : LI n xs c h) (nx : ∀ g, LI n xs (c + 1) g → Run sysS G0 1000 199 (sysS.2.1 199 1480) [vR (some 0), vR (some 4), vR (some 61), vI ((8 * c : Nat) : Int)] [] g Q) : Run sysS G0 1000 199 (sysS.2.1 199 1138) [vR (some 0), vR (some 4), vR (some 61), vI ((8 * c : Nat) : Int)] [] h Q := by
  have k0 : knd G0 h 0 = (20, n) := hI.2.2.2.2.2
  have i5 := hI.2.2.2.2.1
  have k4 := hI.1.kd (a := 4) rfl
  obtain ⟨w1, w2, w3, w4, w5, w6, w7, -⟩ := w7 (c := c) (by omega)
  obtain ⟨r, gx, g, o, C, D, s0, q0, A1, I1⟩ := law_step (kx := 18) (km := 190) (ax := [vR (some 4), vI (xs (8 * c + 1)).toInt, vI (xs (8 * c + 2)).toInt]) (am := [vR (some 61), vI (xs (8 * c + 1)).toInt, vI (xs (8 * c + 2)).toInt]) hI (fun hx hm R => Lk.le (by omega) (l_change (inr_to _) (inr_to _) R))
  obtain ⟨x, rfl⟩ : ∃ x, r = vI x := by obtain ⟨x, z⟩ := o.1 rfl; exact ⟨x, Option.some.inj z⟩
  have k0' : knd G0 gx 0 = (20, n) := q0
  have k61 := A1.kd (a := 61) rfl
  simp only [b_law_law_1138, R_aload0, R_aload1, R_aload2, R_iload3, R_iconst, R_iadd, R_iald, R_i2l, R_lc, R_lshl, R_land, R_lor, R_lcmp, R_ifeq, R_icmpeq, R_goto, R_gotow, opt2_s, Int.reduceToNat, Int.toNat_natCast, k0, w1, w2, w3, w4, w5, w6, w7, i5, k4, i_X_change, Nat.reduceDiv, Nat.reduceMod, Nat.reduceLeDiff, Nat.reduceEqDiff, Int.reduceToNat, Int.reduceLT, Int.reduceLE, Int.reduceEq, Int.reduceNeg, Int.reduceAdd, Int.reduceSub, Int.reduceMul, not_true_eq_false, not_false_eq_true, true_or, or_true, or_false, false_or, false_and, and_false, w32_lit, lc_lt, lc_gt, lc_eq, lc_ge, lc_le, ite10, true_and, and_true, reduceIte, Nat.reduceLT, cats, catA, Nat.reduceAdd, Nat.zero_le, Nat.reduceLeDiff]
  simp (disch := omega) only [inA_t, true_and]
  refine C _ ?_
  simp only [b_law_law_1138, R_aload0, R_aload1, R_aload2, R_iload3, R_iconst, R_iadd, R_iald, R_i2l, R_lc, R_lshl, R_land, R_lor, R_lcmp, R_ifeq, R_icmpeq, R_goto, R_gotow, opt2_s, Int.reduceToNat, Int.toNat_natCast, k0', w1, w2, w3, w4, w5, w6, w7, s0, k61, i_M_change_II, Nat.reduceDiv, Nat.reduceMod, Nat.reduceLeDiff, Nat.reduceEqDiff, Int.reduceToNat, Int.reduceLT, Int.reduceLE, Int.reduceEq, Int.reduceNeg, Int.reduceAdd, Int.reduceSub, Int.reduceMul, not_true_eq_false, not_false_eq_true, true_or, or_true, or_false, false_or, false_and, and_false, w32_lit, lc_lt, lc_gt, lc_eq, lc_ge, lc_le, ite10, true_and, and_true, reduceIte, Nat.reduceLT, cats, catA, Nat.reduceAdd, Nat.zero_le, Nat.reduceLeDiff]
  simp (disch := omega) only [inA_t, true_and]
  refine D _ ?_
  simp only [R_aload0, R_aload1, R_aload2, R_iload3, R_iconst, R_iadd, R_iald, R_i2l, R_lc, R_lshl, R_land, R_lor, R_lcmp, R_ifeq, R_icmpeq, R_goto, R_gotow, opt2_s, Int.reduceToNat, Int.toNat_natCast, eq_self, Nat.reduceDiv, Nat.reduceMod, Nat.reduceLeDiff, Nat.reduceEqDiff, Int.reduceToNat, Int.reduceLT, Int.reduceLE, Int.reduceEq, Int.reduceNeg, Int.reduceAdd, Int.reduceSub, Int.reduceMul, not_true_eq_false, not_false_eq_true, true_or, or_true, or_false, false_or, false_and, and_false, w32_lit, lc_lt, lc_gt, lc_eq, lc_ge, lc_le, ite10, true_and, and_true, reduceIte, Nat.reduceLT, cats, catA, Nat.reduceAdd, Nat.zero_le, Nat.reduceLeDiff]
  exact nx g I1
set_option maxRecDepth 10000 in
theorem law_c18 (hn : n ≤ 4096) (h8 : 8 * c + 8 ≤ n) (hI : LI n xs c h) (nx : ∀ g, LI n xs (c + 1) g → Run sysS G0 1000 199 (sysS.2.1 199 1480) [vR (some 0), vR (some 4), vR (some 61), vI ((8 * c : Nat) : Int)] [] g Q) : Run sysS G0 1000 199 (sysS.2.1 199 1171) [vR (some 0), vR (some 4), vR (some 61), vI ((8 * c : Nat) : Int)] [] h Q := by
  have k0 : knd G0 h 0 = (20, n) := hI.2.2.2.2.2
  have i5 := hI.2.2.2.2.1
  have k4 := hI.1.kd (a := 4) rfl
  obtain ⟨w1, w2, w3, w4, w5, w6, w7, -⟩ := w7 (c := c) (by omega)
  obtain ⟨r, gx, g, o, C, D, s0, q0, A1, I1⟩ := law_step (kx := 19) (km := 191) (ax := [vR (some 4), vI (xs (8 * c + 1)).toInt]) (am := [vR (some 61), vI (xs (8 * c + 1)).toInt]) hI (fun hx hm R => Lk.le (by omega) (l_when (inr_to _) R))
  obtain ⟨x, rfl⟩ : ∃ x, r = vL x := by obtain ⟨x, z⟩ := o.2 rfl; exact ⟨x, Option.some.inj z⟩
  have k0' : knd G0 gx 0 = (20, n) := q0
  have k61 := A1.kd (a := 61) rfl
  simp only [b_law_law_1171, R_aload0, R_aload1, R_aload2, R_iload3, R_iconst, R_iadd, R_iald, R_i2l, R_lc, R_lshl, R_land, R_lor, R_lcmp, R_ifeq, R_icmpeq, R_goto, R_gotow, opt2_s, Int.reduceToNat, Int.toNat_natCast, k0, w1, w2, w3, w4, w5, w6, w7, i5, k4, i_X_when, Nat.reduceDiv, Nat.reduceMod, Nat.reduceLeDiff, Nat.reduceEqDiff, Int.reduceToNat, Int.reduceLT, Int.reduceLE, Int.reduceEq, Int.reduceNeg, Int.reduceAdd, Int.reduceSub, Int.reduceMul, not_true_eq_false, not_false_eq_true, true_or, or_true, or_false, false_or, false_and, and_false, w32_lit, lc_lt, lc_gt, lc_eq, lc_ge, lc_le, ite10, true_and, and_true, reduceIte, Nat.reduceLT, cats, catA, Nat.reduceAdd, Nat.zero_le, Nat.reduceLeDiff]
  simp (disch := omega) only [inA_t, true_and]
  refine C _ ?_
  simp only [b_law_law_1171, R_aload0, R_aload1, R_aload2, R_iload3, R_iconst, R_iadd, R_iald, R_i2l, R_lc, R_lshl, R_land, R_lor, R_lcmp, R_ifeq, R_icmpeq, R_goto, R_gotow, opt2_s, Int.reduceToNat, Int.toNat_natCast, k0', w1, w2, w3, w4, w5, w6, w7, s0, k61, i_M_when, Nat.reduceDiv, Nat.reduceMod, Nat.reduceLeDiff, Nat.reduceEqDiff, Int.reduceToNat, Int.reduceLT, Int.reduceLE, Int.reduceEq, Int.reduceNeg, Int.reduceAdd, Int.reduceSub, Int.reduceMul, not_true_eq_false, not_false_eq_true, true_or, or_true, or_false, false_or, false_and, and_false, w32_lit, lc_lt, lc_gt, lc_eq, lc_ge, lc_le, ite10, true_and, and_true, reduceIte, Nat.reduceLT, cats, catA, Nat.reduceAdd, Nat.zero_le, Nat.reduceLeDiff]
  simp (disch := omega) only [inA_t, true_and]
  refine D _ ?_
  simp only [R_aload0, R_aload1, R_aload2, R_iload3, R_iconst, R_iadd, R_iald, R_i2l, R_lc, R_lshl, R_land, R_lor, R_lcmp, R_ifeq, R_icmpeq, R_goto, R_gotow, opt2_s, Int.reduceToNat, Int.toNat_natCast, eq_self, Nat.reduceDiv, Nat.reduceMod, Nat.reduceLeDiff, Nat.reduceEqDiff, Int.reduceToNat, Int.reduceLT, Int.reduceLE, Int.reduceEq, Int.reduceNeg, Int.reduceAdd, Int.reduceSub, Int.reduceMul, not_true_eq_false, not_false_eq_true, true_or, or_true, or_false, false_or, false_and, and_false, w32_lit, lc_lt, lc_gt, lc_eq, lc_ge, lc_le, ite10, true_and, and_true, reduceIte, Nat.reduceLT, cats, catA, Nat.reduceAdd, Nat.zero_le, Nat.reduceLeDiff]
  exact nx g I1
set_option maxRecDepth 10000 in
theorem law_c19 (hn : n ≤ 4096) (h8 : 8 * c + 8 ≤ n) (hI : LI n xs c h) (nx : ∀ g, LI n xs (c + 1) g → Run sysS G0 1000 199 (sysS.2.1 199 1480) [vR (some 0), vR (some 4), vR (some 61), vI ((8 * c : Nat) : Int)] [] g Q) : Run sysS G0 1000 199 (sysS.2.1 199 1195) [vR (some 0), vR (some 4), vR (some 61), vI ((8 * c : Nat) : Int)] [] h Q := by
  have k0 : knd G0 h 0 = (20, n) := hI.2.2.2.2.2
  have i5 := hI.2.2.2.2.1
  have k4 := hI.1.kd (a := 4) rfl
  obtain ⟨w1, w2, w3, w4, w5, w6, w7, -⟩ := w7 (c := c) (by omega)
  obtain ⟨r, gx, g, o, C, D, s0, q0, A1, I1⟩ := law_step (kx := 20) (km := 192) (ax := [vR (some 4), vI (xs (8 * c + 1)).toInt, vI (xs (8 * c + 2)).toInt]) (am := [vR (some 61), vI (xs (8 * c + 1)).toInt, vI (xs (8 * c + 2)).toInt]) hI (fun hx hm R => Lk.le (by omega) (l_failed (inr_to _) (inr_to _) R))
  obtain ⟨x, rfl⟩ : ∃ x, r = vI x := by obtain ⟨x, z⟩ := o.1 rfl; exact ⟨x, Option.some.inj z⟩
  have k0' : knd G0 gx 0 = (20, n) := q0
  have k61 := A1.kd (a := 61) rfl
  simp only [b_law_law_1195, R_aload0, R_aload1, R_aload2, R_iload3, R_iconst, R_iadd, R_iald, R_i2l, R_lc, R_lshl, R_land, R_lor, R_lcmp, R_ifeq, R_icmpeq, R_goto, R_gotow, opt2_s, Int.reduceToNat, Int.toNat_natCast, k0, w1, w2, w3, w4, w5, w6, w7, i5, k4, i_X_failed, Nat.reduceDiv, Nat.reduceMod, Nat.reduceLeDiff, Nat.reduceEqDiff, Int.reduceToNat, Int.reduceLT, Int.reduceLE, Int.reduceEq, Int.reduceNeg, Int.reduceAdd, Int.reduceSub, Int.reduceMul, not_true_eq_false, not_false_eq_true, true_or, or_true, or_false, false_or, false_and, and_false, w32_lit, lc_lt, lc_gt, lc_eq, lc_ge, lc_le, ite10, true_and, and_true, reduceIte, Nat.reduceLT, cats, catA, Nat.reduceAdd, Nat.zero_le, Nat.reduceLeDiff]
  simp (disch := omega) only [inA_t, true_and]
  refine C _ ?_
  simp only [b_law_law_1195, R_aload0, R_aload1, R_aload2, R_iload3, R_iconst, R_iadd, R_iald, R_i2l, R_lc, R_lshl, R_land, R_lor, R_lcmp, R_ifeq, R_icmpeq, R_goto, R_gotow, opt2_s, Int.reduceToNat, Int.toNat_natCast, k0', w1, w2, w3, w4, w5, w6, w7, s0, k61, i_M_failed_II, Nat.reduceDiv, Nat.reduceMod, Nat.reduceLeDiff, Nat.reduceEqDiff, Int.reduceToNat, Int.reduceLT, Int.reduceLE, Int.reduceEq, Int.reduceNeg, Int.reduceAdd, Int.reduceSub, Int.reduceMul, not_true_eq_false, not_false_eq_true, true_or, or_true, or_false, false_or, false_and, and_false, w32_lit, lc_lt, lc_gt, lc_eq, lc_ge, lc_le, ite10, true_and, and_true, reduceIte, Nat.reduceLT, cats, catA, Nat.reduceAdd, Nat.zero_le, Nat.reduceLeDiff]
  simp (disch := omega) only [inA_t, true_and]
  refine D _ ?_
  simp only [R_aload0, R_aload1, R_aload2, R_iload3, R_iconst, R_iadd, R_iald, R_i2l, R_lc, R_lshl, R_land, R_lor, R_lcmp, R_ifeq, R_icmpeq, R_goto, R_gotow, opt2_s, Int.reduceToNat, Int.toNat_natCast, eq_self, Nat.reduceDiv, Nat.reduceMod, Nat.reduceLeDiff, Nat.reduceEqDiff, Int.reduceToNat, Int.reduceLT, Int.reduceLE, Int.reduceEq, Int.reduceNeg, Int.reduceAdd, Int.reduceSub, Int.reduceMul, not_true_eq_false, not_false_eq_true, true_or, or_true, or_false, false_or, false_and, and_false, w32_lit, lc_lt, lc_gt, lc_eq, lc_ge, lc_le, ite10, true_and, and_true, reduceIte, Nat.reduceLT, cats, catA, Nat.reduceAdd, Nat.zero_le, Nat.reduceLeDiff]
  exact nx g I1
set_option maxRecDepth 10000 in
theorem law_c20 (hn : n ≤ 4096) (h8 : 8 * c + 8 ≤ n) (hI : LI n xs c h) (nx : ∀ g, LI n xs (c + 1) g → Run sysS G0 1000 199 (sysS.2.1 199 1480) [vR (some 0), vR (some 4), vR (some 61), vI ((8 * c : Nat) : Int)] [] g Q) : Run sysS G0 1000 199 (sysS.2.1 199 1228) [vR (some 0), vR (some 4), vR (some 61), vI ((8 * c : Nat) : Int)] [] h Q := by
  have k0 : knd G0 h 0 = (20, n) := hI.2.2.2.2.2
  have i5 := hI.2.2.2.2.1
  have k4 := hI.1.kd (a := 4) rfl
  obtain ⟨w1, w2, w3, w4, w5, w6, w7, -⟩ := w7 (c := c) (by omega)
  obtain ⟨r, gx, g, o, C, D, s0, q0, A1, I1⟩ := law_step (kx := 21) (km := 193) (ax := [vR (some 4), vI (xs (8 * c + 1)).toInt, vL (jJ (xs (8 * c + 2)).toInt (xs (8 * c + 3)).toInt), vL (jJ (xs (8 * c + 4)).toInt (xs (8 * c + 5)).toInt), vL (jJ (xs (8 * c + 6)).toInt (xs (8 * c + 7)).toInt)]) (am := [vR (some 61), vI (xs (8 * c + 1)).toInt, vL (jJ (xs (8 * c + 2)).toInt (xs (8 * c + 3)).toInt), vL (jJ (xs (8 * c + 4)).toInt (xs (8 * c + 5)).toInt), vL (jJ (xs (8 * c + 6)).toInt (xs (8 * c + 7)).toInt)]) hI (fun hx hm R => Lk.le (by omega) (l_tries (inr_to _) R))
  obtain ⟨x, rfl⟩ : ∃ x, r = vI x := by obtain ⟨x, z⟩ := o.1 rfl; exact ⟨x, Option.some.inj z⟩
  have k0' : knd G0 gx 0 = (20, n) := q0
  have k61 := A1.kd (a := 61) rfl
  simp only [b_law_law_1228, R_aload0, R_aload1, R_aload2, R_iload3, R_iconst, R_iadd, R_iald, R_i2l, R_lc, R_lshl, R_land, R_lor, R_lcmp, R_ifeq, R_icmpeq, R_goto, R_gotow, opt2_s, Int.reduceToNat, Int.toNat_natCast, k0, w1, w2, w3, w4, w5, w6, w7, i5, k4, i_X_tries, Nat.reduceDiv, Nat.reduceMod, Nat.reduceLeDiff, Nat.reduceEqDiff, Int.reduceToNat, Int.reduceLT, Int.reduceLE, Int.reduceEq, Int.reduceNeg, Int.reduceAdd, Int.reduceSub, Int.reduceMul, not_true_eq_false, not_false_eq_true, true_or, or_true, or_false, false_or, false_and, and_false, w32_lit, lc_lt, lc_gt, lc_eq, lc_ge, lc_le, ite10, true_and, and_true, reduceIte, Nat.reduceLT, cats, catA, Nat.reduceAdd, Nat.zero_le, Nat.reduceLeDiff]
  simp (disch := omega) only [inA_t, true_and]
  refine C _ ?_
  simp only [b_law_law_1228, R_aload0, R_aload1, R_aload2, R_iload3, R_iconst, R_iadd, R_iald, R_i2l, R_lc, R_lshl, R_land, R_lor, R_lcmp, R_ifeq, R_icmpeq, R_goto, R_gotow, opt2_s, Int.reduceToNat, Int.toNat_natCast, k0', w1, w2, w3, w4, w5, w6, w7, s0, k61, i_M_tries, Nat.reduceDiv, Nat.reduceMod, Nat.reduceLeDiff, Nat.reduceEqDiff, Int.reduceToNat, Int.reduceLT, Int.reduceLE, Int.reduceEq, Int.reduceNeg, Int.reduceAdd, Int.reduceSub, Int.reduceMul, not_true_eq_false, not_false_eq_true, true_or, or_true, or_false, false_or, false_and, and_false, w32_lit, lc_lt, lc_gt, lc_eq, lc_ge, lc_le, ite10, true_and, and_true, reduceIte, Nat.reduceLT, cats, catA, Nat.reduceAdd, Nat.zero_le, Nat.reduceLeDiff]
  simp (disch := omega) only [inA_t, true_and]
  refine D _ ?_
  simp only [R_aload0, R_aload1, R_aload2, R_iload3, R_iconst, R_iadd, R_iald, R_i2l, R_lc, R_lshl, R_land, R_lor, R_lcmp, R_ifeq, R_icmpeq, R_goto, R_gotow, opt2_s, Int.reduceToNat, Int.toNat_natCast, eq_self, Nat.reduceDiv, Nat.reduceMod, Nat.reduceLeDiff, Nat.reduceEqDiff, Int.reduceToNat, Int.reduceLT, Int.reduceLE, Int.reduceEq, Int.reduceNeg, Int.reduceAdd, Int.reduceSub, Int.reduceMul, not_true_eq_false, not_false_eq_true, true_or, or_true, or_false, false_or, false_and, and_false, w32_lit, lc_lt, lc_gt, lc_eq, lc_ge, lc_le, ite10, true_and, and_true, reduceIte, Nat.reduceLT, cats, catA, Nat.reduceAdd, Nat.zero_le, Nat.reduceLeDiff]
  exact nx g I1
set_option maxRecDepth 10000 in
theorem law_c21 (hn : n ≤ 4096) (h8 : 8 * c + 8 ≤ n) (hI : LI n xs c h) (nx : ∀ g, LI n xs (c + 1) g → Run sysS G0 1000 199 (sysS.2.1 199 1480) [vR (some 0), vR (some 4), vR (some 61), vI ((8 * c : Nat) : Int)] [] g Q) : Run sysS G0 1000 199 (sysS.2.1 199 1375) [vR (some 0), vR (some 4), vR (some 61), vI ((8 * c : Nat) : Int)] [] h Q := by
  have k0 : knd G0 h 0 = (20, n) := hI.2.2.2.2.2
  have i5 := hI.2.2.2.2.1
  have k4 := hI.1.kd (a := 4) rfl
  obtain ⟨w1, w2, w3, w4, w5, w6, w7, -⟩ := w7 (c := c) (by omega)
  obtain ⟨r, gx, g, o, C, D, s0, q0, A1, I1⟩ := law_step (kx := 22) (km := 194) (ax := [vR (some 4)]) (am := [vR (some 61)]) hI (fun hx hm R => Lk.le (by omega) (l_mark R))
  obtain ⟨x, rfl⟩ : ∃ x, r = vI x := by obtain ⟨x, z⟩ := o.1 rfl; exact ⟨x, Option.some.inj z⟩
  have k0' : knd G0 gx 0 = (20, n) := q0
  have k61 := A1.kd (a := 61) rfl
  simp only [b_law_law_1375, R_aload0, R_aload1, R_aload2, R_iload3, R_iconst, R_iadd, R_iald, R_i2l, R_lc, R_lshl, R_land, R_lor, R_lcmp, R_ifeq, R_icmpeq, R_goto, R_gotow, opt2_s, Int.reduceToNat, Int.toNat_natCast, k0, w1, w2, w3, w4, w5, w6, w7, i5, k4, i_X_mark, Nat.reduceDiv, Nat.reduceMod, Nat.reduceLeDiff, Nat.reduceEqDiff, Int.reduceToNat, Int.reduceLT, Int.reduceLE, Int.reduceEq, Int.reduceNeg, Int.reduceAdd, Int.reduceSub, Int.reduceMul, not_true_eq_false, not_false_eq_true, true_or, or_true, or_false, false_or, false_and, and_false, w32_lit, lc_lt, lc_gt, lc_eq, lc_ge, lc_le, ite10, true_and, and_true, reduceIte, Nat.reduceLT, cats, catA, Nat.reduceAdd, Nat.zero_le, Nat.reduceLeDiff]
  refine C _ ?_
  simp only [b_law_law_1375, R_aload0, R_aload1, R_aload2, R_iload3, R_iconst, R_iadd, R_iald, R_i2l, R_lc, R_lshl, R_land, R_lor, R_lcmp, R_ifeq, R_icmpeq, R_goto, R_gotow, opt2_s, Int.reduceToNat, Int.toNat_natCast, k0', w1, w2, w3, w4, w5, w6, w7, s0, k61, i_M_mark, Nat.reduceDiv, Nat.reduceMod, Nat.reduceLeDiff, Nat.reduceEqDiff, Int.reduceToNat, Int.reduceLT, Int.reduceLE, Int.reduceEq, Int.reduceNeg, Int.reduceAdd, Int.reduceSub, Int.reduceMul, not_true_eq_false, not_false_eq_true, true_or, or_true, or_false, false_or, false_and, and_false, w32_lit, lc_lt, lc_gt, lc_eq, lc_ge, lc_le, ite10, true_and, and_true, reduceIte, Nat.reduceLT, cats, catA, Nat.reduceAdd, Nat.zero_le, Nat.reduceLeDiff]
  refine D _ ?_
  simp only [R_aload0, R_aload1, R_aload2, R_iload3, R_iconst, R_iadd, R_iald, R_i2l, R_lc, R_lshl, R_land, R_lor, R_lcmp, R_ifeq, R_icmpeq, R_goto, R_gotow, opt2_s, Int.reduceToNat, Int.toNat_natCast, eq_self, Nat.reduceDiv, Nat.reduceMod, Nat.reduceLeDiff, Nat.reduceEqDiff, Int.reduceToNat, Int.reduceLT, Int.reduceLE, Int.reduceEq, Int.reduceNeg, Int.reduceAdd, Int.reduceSub, Int.reduceMul, not_true_eq_false, not_false_eq_true, true_or, or_true, or_false, false_or, false_and, and_false, w32_lit, lc_lt, lc_gt, lc_eq, lc_ge, lc_le, ite10, true_and, and_true, reduceIte, Nat.reduceLT, cats, catA, Nat.reduceAdd, Nat.zero_le, Nat.reduceLeDiff]
  exact nx g I1
set_option maxRecDepth 10000 in
theorem law_c22 (hn : n ≤ 4096) (h8 : 8 * c + 8 ≤ n) (hI : LI n xs c h) (nx : ∀ g, LI n xs (c + 1) g → Run sysS G0 1000 199 (sysS.2.1 199 1480) [vR (some 0), vR (some 4), vR (some 61), vI ((8 * c : Nat) : Int)] [] g Q) : Run sysS G0 1000 199 (sysS.2.1 199 1388) [vR (some 0), vR (some 4), vR (some 61), vI ((8 * c : Nat) : Int)] [] h Q := by
  have k0 : knd G0 h 0 = (20, n) := hI.2.2.2.2.2
  have i5 := hI.2.2.2.2.1
  have k4 := hI.1.kd (a := 4) rfl
  obtain ⟨w1, w2, w3, w4, w5, w6, w7, -⟩ := w7 (c := c) (by omega)
  obtain ⟨r, gx, g, o, C, D, s0, q0, A1, I1⟩ := law_step (kx := 23) (km := 195) (ax := [vR (some 4), vI (xs (8 * c + 1)).toInt]) (am := [vR (some 61), vI (xs (8 * c + 1)).toInt]) hI (fun hx hm R => Lk.le (by omega) (l_restore (inr_to _) R))
  obtain ⟨x, rfl⟩ : ∃ x, r = vI x := by obtain ⟨x, z⟩ := o.1 rfl; exact ⟨x, Option.some.inj z⟩
  have k0' : knd G0 gx 0 = (20, n) := q0
  have k61 := A1.kd (a := 61) rfl
  simp only [b_law_law_1388, R_aload0, R_aload1, R_aload2, R_iload3, R_iconst, R_iadd, R_iald, R_i2l, R_lc, R_lshl, R_land, R_lor, R_lcmp, R_ifeq, R_icmpeq, R_goto, R_gotow, opt2_s, Int.reduceToNat, Int.toNat_natCast, k0, w1, w2, w3, w4, w5, w6, w7, i5, k4, i_X_restore, Nat.reduceDiv, Nat.reduceMod, Nat.reduceLeDiff, Nat.reduceEqDiff, Int.reduceToNat, Int.reduceLT, Int.reduceLE, Int.reduceEq, Int.reduceNeg, Int.reduceAdd, Int.reduceSub, Int.reduceMul, not_true_eq_false, not_false_eq_true, true_or, or_true, or_false, false_or, false_and, and_false, w32_lit, lc_lt, lc_gt, lc_eq, lc_ge, lc_le, ite10, true_and, and_true, reduceIte, Nat.reduceLT, cats, catA, Nat.reduceAdd, Nat.zero_le, Nat.reduceLeDiff]
  simp (disch := omega) only [inA_t, true_and]
  refine C _ ?_
  simp only [b_law_law_1388, R_aload0, R_aload1, R_aload2, R_iload3, R_iconst, R_iadd, R_iald, R_i2l, R_lc, R_lshl, R_land, R_lor, R_lcmp, R_ifeq, R_icmpeq, R_goto, R_gotow, opt2_s, Int.reduceToNat, Int.toNat_natCast, k0', w1, w2, w3, w4, w5, w6, w7, s0, k61, i_M_restore, Nat.reduceDiv, Nat.reduceMod, Nat.reduceLeDiff, Nat.reduceEqDiff, Int.reduceToNat, Int.reduceLT, Int.reduceLE, Int.reduceEq, Int.reduceNeg, Int.reduceAdd, Int.reduceSub, Int.reduceMul, not_true_eq_false, not_false_eq_true, true_or, or_true, or_false, false_or, false_and, and_false, w32_lit, lc_lt, lc_gt, lc_eq, lc_ge, lc_le, ite10, true_and, and_true, reduceIte, Nat.reduceLT, cats, catA, Nat.reduceAdd, Nat.zero_le, Nat.reduceLeDiff]
  simp (disch := omega) only [inA_t, true_and]
  refine D _ ?_
  simp only [R_aload0, R_aload1, R_aload2, R_iload3, R_iconst, R_iadd, R_iald, R_i2l, R_lc, R_lshl, R_land, R_lor, R_lcmp, R_ifeq, R_icmpeq, R_goto, R_gotow, opt2_s, Int.reduceToNat, Int.toNat_natCast, eq_self, Nat.reduceDiv, Nat.reduceMod, Nat.reduceLeDiff, Nat.reduceEqDiff, Int.reduceToNat, Int.reduceLT, Int.reduceLE, Int.reduceEq, Int.reduceNeg, Int.reduceAdd, Int.reduceSub, Int.reduceMul, not_true_eq_false, not_false_eq_true, true_or, or_true, or_false, false_or, false_and, and_false, w32_lit, lc_lt, lc_gt, lc_eq, lc_ge, lc_le, ite10, true_and, and_true, reduceIte, Nat.reduceLT, cats, catA, Nat.reduceAdd, Nat.zero_le, Nat.reduceLeDiff]
  exact nx g I1
set_option maxRecDepth 10000 in
theorem law_c23 (hn : n ≤ 4096) (h8 : 8 * c + 8 ≤ n) (hI : LI n xs c h) (nx : ∀ g, LI n xs (c + 1) g → Run sysS G0 1000 199 (sysS.2.1 199 1480) [vR (some 0), vR (some 4), vR (some 61), vI ((8 * c : Nat) : Int)] [] g Q) : Run sysS G0 1000 199 (sysS.2.1 199 1411) [vR (some 0), vR (some 4), vR (some 61), vI ((8 * c : Nat) : Int)] [] h Q := by
  have k0 : knd G0 h 0 = (20, n) := hI.2.2.2.2.2
  have i5 := hI.2.2.2.2.1
  have k4 := hI.1.kd (a := 4) rfl
  obtain ⟨w1, w2, w3, w4, w5, w6, w7, -⟩ := w7 (c := c) (by omega)
  obtain ⟨r, gx, g, o, C, D, s0, q0, A1, I1⟩ := law_step (kx := 24) (km := 196) (ax := [vR (some 4), vI (xs (8 * c + 1)).toInt, vI (xs (8 * c + 2)).toInt]) (am := [vR (some 61), vI (xs (8 * c + 1)).toInt, vI (xs (8 * c + 2)).toInt]) hI (fun hx hm R => Lk.le (by omega) (l_same (inr_to _) (inr_to _) R))
  obtain ⟨x, rfl⟩ : ∃ x, r = vI x := by obtain ⟨x, z⟩ := o.1 rfl; exact ⟨x, Option.some.inj z⟩
  have k0' : knd G0 gx 0 = (20, n) := q0
  have k61 := A1.kd (a := 61) rfl
  simp only [b_law_law_1411, R_aload0, R_aload1, R_aload2, R_iload3, R_iconst, R_iadd, R_iald, R_i2l, R_lc, R_lshl, R_land, R_lor, R_lcmp, R_ifeq, R_icmpeq, R_goto, R_gotow, opt2_s, Int.reduceToNat, Int.toNat_natCast, k0, w1, w2, w3, w4, w5, w6, w7, i5, k4, i_X_same, Nat.reduceDiv, Nat.reduceMod, Nat.reduceLeDiff, Nat.reduceEqDiff, Int.reduceToNat, Int.reduceLT, Int.reduceLE, Int.reduceEq, Int.reduceNeg, Int.reduceAdd, Int.reduceSub, Int.reduceMul, not_true_eq_false, not_false_eq_true, true_or, or_true, or_false, false_or, false_and, and_false, w32_lit, lc_lt, lc_gt, lc_eq, lc_ge, lc_le, ite10, true_and, and_true, reduceIte, Nat.reduceLT, cats, catA, Nat.reduceAdd, Nat.zero_le, Nat.reduceLeDiff]
  simp (disch := omega) only [inA_t, true_and]
  refine C _ ?_
  simp only [b_law_law_1411, R_aload0, R_aload1, R_aload2, R_iload3, R_iconst, R_iadd, R_iald, R_i2l, R_lc, R_lshl, R_land, R_lor, R_lcmp, R_ifeq, R_icmpeq, R_goto, R_gotow, opt2_s, Int.reduceToNat, Int.toNat_natCast, k0', w1, w2, w3, w4, w5, w6, w7, s0, k61, i_M_same_II, Nat.reduceDiv, Nat.reduceMod, Nat.reduceLeDiff, Nat.reduceEqDiff, Int.reduceToNat, Int.reduceLT, Int.reduceLE, Int.reduceEq, Int.reduceNeg, Int.reduceAdd, Int.reduceSub, Int.reduceMul, not_true_eq_false, not_false_eq_true, true_or, or_true, or_false, false_or, false_and, and_false, w32_lit, lc_lt, lc_gt, lc_eq, lc_ge, lc_le, ite10, true_and, and_true, reduceIte, Nat.reduceLT, cats, catA, Nat.reduceAdd, Nat.zero_le, Nat.reduceLeDiff]
  simp (disch := omega) only [inA_t, true_and]
  refine D _ ?_
  simp only [R_aload0, R_aload1, R_aload2, R_iload3, R_iconst, R_iadd, R_iald, R_i2l, R_lc, R_lshl, R_land, R_lor, R_lcmp, R_ifeq, R_icmpeq, R_goto, R_gotow, opt2_s, Int.reduceToNat, Int.toNat_natCast, eq_self, Nat.reduceDiv, Nat.reduceMod, Nat.reduceLeDiff, Nat.reduceEqDiff, Int.reduceToNat, Int.reduceLT, Int.reduceLE, Int.reduceEq, Int.reduceNeg, Int.reduceAdd, Int.reduceSub, Int.reduceMul, not_true_eq_false, not_false_eq_true, true_or, or_true, or_false, false_or, false_and, and_false, w32_lit, lc_lt, lc_gt, lc_eq, lc_ge, lc_le, ite10, true_and, and_true, reduceIte, Nat.reduceLT, cats, catA, Nat.reduceAdd, Nat.zero_le, Nat.reduceLeDiff]
  exact nx g I1
set_option maxRecDepth 10000 in
theorem law_c24 (hn : n ≤ 4096) (h8 : 8 * c + 8 ≤ n) (hI : LI n xs c h) (nx : ∀ g, LI n xs (c + 1) g → Run sysS G0 1000 199 (sysS.2.1 199 1480) [vR (some 0), vR (some 4), vR (some 61), vI ((8 * c : Nat) : Int)] [] g Q) : Run sysS G0 1000 199 (sysS.2.1 199 1444) [vR (some 0), vR (some 4), vR (some 61), vI ((8 * c : Nat) : Int)] [] h Q := by
  have k0 : knd G0 h 0 = (20, n) := hI.2.2.2.2.2
  have i5 := hI.2.2.2.2.1
  have k4 := hI.1.kd (a := 4) rfl
  obtain ⟨w1, w2, w3, w4, w5, w6, w7, -⟩ := w7 (c := c) (by omega)
  obtain ⟨r, gx, g, o, C, D, s0, q0, A1, I1⟩ := law_step (kx := 25) (km := 197) (ax := [vR (some 4), vI (xs (8 * c + 1)).toInt]) (am := [vR (some 61), vI (xs (8 * c + 1)).toInt]) hI (fun hx hm R => Lk.le (by omega) (l_count (inr_to _) R))
  obtain ⟨x, rfl⟩ : ∃ x, r = vI x := by obtain ⟨x, z⟩ := o.1 rfl; exact ⟨x, Option.some.inj z⟩
  have k0' : knd G0 gx 0 = (20, n) := q0
  have k61 := A1.kd (a := 61) rfl
  simp only [b_law_law_1444, R_aload0, R_aload1, R_aload2, R_iload3, R_iconst, R_iadd, R_iald, R_i2l, R_lc, R_lshl, R_land, R_lor, R_lcmp, R_ifeq, R_icmpeq, R_goto, R_gotow, opt2_s, Int.reduceToNat, Int.toNat_natCast, k0, w1, w2, w3, w4, w5, w6, w7, i5, k4, i_X_count, Nat.reduceDiv, Nat.reduceMod, Nat.reduceLeDiff, Nat.reduceEqDiff, Int.reduceToNat, Int.reduceLT, Int.reduceLE, Int.reduceEq, Int.reduceNeg, Int.reduceAdd, Int.reduceSub, Int.reduceMul, not_true_eq_false, not_false_eq_true, true_or, or_true, or_false, false_or, false_and, and_false, w32_lit, lc_lt, lc_gt, lc_eq, lc_ge, lc_le, ite10, true_and, and_true, reduceIte, Nat.reduceLT, cats, catA, Nat.reduceAdd, Nat.zero_le, Nat.reduceLeDiff]
  simp (disch := omega) only [inA_t, true_and]
  refine C _ ?_
  simp only [b_law_law_1444, R_aload0, R_aload1, R_aload2, R_iload3, R_iconst, R_iadd, R_iald, R_i2l, R_lc, R_lshl, R_land, R_lor, R_lcmp, R_ifeq, R_icmpeq, R_goto, R_gotow, opt2_s, Int.reduceToNat, Int.toNat_natCast, k0', w1, w2, w3, w4, w5, w6, w7, s0, k61, i_M_count, Nat.reduceDiv, Nat.reduceMod, Nat.reduceLeDiff, Nat.reduceEqDiff, Int.reduceToNat, Int.reduceLT, Int.reduceLE, Int.reduceEq, Int.reduceNeg, Int.reduceAdd, Int.reduceSub, Int.reduceMul, not_true_eq_false, not_false_eq_true, true_or, or_true, or_false, false_or, false_and, and_false, w32_lit, lc_lt, lc_gt, lc_eq, lc_ge, lc_le, ite10, true_and, and_true, reduceIte, Nat.reduceLT, cats, catA, Nat.reduceAdd, Nat.zero_le, Nat.reduceLeDiff]
  simp (disch := omega) only [inA_t, true_and]
  refine D _ ?_
  simp only [R_aload0, R_aload1, R_aload2, R_iload3, R_iconst, R_iadd, R_iald, R_i2l, R_lc, R_lshl, R_land, R_lor, R_lcmp, R_ifeq, R_icmpeq, R_goto, R_gotow, opt2_s, Int.reduceToNat, Int.toNat_natCast, eq_self, Nat.reduceDiv, Nat.reduceMod, Nat.reduceLeDiff, Nat.reduceEqDiff, Int.reduceToNat, Int.reduceLT, Int.reduceLE, Int.reduceEq, Int.reduceNeg, Int.reduceAdd, Int.reduceSub, Int.reduceMul, not_true_eq_false, not_false_eq_true, true_or, or_true, or_false, false_or, false_and, and_false, w32_lit, lc_lt, lc_gt, lc_eq, lc_ge, lc_le, ite10, true_and, and_true, reduceIte, Nat.reduceLT, cats, catA, Nat.reduceAdd, Nat.zero_le, Nat.reduceLeDiff]
  exact nx g I1
set_option maxRecDepth 10000 in
theorem law_c25 (hn : n ≤ 4096) (h8 : 8 * c + 8 ≤ n) (hI : LI n xs c h) (nx : ∀ g, LI n xs (c + 1) g → Run sysS G0 1000 199 (sysS.2.1 199 1480) [vR (some 0), vR (some 4), vR (some 61), vI ((8 * c : Nat) : Int)] [] g Q) : Run sysS G0 1000 199 (sysS.2.1 199 1467) [vR (some 0), vR (some 4), vR (some 61), vI ((8 * c : Nat) : Int)] [] h Q := by
  have k0 : knd G0 h 0 = (20, n) := hI.2.2.2.2.2
  have i5 := hI.2.2.2.2.1
  have k4 := hI.1.kd (a := 4) rfl
  obtain ⟨w1, w2, w3, w4, w5, w6, w7, -⟩ := w7 (c := c) (by omega)
  obtain ⟨r, gx, g, o, C, D, s0, q0, A1, I1⟩ := law_step (kx := 26) (km := 198) (ax := [vR (some 4)]) (am := [vR (some 61)]) hI (fun hx hm R => Lk.le (by omega) (l_clear R))
  obtain ⟨x, rfl⟩ : ∃ x, r = vI x := by obtain ⟨x, z⟩ := o.1 rfl; exact ⟨x, Option.some.inj z⟩
  have k0' : knd G0 gx 0 = (20, n) := q0
  have k61 := A1.kd (a := 61) rfl
  simp only [b_law_law_1467, R_aload0, R_aload1, R_aload2, R_iload3, R_iconst, R_iadd, R_iald, R_i2l, R_lc, R_lshl, R_land, R_lor, R_lcmp, R_ifeq, R_icmpeq, R_goto, R_gotow, opt2_s, Int.reduceToNat, Int.toNat_natCast, k0, w1, w2, w3, w4, w5, w6, w7, i5, k4, i_X_clear, Nat.reduceDiv, Nat.reduceMod, Nat.reduceLeDiff, Nat.reduceEqDiff, Int.reduceToNat, Int.reduceLT, Int.reduceLE, Int.reduceEq, Int.reduceNeg, Int.reduceAdd, Int.reduceSub, Int.reduceMul, not_true_eq_false, not_false_eq_true, true_or, or_true, or_false, false_or, false_and, and_false, w32_lit, lc_lt, lc_gt, lc_eq, lc_ge, lc_le, ite10, true_and, and_true, reduceIte, Nat.reduceLT, cats, catA, Nat.reduceAdd, Nat.zero_le, Nat.reduceLeDiff]
  refine C _ ?_
  simp only [b_law_law_1467, R_aload0, R_aload1, R_aload2, R_iload3, R_iconst, R_iadd, R_iald, R_i2l, R_lc, R_lshl, R_land, R_lor, R_lcmp, R_ifeq, R_icmpeq, R_goto, R_gotow, opt2_s, Int.reduceToNat, Int.toNat_natCast, k0', w1, w2, w3, w4, w5, w6, w7, s0, k61, i_M_clear, Nat.reduceDiv, Nat.reduceMod, Nat.reduceLeDiff, Nat.reduceEqDiff, Int.reduceToNat, Int.reduceLT, Int.reduceLE, Int.reduceEq, Int.reduceNeg, Int.reduceAdd, Int.reduceSub, Int.reduceMul, not_true_eq_false, not_false_eq_true, true_or, or_true, or_false, false_or, false_and, and_false, w32_lit, lc_lt, lc_gt, lc_eq, lc_ge, lc_le, ite10, true_and, and_true, reduceIte, Nat.reduceLT, cats, catA, Nat.reduceAdd, Nat.zero_le, Nat.reduceLeDiff]
  refine D _ ?_
  simp only [R_aload0, R_aload1, R_aload2, R_iload3, R_iconst, R_iadd, R_iald, R_i2l, R_lc, R_lshl, R_land, R_lor, R_lcmp, R_ifeq, R_icmpeq, R_goto, R_gotow, opt2_s, Int.reduceToNat, Int.toNat_natCast, eq_self, Nat.reduceDiv, Nat.reduceMod, Nat.reduceLeDiff, Nat.reduceEqDiff, Int.reduceToNat, Int.reduceLT, Int.reduceLE, Int.reduceEq, Int.reduceNeg, Int.reduceAdd, Int.reduceSub, Int.reduceMul, not_true_eq_false, not_false_eq_true, true_or, or_true, or_false, false_or, false_and, and_false, w32_lit, lc_lt, lc_gt, lc_eq, lc_ge, lc_le, ite10, true_and, and_true, reduceIte, Nat.reduceLT, cats, catA, Nat.reduceAdd, Nat.zero_le, Nat.reduceLeDiff]
  exact nx g I1
theorem and31 (v : Int32) : 0 ≤ (v &&& Int32.ofInt 31).toInt ∧ (v &&& Int32.ofInt 31).toInt ≤ 31 := by
  have h1 : (v &&& Int32.ofInt 31).toBitVec.toNat ≤ 31 := by
    rw [Int32.toBitVec_and, BitVec.toNat_and]
    exact Nat.and_le_right
  have h2 : (v &&& Int32.ofInt 31).toInt = (v &&& Int32.ofInt 31).toBitVec.toInt := rfl
  rw [h2, BitVec.toInt_eq_toNat_of_lt (by omega)]
  omega
set_option maxRecDepth 10000 in
theorem law_case (hn : n ≤ 4096) (h8 : 8 * c + 8 ≤ n) (hI : LI n xs c h) (nx : ∀ g, LI n xs (c + 1) g → Run sysS G0 1000 199 (sysS.2.1 199 1480) [vR (some 0), vR (some 4), vR (some 61), vI ((8 * c : Nat) : Int)] [] g Q) {y : Int} (hy : 0 ≤ y ∧ y ≤ 31) : Run sysS G0 1000 199 (sysS.2.1 199 (swA 1480 0 [152, 215, 238, 291, 304, 367, 406, 445, 468, 615, 762, 909, 942, 976, 1009, 1062, 1105, 1138, 1171, 1195, 1228, 1375, 1388, 1411, 1444, 1467] y).toNat) [vR (some 0), vR (some 4), vR (some 61), vI ((8 * c : Nat) : Int)] [] h Q := by
  have skip : LI n xs (c + 1) h := by
    obtain ⟨i1, i2, i3, i4, i5, i6⟩ := hI
    exact ⟨i1, i2.le (by omega), by omega, by omega, i5, i6⟩
  have hy' : y = 0 ∨ y = 1 ∨ y = 2 ∨ y = 3 ∨ y = 4 ∨ y = 5 ∨ y = 6 ∨ y = 7 ∨ y = 8 ∨ y = 9 ∨ y = 10 ∨ y = 11 ∨ y = 12 ∨ y = 13 ∨ y = 14 ∨ y = 15 ∨ y = 16 ∨ y = 17 ∨ y = 18 ∨ y = 19 ∨ y = 20 ∨ y = 21 ∨ y = 22 ∨ y = 23 ∨ y = 24 ∨ y = 25 ∨ 26 ≤ y := by omega
  rcases hy' with rfl | rfl | rfl | rfl | rfl | rfl | rfl | rfl | rfl | rfl | rfl | rfl | rfl | rfl | rfl | rfl | rfl | rfl | rfl | rfl | rfl | rfl | rfl | rfl | rfl | rfl | hy'
  · rw [show (swA 1480 0 [152, 215, 238, 291, 304, 367, 406, 445, 468, 615, 762, 909, 942, 976, 1009, 1062, 1105, 1138, 1171, 1195, 1228, 1375, 1388, 1411, 1444, 1467] 0).toNat = 152 from by decide]; exact law_c0 hn h8 hI nx
  · rw [show (swA 1480 0 [152, 215, 238, 291, 304, 367, 406, 445, 468, 615, 762, 909, 942, 976, 1009, 1062, 1105, 1138, 1171, 1195, 1228, 1375, 1388, 1411, 1444, 1467] 1).toNat = 215 from by decide]; exact law_c1 hn h8 hI nx
  · rw [show (swA 1480 0 [152, 215, 238, 291, 304, 367, 406, 445, 468, 615, 762, 909, 942, 976, 1009, 1062, 1105, 1138, 1171, 1195, 1228, 1375, 1388, 1411, 1444, 1467] 2).toNat = 238 from by decide]; exact law_c2 hn h8 hI nx
  · rw [show (swA 1480 0 [152, 215, 238, 291, 304, 367, 406, 445, 468, 615, 762, 909, 942, 976, 1009, 1062, 1105, 1138, 1171, 1195, 1228, 1375, 1388, 1411, 1444, 1467] 3).toNat = 291 from by decide]; exact law_c3 hn h8 hI nx
  · rw [show (swA 1480 0 [152, 215, 238, 291, 304, 367, 406, 445, 468, 615, 762, 909, 942, 976, 1009, 1062, 1105, 1138, 1171, 1195, 1228, 1375, 1388, 1411, 1444, 1467] 4).toNat = 304 from by decide]; exact law_c4 hn h8 hI nx
  · rw [show (swA 1480 0 [152, 215, 238, 291, 304, 367, 406, 445, 468, 615, 762, 909, 942, 976, 1009, 1062, 1105, 1138, 1171, 1195, 1228, 1375, 1388, 1411, 1444, 1467] 5).toNat = 367 from by decide]; exact law_c5 hn h8 hI nx
  · rw [show (swA 1480 0 [152, 215, 238, 291, 304, 367, 406, 445, 468, 615, 762, 909, 942, 976, 1009, 1062, 1105, 1138, 1171, 1195, 1228, 1375, 1388, 1411, 1444, 1467] 6).toNat = 406 from by decide]; exact law_c6 hn h8 hI nx
  · rw [show (swA 1480 0 [152, 215, 238, 291, 304, 367, 406, 445, 468, 615, 762, 909, 942, 976, 1009, 1062, 1105, 1138, 1171, 1195, 1228, 1375, 1388, 1411, 1444, 1467] 7).toNat = 445 from by decide]; exact law_c7 hn h8 hI nx
  · rw [show (swA 1480 0 [152, 215, 238, 291, 304, 367, 406, 445, 468, 615, 762, 909, 942, 976, 1009, 1062, 1105, 1138, 1171, 1195, 1228, 1375, 1388, 1411, 1444, 1467] 8).toNat = 468 from by decide]; exact law_c8 hn h8 hI nx
  · rw [show (swA 1480 0 [152, 215, 238, 291, 304, 367, 406, 445, 468, 615, 762, 909, 942, 976, 1009, 1062, 1105, 1138, 1171, 1195, 1228, 1375, 1388, 1411, 1444, 1467] 9).toNat = 615 from by decide]; exact law_c9 hn h8 hI nx
  · rw [show (swA 1480 0 [152, 215, 238, 291, 304, 367, 406, 445, 468, 615, 762, 909, 942, 976, 1009, 1062, 1105, 1138, 1171, 1195, 1228, 1375, 1388, 1411, 1444, 1467] 10).toNat = 762 from by decide]; exact law_c10 hn h8 hI nx
  · rw [show (swA 1480 0 [152, 215, 238, 291, 304, 367, 406, 445, 468, 615, 762, 909, 942, 976, 1009, 1062, 1105, 1138, 1171, 1195, 1228, 1375, 1388, 1411, 1444, 1467] 11).toNat = 909 from by decide]; exact law_c11 hn h8 hI nx
  · rw [show (swA 1480 0 [152, 215, 238, 291, 304, 367, 406, 445, 468, 615, 762, 909, 942, 976, 1009, 1062, 1105, 1138, 1171, 1195, 1228, 1375, 1388, 1411, 1444, 1467] 12).toNat = 942 from by decide]; exact law_c12 hn h8 hI nx
  · rw [show (swA 1480 0 [152, 215, 238, 291, 304, 367, 406, 445, 468, 615, 762, 909, 942, 976, 1009, 1062, 1105, 1138, 1171, 1195, 1228, 1375, 1388, 1411, 1444, 1467] 13).toNat = 976 from by decide]; exact law_c13 hn h8 hI nx
  · rw [show (swA 1480 0 [152, 215, 238, 291, 304, 367, 406, 445, 468, 615, 762, 909, 942, 976, 1009, 1062, 1105, 1138, 1171, 1195, 1228, 1375, 1388, 1411, 1444, 1467] 14).toNat = 1009 from by decide]; exact law_c14 hn h8 hI nx
  · rw [show (swA 1480 0 [152, 215, 238, 291, 304, 367, 406, 445, 468, 615, 762, 909, 942, 976, 1009, 1062, 1105, 1138, 1171, 1195, 1228, 1375, 1388, 1411, 1444, 1467] 15).toNat = 1062 from by decide]; exact law_c15 hn h8 hI nx
  · rw [show (swA 1480 0 [152, 215, 238, 291, 304, 367, 406, 445, 468, 615, 762, 909, 942, 976, 1009, 1062, 1105, 1138, 1171, 1195, 1228, 1375, 1388, 1411, 1444, 1467] 16).toNat = 1105 from by decide]; exact law_c16 hn h8 hI nx
  · rw [show (swA 1480 0 [152, 215, 238, 291, 304, 367, 406, 445, 468, 615, 762, 909, 942, 976, 1009, 1062, 1105, 1138, 1171, 1195, 1228, 1375, 1388, 1411, 1444, 1467] 17).toNat = 1138 from by decide]; exact law_c17 hn h8 hI nx
  · rw [show (swA 1480 0 [152, 215, 238, 291, 304, 367, 406, 445, 468, 615, 762, 909, 942, 976, 1009, 1062, 1105, 1138, 1171, 1195, 1228, 1375, 1388, 1411, 1444, 1467] 18).toNat = 1171 from by decide]; exact law_c18 hn h8 hI nx
  · rw [show (swA 1480 0 [152, 215, 238, 291, 304, 367, 406, 445, 468, 615, 762, 909, 942, 976, 1009, 1062, 1105, 1138, 1171, 1195, 1228, 1375, 1388, 1411, 1444, 1467] 19).toNat = 1195 from by decide]; exact law_c19 hn h8 hI nx
  · rw [show (swA 1480 0 [152, 215, 238, 291, 304, 367, 406, 445, 468, 615, 762, 909, 942, 976, 1009, 1062, 1105, 1138, 1171, 1195, 1228, 1375, 1388, 1411, 1444, 1467] 20).toNat = 1228 from by decide]; exact law_c20 hn h8 hI nx
  · rw [show (swA 1480 0 [152, 215, 238, 291, 304, 367, 406, 445, 468, 615, 762, 909, 942, 976, 1009, 1062, 1105, 1138, 1171, 1195, 1228, 1375, 1388, 1411, 1444, 1467] 21).toNat = 1375 from by decide]; exact law_c21 hn h8 hI nx
  · rw [show (swA 1480 0 [152, 215, 238, 291, 304, 367, 406, 445, 468, 615, 762, 909, 942, 976, 1009, 1062, 1105, 1138, 1171, 1195, 1228, 1375, 1388, 1411, 1444, 1467] 22).toNat = 1388 from by decide]; exact law_c22 hn h8 hI nx
  · rw [show (swA 1480 0 [152, 215, 238, 291, 304, 367, 406, 445, 468, 615, 762, 909, 942, 976, 1009, 1062, 1105, 1138, 1171, 1195, 1228, 1375, 1388, 1411, 1444, 1467] 23).toNat = 1411 from by decide]; exact law_c23 hn h8 hI nx
  · rw [show (swA 1480 0 [152, 215, 238, 291, 304, 367, 406, 445, 468, 615, 762, 909, 942, 976, 1009, 1062, 1105, 1138, 1171, 1195, 1228, 1375, 1388, 1411, 1444, 1467] 24).toNat = 1444 from by decide]; exact law_c24 hn h8 hI nx
  · rw [show (swA 1480 0 [152, 215, 238, 291, 304, 367, 406, 445, 468, 615, 762, 909, 942, 976, 1009, 1062, 1105, 1138, 1171, 1195, 1228, 1375, 1388, 1411, 1444, 1467] 25).toNat = 1467 from by decide]; exact law_c25 hn h8 hI nx
  · have e : swA 1480 0 [152, 215, 238, 291, 304, 367, 406, 445, 468, 615, 762, 909, 942, 976, 1009, 1062, 1105, 1138, 1171, 1195, 1228, 1375, 1388, 1411, 1444, 1467] y = 1480 := by
      simp only [swA, Int.reduceAdd]
      repeat rw [if_neg (by omega)]
    rw [e]
    exact nx h skip
set_option maxRecDepth 10000 in
theorem law_loop (hn : n ≤ 4096) : ∀ (kk c : Nat) (h : AH), 8 * c ≤ n → n ≤ 8 * c + 8 * kk + 7 → LI n xs c h → Run sysS G0 1000 199 (sysS.2.1 199 18) [vR (some 0), vR (some 4), vR (some 61), vI ((8 * c : Nat) : Int)] [] h (fun r g => r = some (vI 1) ∧ hpN g ≤ 600004 ∧ hpS g ≤ 7302250) := by
  intro kk
  induction kk with
  | zero =>
    intro c h h1 h2 hI
    have k0 : knd G0 h 0 = (20, n) := hI.2.2.2.2.2
    obtain ⟨i1, i2, i3, i4, i5, i6⟩ := hI
    rw [b_law_law_18]
    simp only [R_iload3, R_aload0, R_alen, R_iconst, R_isub, R_icmpgt, k0, Nat.reduceLeDiff, Nat.reduceLT, true_and, and_true]
    rw [w32_id (by omega) (by omega), if_pos (by omega)]
    rw [show sysS.2.1 199 ((1486 : Int)).toNat = _ from b_law_law_1486, R_iconst, r_law_law]
    exact ⟨rfl, rfl, by omega, by omega⟩
  | succ kk ih =>
    intro c h h1 h2 hI
    have k0 : knd G0 h 0 = (20, n) := hI.2.2.2.2.2
    have i5 := hI.2.2.2.2.1
    rw [b_law_law_18]
    simp only [R_iload3, R_aload0, R_alen, R_iconst, R_isub, R_icmpgt, k0, Nat.reduceLeDiff, Nat.reduceLT, true_and, and_true]
    rw [w32_id (by omega) (by omega)]
    by_cases c8 : 8 * c + 8 ≤ n
    · rw [if_neg (by omega)]
      simp only [R_aload0, R_iload3, R_iald, k0, Int.toNat_natCast, i5, R_iconst, R_iand, R_tsw, true_and]
      rw [inA_t (by omega) (by omega), true_and]
      refine law_case hn c8 hI (fun g hg => ?_) (and31 _)
      rw [b_law_law_1480, R_iinc3, R_goto, (w7 (c := c) (by omega)).2.2.2.2.2.2.2]
      exact ih (c + 1) g (by omega) (by omega) hg
    · obtain ⟨i1, i2, i3, i4, i5', i6⟩ := hI
      rw [if_pos (by omega)]
      rw [show sysS.2.1 199 ((1486 : Int)).toNat = _ from b_law_law_1486, R_iconst, r_law_law]
      exact ⟨rfl, rfl, by omega, by omega⟩
end LW
