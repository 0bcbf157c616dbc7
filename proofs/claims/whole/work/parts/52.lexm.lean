/-! tokens: what they are; how the reference reads one -/
def bt (h : AH) (a n : Nat) (i : Nat) : Int := if i < n then (Int32.ofInt (rdI h a i) &&& Int32.ofInt 255).toInt else -1
theorem and255 (x : Int32) : 0 ≤ (x &&& Int32.ofInt 255).toInt ∧ (x &&& Int32.ofInt 255).toInt ≤ 255 := by
  have e : (x &&& Int32.ofInt 255).toBitVec = x.toBitVec &&& 255#32 := rfl
  have h1 : (x.toBitVec &&& 255#32).toNat ≤ 255 := by
    rw [BitVec.toNat_and]
    exact Nat.and_le_right
  have h2 : (x &&& Int32.ofInt 255).toInt = (x.toBitVec &&& 255#32).toInt := rfl
  rw [h2, BitVec.toInt_eq_toNat_of_lt (by omega)]
  omega
theorem bt_b {h : AH} {a n i : Nat} (hi : i < n) : 0 ≤ bt h a n i ∧ bt h a n i ≤ 255 := by
  unfold bt
  rw [if_pos hi]
  exact and255 _
theorem bt_n {h : AH} {a n i : Nat} (hi : n ≤ i) : bt h a n i = -1 := by
  unfold bt
  rw [if_neg (by omega)]
def isL (c : Int) : Prop := 97 ≤ c ∧ c ≤ 122
def isD (c : Int) : Prop := 48 ≤ c ∧ c ≤ 57
def isSg (c : Int) : Prop := c = 40 ∨ c = 41 ∨ c = 91 ∨ c = 93 ∨ c = 43 ∨ c = 45 ∨ c = 42 ∨ c = 47 ∨ c = 37 ∨ c = 44 ∨ c = 58 ∨ c = 60 ∨ c = 62 ∨ c = 61 ∨ c = 35
def isLg (w : Int64) : Prop := w = Int64.ofInt 25209 ∨ w = Int64.ofInt 26982 ∨ w = Int64.ofInt 7304564 ∨ w = Int64.ofInt 28530 ∨ w = Int64.ofInt 6385252 ∨ w = Int64.ofInt 7237492 ∨ w = Int64.ofInt 1885954923
def isSl (w : Int64) : Prop := w = Int64.ofInt 107 ∨ w = Int64.ofInt 116 ∨ w = Int64.ofInt 118 ∨ w = Int64.ofInt 110
def skp (B : Nat → Int) : Nat → Nat → Nat
  | 0, p => p
  | k + 1, p => if B p = 32 ∨ B p = 10 then skp B k (p + 1) else p
abbrev sh8 (w : Int64) (c : Int) : Int64 := w <<< ((Int32.ofInt 8).toInt64 &&& 63) ||| (Int32.ofInt c).toInt64
def wdE (B : Nat → Int) : Nat → Nat → Int64 → Nat × Int64
  | 0, p, w => (p, w)
  | k + 1, p, w => if 97 ≤ B p ∧ B p ≤ 122 then wdE B k (p + 1) (sh8 w (B p)) else (p, w)
def nmE (B : Nat → Int) : Nat → Nat → Int64 → Nat × Int64
  | 0, p, w => (p, w)
  | k + 1, p, w => if 48 ≤ B p ∧ B p ≤ 57 then nmE B k (p + 1) (w * Int64.ofInt 10 + Int64.ofInt (B p - 48)) else (p, w)
section LXP
variable {B : Nat → Int}
theorem skp_b : ∀ k p, p ≤ skp B k p ∧ skp B k p ≤ p + k
  | 0, p => by simp [skp]
  | k + 1, p => by
    have := skp_b k (p + 1)
    simp only [skp]
    split <;> omega
theorem wdE_b : ∀ k p w, p ≤ (wdE B k p w).1 ∧ (wdE B k p w).1 ≤ p + k
  | 0, p, w => by simp [wdE]
  | k + 1, p, w => by
    have := wdE_b k (p + 1) (sh8 w (B p))
    simp only [wdE]
    split
    · omega
    · constructor <;> omega
theorem nmE_b : ∀ k p w, p ≤ (nmE B k p w).1 ∧ (nmE B k p w).1 ≤ p + k
  | 0, p, w => by simp [nmE]
  | k + 1, p, w => by
    have := nmE_b k (p + 1) (w * Int64.ofInt 10 + Int64.ofInt (B p - 48))
    simp only [nmE]
    split
    · omega
    · constructor <;> omega
end LXP
/-- the token behind place p: its kind, its value, where it begins and ends -/
def Lx (B : Nat → Int) (n p : Nat) (kd : Int) (val : Int64) (p1 q : Nat) : Prop := p1 = skp B (n - p) p ∧ (
  (n ≤ p1 ∧ kd = -1 ∧ q = p1) ∨
  (p1 < n ∧ isL (B p1) ∧ q = (wdE B (n - p1) p1 0).1 ∧ val = (wdE B (n - p1) p1 0).2 ∧ ((8 < q - p1 ∧ kd = -2) ∨ (q - p1 ≤ 8 ∧ (isLg val ∨ isSl val) ∧ kd = val.toInt32.toInt) ∨ (q - p1 ≤ 8 ∧ ¬ (isLg val ∨ isSl val) ∧ kd = -3))) ∨
  (p1 < n ∧ isD (B p1) ∧ q = (nmE B (n - p1) p1 0).1 ∧ val = (nmE B (n - p1) p1 0).2 ∧ ((9 < q - p1 ∧ kd = -2) ∨ (q - p1 ≤ 9 ∧ kd = -4))) ∨
  (p1 < n ∧ ¬ isL (B p1) ∧ ¬ isD (B p1) ∧ (((B p1 = 60 ∨ B p1 = 62) ∧ B (p1 + 1) = 61 ∧ kd = 256 * B p1 + 61 ∧ q = p1 + 2) ∨ (¬ ((B p1 = 60 ∨ B p1 = 62) ∧ B (p1 + 1) = 61) ∧ q = p1 + 1 ∧ ((isSg (B p1) ∧ kd = B p1) ∨ (¬ isSg (B p1) ∧ kd = -2))))))
/-- how the reference tells a token -/
def TkM (kd : Int) (val : Int64) (tk : Int) (w : Int64) : Prop :=
  (kd = -1 ∧ tk = 0) ∨ (kd = -2 ∧ tk = 1) ∨ (kd = -3 ∧ tk = 3 ∧ w = val) ∨ (kd = -4 ∧ tk = 2 ∧ w = val) ∨
  ((isLg (Int64.ofInt kd) ∨ isSl (Int64.ofInt kd)) ∧ inr kd ∧ tk = 5 ∧ w = Int64.ofInt kd) ∨
  (isSg kd ∧ tk = 4 ∧ w = Int64.ofInt kd) ∨ (kd = 15421 ∧ tk = 4 ∧ w = Int64.ofInt 316) ∨ (kd = 15933 ∧ tk = 4 ∧ w = Int64.ofInt 318)
/-- the reference's place in the text, and its token -/
def lM (h : AH) (p pl tk : Int) (w : Int64) : AH := (fun b j => if b = 61 ∧ j = 2 then p else if b = 61 ∧ j = 3 then pl else if b = 61 ∧ j = 4 then tk else h.1 b j, fun b j => if b = 61 ∧ j = 5 then w else h.2.1 b j, h.2.2)
section LM
variable {h : AH} {p pl tk x : Int} {w u : Int64} {b j : Nat} {G : GB}
theorem rdI_lM : rdI (lM h p pl tk w) b j = if b = 61 ∧ j = 2 then p else if b = 61 ∧ j = 3 then pl else if b = 61 ∧ j = 4 then tk else rdI h b j := rfl
theorem rdL_lM : rdL (lM h p pl tk w) b j = if b = 61 ∧ j = 5 then w else rdL h b j := rfl
theorem lM_at : wrI (lM h p pl tk w) 61 2 x = lM h x pl tk w := by
  unfold wrI lM
  congr 1
  funext b j
  dsimp only
  grind
theorem lM_pl : wrI (lM h p pl tk w) 61 3 x = lM h p x tk w := by
  unfold wrI lM
  congr 1
  funext b j
  dsimp only
  grind
theorem lM_tk : wrI (lM h p pl tk w) 61 4 x = lM h p pl x w := by
  unfold wrI lM
  congr 1
  funext b j
  dsimp only
  grind
theorem lM_w : wrL (lM h p pl tk w) 61 5 u = lM h p pl tk u := by
  unfold wrL lM
  congr 2
  funext b j
  dsimp only
  grind
theorem lM_self : h = lM h (rdI h 61 2) (rdI h 61 3) (rdI h 61 4) (rdL h 61 5) := by
  obtain ⟨a, b, c⟩ := h
  unfold lM
  simp only [Prod.mk.injEq, and_true]
  constructor
  · funext b j
    simp only [rdI]
    grind
  · funext b j
    simp only [rdL]
    grind
end LM
/-- the text of the reference -/
def BM (h : AH) (n : Nat) (B : Nat → Int) : Prop := rdI h 61 1 = n ∧ n ≤ 200 ∧ (∀ i, bt h 62 n i = B i)
section LXM
variable {h : AH} {L n : Nat} {B : Nat → Int} {p pl tk : Int} {w : Int64} {Q : Option AV → AH → Prop}
theorem BM.b (hB : BM h n B) {i : Nat} (hi : i < n) : 0 ≤ B i ∧ B i ≤ 255 := by
  rw [← hB.2.2 i]; exact bt_b hi
theorem BM.e (hB : BM h n B) {i : Nat} (hi : n ≤ i) : B i = -1 := by
  rw [← hB.2.2 i]; exact bt_n hi
set_option maxRecDepth 10000 in
theorem t_M_byteAt {i : Nat} (hB : BM h n B) : Call sysS GM L 126 [vR (some 61), vI i] (lM h p pl tk w) Q ↔ Q (some (vI (B i))) (lM h p pl tk w) := by
  obtain ⟨h1, h2, h3⟩ := hB
  simp only [e_M_byteAt, b_M_byteAt_0, b_M_byteAt_21, b_M_byteAt_22, r_M_byteAt, R_iconst, R_lc, R_null, R_ldc, R_gets0, R_gets1, R_objI, R_dupI, R_dupR, R_popI, R_popR, R_dup2L, R_dup2IR, R_pop2, R_i2l, R_l2i, R_lneg, R_lcmp, R_iadd, R_isub, R_imul, R_iand, R_ior, R_ixor, R_ishl, R_ishr, R_iushr, R_i2b, R_i2c, R_ladd, R_lsub, R_lmul, R_land, R_lor, R_lxor, R_lshl, R_lushr, R_goto, R_gotow, R_ifnullN, R_ifnullS, R_ifnonN, R_ifnonS, R_ifeq, R_ifne, R_iflt, R_ifge, R_ifgt, R_ifle, R_icmpeq, R_icmpne, R_icmplt, R_icmpge, R_icmpgt, R_icmple, R_tsw, R_lsw, R_alen, R_iald, R_bald, R_lald, R_aald, R_iast, R_last, R_bast, R_aast, R_new, R_newI, R_gf, R_pfI, R_pfZ, R_pfL, R_pfR, isZ_0, isZ_1, isZ_ite, gfA_0, gfA_1, gfA_2, gfA_3, opt2_s, opt2_n, R_iload0, R_iload1, R_iload2, R_iload3, R_iload4, R_iload5, R_iload6, R_iload7, R_iload8, R_lload0, R_lload1, R_lload2, R_lload3, R_lload4, R_lload5, R_lload6, R_lload7, R_lload8, R_aload0, R_aload1, R_aload2, R_aload3, R_aload4, R_aload5, R_aload6, R_aload7, R_aload8, R_istore0, R_istore1, R_istore2, R_istore3, R_istore4, R_istore5, R_istore6, R_istore7, R_istore8, R_lstore0, R_lstore1, R_lstore2, R_lstore3, R_lstore4, R_lstore5, R_lstore6, R_lstore7, R_lstore8, R_astore0, R_astore1, R_astore2, R_astore3, R_astore4, R_astore5, R_astore6, R_astore7, R_astore8, R_iinc0, R_iinc1, R_iinc2, R_iinc3, R_iinc4, R_iinc5, R_iinc6, R_iinc7, R_iinc8, KM_61, OM_61, KM_62, OM_62, KM_63, OM_63, KM_64, OM_64, KM_65, OM_65, KM_66, OM_66, KM_67, OM_67, KM_68, OM_68, KM_69, OM_69, KM_70, OM_70, KM_71, OM_71, KM_72, OM_72, KM_73, OM_73, KM_74, OM_74, KM_75, OM_75, KM_76, OM_76, KM_77, OM_77, KM_78, OM_78, KM_79, OM_79, KM_80, OM_80, KM_81, OM_81, KM_82, OM_82, KM_83, OM_83, KM_84, OM_84, KM_85, OM_85, KM_86, OM_86, KM_87, OM_87, KM_88, OM_88, KM_89, OM_89, KM_90, OM_90, KM_91, OM_91, KM_92, OM_92, PM_61_0, PM_61_9, PM_61_10, PM_61_12, PM_61_13, PM_61_15, PM_61_16, PM_61_23, PM_61_28, PM_61_31, PM_61_33, PM_61_34, PM_61_35, PM_61_36, PM_61_37, PM_61_38, PM_61_43, PM_61_44, PM_61_45, PM_61_46, PM_61_47, PM_61_48, PM_61_49, PM_61_50, PM_61_51, PM_61_52, PM_61_53, PM_61_54, PM_61_59, PM_61_60, PM_61_61, Nat.reduceDiv, Nat.reduceMod, Nat.reduceLeDiff, Nat.reduceEqDiff, Int.reduceToNat, Int.reduceLT, Int.reduceLE, Int.reduceEq, Int.reduceNeg, Int.reduceAdd, Int.reduceSub, Int.reduceMul, not_true_eq_false, not_false_eq_true, true_or, or_true, or_false, false_or, false_and, and_false, w32_lit, lc_lt, lc_gt, lc_eq, lc_ge, lc_le, ite10, true_and, and_true, reduceIte, Nat.reduceLT, cats, catA, Nat.reduceAdd, Nat.zero_le, Nat.reduceLeDiff, rdI_lM, h1]
  rw [← h3 i]
  unfold bt
  by_cases c : i < n
  · rw [if_neg (by omega), if_pos c]
    simp (disch := omega) only [w32_id, inA_t, isZ_t, i2l_id, l2i_id, if_pos, if_neg, true_and, and_true]
    simp only [Int.toNat_natCast]
  · rw [if_pos (by omega), if_neg c]
set_option maxRecDepth 10000 in
theorem t_M_isLetter {G : GB} {c : Int} : Call sysS G L 127 [vI c] h Q ↔ Q (some (vI (if 97 ≤ c ∧ c ≤ 122 then 1 else 0))) h := by
  simp only [e_M_isLetter, b_M_isLetter_0, b_M_isLetter_16, b_M_isLetter_17, r_M_isLetter, R_iconst, R_lc, R_null, R_ldc, R_gets0, R_gets1, R_objI, R_dupI, R_dupR, R_popI, R_popR, R_dup2L, R_dup2IR, R_pop2, R_i2l, R_l2i, R_lneg, R_lcmp, R_iadd, R_isub, R_imul, R_iand, R_ior, R_ixor, R_ishl, R_ishr, R_iushr, R_i2b, R_i2c, R_ladd, R_lsub, R_lmul, R_land, R_lor, R_lxor, R_lshl, R_lushr, R_goto, R_gotow, R_ifnullN, R_ifnullS, R_ifnonN, R_ifnonS, R_ifeq, R_ifne, R_iflt, R_ifge, R_ifgt, R_ifle, R_icmpeq, R_icmpne, R_icmplt, R_icmpge, R_icmpgt, R_icmple, R_tsw, R_lsw, R_alen, R_iald, R_bald, R_lald, R_aald, R_iast, R_last, R_bast, R_aast, R_new, R_newI, R_gf, R_pfI, R_pfZ, R_pfL, R_pfR, isZ_0, isZ_1, isZ_ite, gfA_0, gfA_1, gfA_2, gfA_3, opt2_s, opt2_n, R_iload0, R_iload1, R_iload2, R_iload3, R_iload4, R_iload5, R_iload6, R_iload7, R_iload8, R_lload0, R_lload1, R_lload2, R_lload3, R_lload4, R_lload5, R_lload6, R_lload7, R_lload8, R_aload0, R_aload1, R_aload2, R_aload3, R_aload4, R_aload5, R_aload6, R_aload7, R_aload8, R_istore0, R_istore1, R_istore2, R_istore3, R_istore4, R_istore5, R_istore6, R_istore7, R_istore8, R_lstore0, R_lstore1, R_lstore2, R_lstore3, R_lstore4, R_lstore5, R_lstore6, R_lstore7, R_lstore8, R_astore0, R_astore1, R_astore2, R_astore3, R_astore4, R_astore5, R_astore6, R_astore7, R_astore8, R_iinc0, R_iinc1, R_iinc2, R_iinc3, R_iinc4, R_iinc5, R_iinc6, R_iinc7, R_iinc8, KM_61, OM_61, KM_62, OM_62, KM_63, OM_63, KM_64, OM_64, KM_65, OM_65, KM_66, OM_66, KM_67, OM_67, KM_68, OM_68, KM_69, OM_69, KM_70, OM_70, KM_71, OM_71, KM_72, OM_72, KM_73, OM_73, KM_74, OM_74, KM_75, OM_75, KM_76, OM_76, KM_77, OM_77, KM_78, OM_78, KM_79, OM_79, KM_80, OM_80, KM_81, OM_81, KM_82, OM_82, KM_83, OM_83, KM_84, OM_84, KM_85, OM_85, KM_86, OM_86, KM_87, OM_87, KM_88, OM_88, KM_89, OM_89, KM_90, OM_90, KM_91, OM_91, KM_92, OM_92, PM_61_0, PM_61_9, PM_61_10, PM_61_12, PM_61_13, PM_61_15, PM_61_16, PM_61_23, PM_61_28, PM_61_31, PM_61_33, PM_61_34, PM_61_35, PM_61_36, PM_61_37, PM_61_38, PM_61_43, PM_61_44, PM_61_45, PM_61_46, PM_61_47, PM_61_48, PM_61_49, PM_61_50, PM_61_51, PM_61_52, PM_61_53, PM_61_54, PM_61_59, PM_61_60, PM_61_61, Nat.reduceDiv, Nat.reduceMod, Nat.reduceLeDiff, Nat.reduceEqDiff, Int.reduceToNat, Int.reduceLT, Int.reduceLE, Int.reduceEq, Int.reduceNeg, Int.reduceAdd, Int.reduceSub, Int.reduceMul, not_true_eq_false, not_false_eq_true, true_or, or_true, or_false, false_or, false_and, and_false, w32_lit, lc_lt, lc_gt, lc_eq, lc_ge, lc_le, ite10, true_and, and_true, reduceIte, Nat.reduceLT, cats, catA, Nat.reduceAdd, Nat.zero_le, Nat.reduceLeDiff]
  grind
set_option maxRecDepth 10000 in
theorem t_M_isDigit {G : GB} {c : Int} : Call sysS G L 128 [vI c] h Q ↔ Q (some (vI (if 48 ≤ c ∧ c ≤ 57 then 1 else 0))) h := by
  simp only [e_M_isDigit, b_M_isDigit_0, b_M_isDigit_16, b_M_isDigit_17, r_M_isDigit, R_iconst, R_lc, R_null, R_ldc, R_gets0, R_gets1, R_objI, R_dupI, R_dupR, R_popI, R_popR, R_dup2L, R_dup2IR, R_pop2, R_i2l, R_l2i, R_lneg, R_lcmp, R_iadd, R_isub, R_imul, R_iand, R_ior, R_ixor, R_ishl, R_ishr, R_iushr, R_i2b, R_i2c, R_ladd, R_lsub, R_lmul, R_land, R_lor, R_lxor, R_lshl, R_lushr, R_goto, R_gotow, R_ifnullN, R_ifnullS, R_ifnonN, R_ifnonS, R_ifeq, R_ifne, R_iflt, R_ifge, R_ifgt, R_ifle, R_icmpeq, R_icmpne, R_icmplt, R_icmpge, R_icmpgt, R_icmple, R_tsw, R_lsw, R_alen, R_iald, R_bald, R_lald, R_aald, R_iast, R_last, R_bast, R_aast, R_new, R_newI, R_gf, R_pfI, R_pfZ, R_pfL, R_pfR, isZ_0, isZ_1, isZ_ite, gfA_0, gfA_1, gfA_2, gfA_3, opt2_s, opt2_n, R_iload0, R_iload1, R_iload2, R_iload3, R_iload4, R_iload5, R_iload6, R_iload7, R_iload8, R_lload0, R_lload1, R_lload2, R_lload3, R_lload4, R_lload5, R_lload6, R_lload7, R_lload8, R_aload0, R_aload1, R_aload2, R_aload3, R_aload4, R_aload5, R_aload6, R_aload7, R_aload8, R_istore0, R_istore1, R_istore2, R_istore3, R_istore4, R_istore5, R_istore6, R_istore7, R_istore8, R_lstore0, R_lstore1, R_lstore2, R_lstore3, R_lstore4, R_lstore5, R_lstore6, R_lstore7, R_lstore8, R_astore0, R_astore1, R_astore2, R_astore3, R_astore4, R_astore5, R_astore6, R_astore7, R_astore8, R_iinc0, R_iinc1, R_iinc2, R_iinc3, R_iinc4, R_iinc5, R_iinc6, R_iinc7, R_iinc8, KM_61, OM_61, KM_62, OM_62, KM_63, OM_63, KM_64, OM_64, KM_65, OM_65, KM_66, OM_66, KM_67, OM_67, KM_68, OM_68, KM_69, OM_69, KM_70, OM_70, KM_71, OM_71, KM_72, OM_72, KM_73, OM_73, KM_74, OM_74, KM_75, OM_75, KM_76, OM_76, KM_77, OM_77, KM_78, OM_78, KM_79, OM_79, KM_80, OM_80, KM_81, OM_81, KM_82, OM_82, KM_83, OM_83, KM_84, OM_84, KM_85, OM_85, KM_86, OM_86, KM_87, OM_87, KM_88, OM_88, KM_89, OM_89, KM_90, OM_90, KM_91, OM_91, KM_92, OM_92, PM_61_0, PM_61_9, PM_61_10, PM_61_12, PM_61_13, PM_61_15, PM_61_16, PM_61_23, PM_61_28, PM_61_31, PM_61_33, PM_61_34, PM_61_35, PM_61_36, PM_61_37, PM_61_38, PM_61_43, PM_61_44, PM_61_45, PM_61_46, PM_61_47, PM_61_48, PM_61_49, PM_61_50, PM_61_51, PM_61_52, PM_61_53, PM_61_54, PM_61_59, PM_61_60, PM_61_61, Nat.reduceDiv, Nat.reduceMod, Nat.reduceLeDiff, Nat.reduceEqDiff, Int.reduceToNat, Int.reduceLT, Int.reduceLE, Int.reduceEq, Int.reduceNeg, Int.reduceAdd, Int.reduceSub, Int.reduceMul, not_true_eq_false, not_false_eq_true, true_or, or_true, or_false, false_or, false_and, and_false, w32_lit, lc_lt, lc_gt, lc_eq, lc_ge, lc_le, ite10, true_and, and_true, reduceIte, Nat.reduceLT, cats, catA, Nat.reduceAdd, Nat.zero_le, Nat.reduceLeDiff]
  grind
set_option maxRecDepth 10000 in
theorem l_next_skip (hB : BM h n B) : ∀ k i : Nat, i + k = n → (Run sysS GM (L + 1) 129 (sysS.2.1 129 0) [vR (some 61), vU, vU] [] (lM h i pl tk w) Q ↔ Run sysS GM (L + 1) 129 (sysS.2.1 129 39) [vR (some 61), vU, vU] [] (lM h ((skp B k i : Nat) : Int) pl tk w) Q) := by
  intro k
  induction k with
  | zero =>
    intro i hi
    have hn := hB.2.1
    have e := hB.e (i := i) (by omega)
    rw [b_M_next_0]
    simp only [R_iconst, R_lc, R_null, R_ldc, R_gets0, R_gets1, R_objI, R_dupI, R_dupR, R_popI, R_popR, R_dup2L, R_dup2IR, R_pop2, R_i2l, R_l2i, R_lneg, R_lcmp, R_iadd, R_isub, R_imul, R_iand, R_ior, R_ixor, R_ishl, R_ishr, R_iushr, R_i2b, R_i2c, R_ladd, R_lsub, R_lmul, R_land, R_lor, R_lxor, R_lshl, R_lushr, R_goto, R_gotow, R_ifnullN, R_ifnullS, R_ifnonN, R_ifnonS, R_ifeq, R_ifne, R_iflt, R_ifge, R_ifgt, R_ifle, R_icmpeq, R_icmpne, R_icmplt, R_icmpge, R_icmpgt, R_icmple, R_tsw, R_lsw, R_alen, R_iald, R_bald, R_lald, R_aald, R_iast, R_last, R_bast, R_aast, R_new, R_newI, R_gf, R_pfI, R_pfZ, R_pfL, R_pfR, isZ_0, isZ_1, isZ_ite, gfA_0, gfA_1, gfA_2, gfA_3, opt2_s, opt2_n, R_iload0, R_iload1, R_iload2, R_iload3, R_iload4, R_iload5, R_iload6, R_iload7, R_iload8, R_lload0, R_lload1, R_lload2, R_lload3, R_lload4, R_lload5, R_lload6, R_lload7, R_lload8, R_aload0, R_aload1, R_aload2, R_aload3, R_aload4, R_aload5, R_aload6, R_aload7, R_aload8, R_istore0, R_istore1, R_istore2, R_istore3, R_istore4, R_istore5, R_istore6, R_istore7, R_istore8, R_lstore0, R_lstore1, R_lstore2, R_lstore3, R_lstore4, R_lstore5, R_lstore6, R_lstore7, R_lstore8, R_astore0, R_astore1, R_astore2, R_astore3, R_astore4, R_astore5, R_astore6, R_astore7, R_astore8, R_iinc0, R_iinc1, R_iinc2, R_iinc3, R_iinc4, R_iinc5, R_iinc6, R_iinc7, R_iinc8, KM_61, OM_61, KM_62, OM_62, KM_63, OM_63, KM_64, OM_64, KM_65, OM_65, KM_66, OM_66, KM_67, OM_67, KM_68, OM_68, KM_69, OM_69, KM_70, OM_70, KM_71, OM_71, KM_72, OM_72, KM_73, OM_73, KM_74, OM_74, KM_75, OM_75, KM_76, OM_76, KM_77, OM_77, KM_78, OM_78, KM_79, OM_79, KM_80, OM_80, KM_81, OM_81, KM_82, OM_82, KM_83, OM_83, KM_84, OM_84, KM_85, OM_85, KM_86, OM_86, KM_87, OM_87, KM_88, OM_88, KM_89, OM_89, KM_90, OM_90, KM_91, OM_91, KM_92, OM_92, PM_61_0, PM_61_9, PM_61_10, PM_61_12, PM_61_13, PM_61_15, PM_61_16, PM_61_23, PM_61_28, PM_61_31, PM_61_33, PM_61_34, PM_61_35, PM_61_36, PM_61_37, PM_61_38, PM_61_43, PM_61_44, PM_61_45, PM_61_46, PM_61_47, PM_61_48, PM_61_49, PM_61_50, PM_61_51, PM_61_52, PM_61_53, PM_61_54, PM_61_59, PM_61_60, PM_61_61, Nat.reduceDiv, Nat.reduceMod, Nat.reduceLeDiff, Nat.reduceEqDiff, Int.reduceToNat, Int.reduceLT, Int.reduceLE, Int.reduceEq, Int.reduceNeg, Int.reduceAdd, Int.reduceSub, Int.reduceMul, not_true_eq_false, not_false_eq_true, true_or, or_true, or_false, false_or, false_and, and_false, w32_lit, lc_lt, lc_gt, lc_eq, lc_ge, lc_le, ite10, true_and, and_true, reduceIte, Nat.reduceLT, cats, catA, Nat.reduceAdd, Nat.zero_le, Nat.reduceLeDiff, rdI_lM, and_self, i_M_byteAt, t_M_byteAt hB, e, skp]
  | succ k ih =>
    intro i hi
    have hn := hB.2.1
    rw [b_M_next_0]
    simp only [R_iconst, R_lc, R_null, R_ldc, R_gets0, R_gets1, R_objI, R_dupI, R_dupR, R_popI, R_popR, R_dup2L, R_dup2IR, R_pop2, R_i2l, R_l2i, R_lneg, R_lcmp, R_iadd, R_isub, R_imul, R_iand, R_ior, R_ixor, R_ishl, R_ishr, R_iushr, R_i2b, R_i2c, R_ladd, R_lsub, R_lmul, R_land, R_lor, R_lxor, R_lshl, R_lushr, R_goto, R_gotow, R_ifnullN, R_ifnullS, R_ifnonN, R_ifnonS, R_ifeq, R_ifne, R_iflt, R_ifge, R_ifgt, R_ifle, R_icmpeq, R_icmpne, R_icmplt, R_icmpge, R_icmpgt, R_icmple, R_tsw, R_lsw, R_alen, R_iald, R_bald, R_lald, R_aald, R_iast, R_last, R_bast, R_aast, R_new, R_newI, R_gf, R_pfI, R_pfZ, R_pfL, R_pfR, isZ_0, isZ_1, isZ_ite, gfA_0, gfA_1, gfA_2, gfA_3, opt2_s, opt2_n, R_iload0, R_iload1, R_iload2, R_iload3, R_iload4, R_iload5, R_iload6, R_iload7, R_iload8, R_lload0, R_lload1, R_lload2, R_lload3, R_lload4, R_lload5, R_lload6, R_lload7, R_lload8, R_aload0, R_aload1, R_aload2, R_aload3, R_aload4, R_aload5, R_aload6, R_aload7, R_aload8, R_istore0, R_istore1, R_istore2, R_istore3, R_istore4, R_istore5, R_istore6, R_istore7, R_istore8, R_lstore0, R_lstore1, R_lstore2, R_lstore3, R_lstore4, R_lstore5, R_lstore6, R_lstore7, R_lstore8, R_astore0, R_astore1, R_astore2, R_astore3, R_astore4, R_astore5, R_astore6, R_astore7, R_astore8, R_iinc0, R_iinc1, R_iinc2, R_iinc3, R_iinc4, R_iinc5, R_iinc6, R_iinc7, R_iinc8, KM_61, OM_61, KM_62, OM_62, KM_63, OM_63, KM_64, OM_64, KM_65, OM_65, KM_66, OM_66, KM_67, OM_67, KM_68, OM_68, KM_69, OM_69, KM_70, OM_70, KM_71, OM_71, KM_72, OM_72, KM_73, OM_73, KM_74, OM_74, KM_75, OM_75, KM_76, OM_76, KM_77, OM_77, KM_78, OM_78, KM_79, OM_79, KM_80, OM_80, KM_81, OM_81, KM_82, OM_82, KM_83, OM_83, KM_84, OM_84, KM_85, OM_85, KM_86, OM_86, KM_87, OM_87, KM_88, OM_88, KM_89, OM_89, KM_90, OM_90, KM_91, OM_91, KM_92, OM_92, PM_61_0, PM_61_9, PM_61_10, PM_61_12, PM_61_13, PM_61_15, PM_61_16, PM_61_23, PM_61_28, PM_61_31, PM_61_33, PM_61_34, PM_61_35, PM_61_36, PM_61_37, PM_61_38, PM_61_43, PM_61_44, PM_61_45, PM_61_46, PM_61_47, PM_61_48, PM_61_49, PM_61_50, PM_61_51, PM_61_52, PM_61_53, PM_61_54, PM_61_59, PM_61_60, PM_61_61, Nat.reduceDiv, Nat.reduceMod, Nat.reduceLeDiff, Nat.reduceEqDiff, Int.reduceToNat, Int.reduceLT, Int.reduceLE, Int.reduceEq, Int.reduceNeg, Int.reduceAdd, Int.reduceSub, Int.reduceMul, not_true_eq_false, not_false_eq_true, true_or, or_true, or_false, false_or, false_and, and_false, w32_lit, lc_lt, lc_gt, lc_eq, lc_ge, lc_le, ite10, true_and, and_true, reduceIte, Nat.reduceLT, cats, catA, Nat.reduceAdd, Nat.zero_le, Nat.reduceLeDiff, rdI_lM, and_self, i_M_byteAt, t_M_byteAt hB, skp, b_M_next_26, lM_at]
    rw [show w32 ((i : Int) + 1) = ((i + 1 : Nat) : Int) by rw [w32_id (by omega) (by omega)]; push_cast; rfl, ih (i + 1) (by omega)]
    by_cases c1 : B i = 32
    · simp only [c1, if_true, true_or]
    · by_cases c2 : B i = 10
      · simp only [c2, if_true, or_true, not_true_eq_false, if_false, Int.reduceEq]
      · simp only [c1, c2, or_self, if_false, not_false_eq_true, if_true]
set_option maxRecDepth 10000 in
theorem l_next_word (hB : BM h n B) {p1 : Int} {l1 l2 : AV} : ∀ (k i : Nat) (w : Int64), i + k = n → (Run sysS GM (L + 1) 129 (sysS.2.1 129 80) [vR (some 61), l1, l2] [] (lM h i p1 tk w) Q ↔ Run sysS GM (L + 1) 129 (sysS.2.1 129 128) [vR (some 61), l1, l2] [] (lM h (((wdE B k i w).1 : Nat) : Int) p1 tk (wdE B k i w).2) Q) := by
  intro k
  induction k with
  | zero =>
    intro i w hi
    have hn := hB.2.1
    have e := hB.e (i := i) (by omega)
    rw [b_M_next_80]
    simp only [R_iconst, R_lc, R_null, R_ldc, R_gets0, R_gets1, R_objI, R_dupI, R_dupR, R_popI, R_popR, R_dup2L, R_dup2IR, R_pop2, R_i2l, R_l2i, R_lneg, R_lcmp, R_iadd, R_isub, R_imul, R_iand, R_ior, R_ixor, R_ishl, R_ishr, R_iushr, R_i2b, R_i2c, R_ladd, R_lsub, R_lmul, R_land, R_lor, R_lxor, R_lshl, R_lushr, R_goto, R_gotow, R_ifnullN, R_ifnullS, R_ifnonN, R_ifnonS, R_ifeq, R_ifne, R_iflt, R_ifge, R_ifgt, R_ifle, R_icmpeq, R_icmpne, R_icmplt, R_icmpge, R_icmpgt, R_icmple, R_tsw, R_lsw, R_alen, R_iald, R_bald, R_lald, R_aald, R_iast, R_last, R_bast, R_aast, R_new, R_newI, R_gf, R_pfI, R_pfZ, R_pfL, R_pfR, isZ_0, isZ_1, isZ_ite, gfA_0, gfA_1, gfA_2, gfA_3, opt2_s, opt2_n, R_iload0, R_iload1, R_iload2, R_iload3, R_iload4, R_iload5, R_iload6, R_iload7, R_iload8, R_lload0, R_lload1, R_lload2, R_lload3, R_lload4, R_lload5, R_lload6, R_lload7, R_lload8, R_aload0, R_aload1, R_aload2, R_aload3, R_aload4, R_aload5, R_aload6, R_aload7, R_aload8, R_istore0, R_istore1, R_istore2, R_istore3, R_istore4, R_istore5, R_istore6, R_istore7, R_istore8, R_lstore0, R_lstore1, R_lstore2, R_lstore3, R_lstore4, R_lstore5, R_lstore6, R_lstore7, R_lstore8, R_astore0, R_astore1, R_astore2, R_astore3, R_astore4, R_astore5, R_astore6, R_astore7, R_astore8, R_iinc0, R_iinc1, R_iinc2, R_iinc3, R_iinc4, R_iinc5, R_iinc6, R_iinc7, R_iinc8, KM_61, OM_61, KM_62, OM_62, KM_63, OM_63, KM_64, OM_64, KM_65, OM_65, KM_66, OM_66, KM_67, OM_67, KM_68, OM_68, KM_69, OM_69, KM_70, OM_70, KM_71, OM_71, KM_72, OM_72, KM_73, OM_73, KM_74, OM_74, KM_75, OM_75, KM_76, OM_76, KM_77, OM_77, KM_78, OM_78, KM_79, OM_79, KM_80, OM_80, KM_81, OM_81, KM_82, OM_82, KM_83, OM_83, KM_84, OM_84, KM_85, OM_85, KM_86, OM_86, KM_87, OM_87, KM_88, OM_88, KM_89, OM_89, KM_90, OM_90, KM_91, OM_91, KM_92, OM_92, PM_61_0, PM_61_9, PM_61_10, PM_61_12, PM_61_13, PM_61_15, PM_61_16, PM_61_23, PM_61_28, PM_61_31, PM_61_33, PM_61_34, PM_61_35, PM_61_36, PM_61_37, PM_61_38, PM_61_43, PM_61_44, PM_61_45, PM_61_46, PM_61_47, PM_61_48, PM_61_49, PM_61_50, PM_61_51, PM_61_52, PM_61_53, PM_61_54, PM_61_59, PM_61_60, PM_61_61, Nat.reduceDiv, Nat.reduceMod, Nat.reduceLeDiff, Nat.reduceEqDiff, Int.reduceToNat, Int.reduceLT, Int.reduceLE, Int.reduceEq, Int.reduceNeg, Int.reduceAdd, Int.reduceSub, Int.reduceMul, not_true_eq_false, not_false_eq_true, true_or, or_true, or_false, false_or, false_and, and_false, w32_lit, lc_lt, lc_gt, lc_eq, lc_ge, lc_le, ite10, true_and, and_true, reduceIte, Nat.reduceLT, cats, catA, Nat.reduceAdd, Nat.zero_le, Nat.reduceLeDiff, rdI_lM, and_self, i_M_byteAt, t_M_byteAt hB, e, wdE, i_M_isLetter, t_M_isLetter]
  | succ k ih =>
    intro i w hi
    have hn := hB.2.1
    have hb := hB.b (i := i) (by omega)
    rw [b_M_next_80]
    simp only [R_iconst, R_lc, R_null, R_ldc, R_gets0, R_gets1, R_objI, R_dupI, R_dupR, R_popI, R_popR, R_dup2L, R_dup2IR, R_pop2, R_i2l, R_l2i, R_lneg, R_lcmp, R_iadd, R_isub, R_imul, R_iand, R_ior, R_ixor, R_ishl, R_ishr, R_iushr, R_i2b, R_i2c, R_ladd, R_lsub, R_lmul, R_land, R_lor, R_lxor, R_lshl, R_lushr, R_goto, R_gotow, R_ifnullN, R_ifnullS, R_ifnonN, R_ifnonS, R_ifeq, R_ifne, R_iflt, R_ifge, R_ifgt, R_ifle, R_icmpeq, R_icmpne, R_icmplt, R_icmpge, R_icmpgt, R_icmple, R_tsw, R_lsw, R_alen, R_iald, R_bald, R_lald, R_aald, R_iast, R_last, R_bast, R_aast, R_new, R_newI, R_gf, R_pfI, R_pfZ, R_pfL, R_pfR, isZ_0, isZ_1, isZ_ite, gfA_0, gfA_1, gfA_2, gfA_3, opt2_s, opt2_n, R_iload0, R_iload1, R_iload2, R_iload3, R_iload4, R_iload5, R_iload6, R_iload7, R_iload8, R_lload0, R_lload1, R_lload2, R_lload3, R_lload4, R_lload5, R_lload6, R_lload7, R_lload8, R_aload0, R_aload1, R_aload2, R_aload3, R_aload4, R_aload5, R_aload6, R_aload7, R_aload8, R_istore0, R_istore1, R_istore2, R_istore3, R_istore4, R_istore5, R_istore6, R_istore7, R_istore8, R_lstore0, R_lstore1, R_lstore2, R_lstore3, R_lstore4, R_lstore5, R_lstore6, R_lstore7, R_lstore8, R_astore0, R_astore1, R_astore2, R_astore3, R_astore4, R_astore5, R_astore6, R_astore7, R_astore8, R_iinc0, R_iinc1, R_iinc2, R_iinc3, R_iinc4, R_iinc5, R_iinc6, R_iinc7, R_iinc8, KM_61, OM_61, KM_62, OM_62, KM_63, OM_63, KM_64, OM_64, KM_65, OM_65, KM_66, OM_66, KM_67, OM_67, KM_68, OM_68, KM_69, OM_69, KM_70, OM_70, KM_71, OM_71, KM_72, OM_72, KM_73, OM_73, KM_74, OM_74, KM_75, OM_75, KM_76, OM_76, KM_77, OM_77, KM_78, OM_78, KM_79, OM_79, KM_80, OM_80, KM_81, OM_81, KM_82, OM_82, KM_83, OM_83, KM_84, OM_84, KM_85, OM_85, KM_86, OM_86, KM_87, OM_87, KM_88, OM_88, KM_89, OM_89, KM_90, OM_90, KM_91, OM_91, KM_92, OM_92, PM_61_0, PM_61_9, PM_61_10, PM_61_12, PM_61_13, PM_61_15, PM_61_16, PM_61_23, PM_61_28, PM_61_31, PM_61_33, PM_61_34, PM_61_35, PM_61_36, PM_61_37, PM_61_38, PM_61_43, PM_61_44, PM_61_45, PM_61_46, PM_61_47, PM_61_48, PM_61_49, PM_61_50, PM_61_51, PM_61_52, PM_61_53, PM_61_54, PM_61_59, PM_61_60, PM_61_61, Nat.reduceDiv, Nat.reduceMod, Nat.reduceLeDiff, Nat.reduceEqDiff, Int.reduceToNat, Int.reduceLT, Int.reduceLE, Int.reduceEq, Int.reduceNeg, Int.reduceAdd, Int.reduceSub, Int.reduceMul, not_true_eq_false, not_false_eq_true, true_or, or_true, or_false, false_or, false_and, and_false, w32_lit, lc_lt, lc_gt, lc_eq, lc_ge, lc_le, ite10, true_and, and_true, reduceIte, Nat.reduceLT, cats, catA, Nat.reduceAdd, Nat.zero_le, Nat.reduceLeDiff, rdI_lM, rdL_lM, and_self, i_M_byteAt, t_M_byteAt hB, wdE, i_M_isLetter, t_M_isLetter, lM_at, lM_w]
    rw [show w32 ((i : Int) + 1) = ((i + 1 : Nat) : Int) by rw [w32_id (by omega) (by omega)]; push_cast; rfl, ih (i + 1) _ (by omega)]
    by_cases c1 : 97 ≤ B i ∧ B i ≤ 122
    · simp only [c1, and_self, if_true, not_true_eq_false, if_false]
    · simp only [c1, not_false_eq_true, if_true, if_false]
theorem nm_eq (w : Int64) {c : Int} (h0 : 0 ≤ c) (h1 : c ≤ 255) : Int64.ofInt 10 * w + (Int32.ofInt c).toInt64 - Int64.ofInt 48 = w * Int64.ofInt 10 + Int64.ofInt (c - 48) := by
  rw [i2l_id (by omega) (by omega), Int64.ofInt_sub, Int64.mul_comm w, Int64.sub_eq_add_neg, Int64.sub_eq_add_neg, Int64.add_assoc]
set_option maxRecDepth 10000 in
theorem l_next_num (hB : BM h n B) {p1 : Nat} {l1 l2 : AV} : ∀ (k i : Nat) (w v : Int64), i + k = n → p1 ≤ i → (i - p1 ≤ 9 → w = v) → ∃ w', ((nmE B k i v).1 - p1 ≤ 9 → w' = (nmE B k i v).2) ∧ ∀ Q, (Run sysS GM (L + 1) 129 (sysS.2.1 129 219) [vR (some 61), l1, l2] [] (lM h i p1 tk w) Q ↔ Run sysS GM (L + 1) 129 (sysS.2.1 129 293) [vR (some 61), l1, l2] [] (lM h (((nmE B k i v).1 : Nat) : Int) p1 tk w') Q) := by
  intro k
  induction k with
  | zero =>
    intro i w v hi hp hw
    have hn := hB.2.1
    have e := hB.e (i := i) (by omega)
    refine ⟨w, hw, fun Q => ?_⟩
    rw [b_M_next_219]
    simp only [R_iconst, R_lc, R_null, R_ldc, R_gets0, R_gets1, R_objI, R_dupI, R_dupR, R_popI, R_popR, R_dup2L, R_dup2IR, R_pop2, R_i2l, R_l2i, R_lneg, R_lcmp, R_iadd, R_isub, R_imul, R_iand, R_ior, R_ixor, R_ishl, R_ishr, R_iushr, R_i2b, R_i2c, R_ladd, R_lsub, R_lmul, R_land, R_lor, R_lxor, R_lshl, R_lushr, R_goto, R_gotow, R_ifnullN, R_ifnullS, R_ifnonN, R_ifnonS, R_ifeq, R_ifne, R_iflt, R_ifge, R_ifgt, R_ifle, R_icmpeq, R_icmpne, R_icmplt, R_icmpge, R_icmpgt, R_icmple, R_tsw, R_lsw, R_alen, R_iald, R_bald, R_lald, R_aald, R_iast, R_last, R_bast, R_aast, R_new, R_newI, R_gf, R_pfI, R_pfZ, R_pfL, R_pfR, isZ_0, isZ_1, isZ_ite, gfA_0, gfA_1, gfA_2, gfA_3, opt2_s, opt2_n, R_iload0, R_iload1, R_iload2, R_iload3, R_iload4, R_iload5, R_iload6, R_iload7, R_iload8, R_lload0, R_lload1, R_lload2, R_lload3, R_lload4, R_lload5, R_lload6, R_lload7, R_lload8, R_aload0, R_aload1, R_aload2, R_aload3, R_aload4, R_aload5, R_aload6, R_aload7, R_aload8, R_istore0, R_istore1, R_istore2, R_istore3, R_istore4, R_istore5, R_istore6, R_istore7, R_istore8, R_lstore0, R_lstore1, R_lstore2, R_lstore3, R_lstore4, R_lstore5, R_lstore6, R_lstore7, R_lstore8, R_astore0, R_astore1, R_astore2, R_astore3, R_astore4, R_astore5, R_astore6, R_astore7, R_astore8, R_iinc0, R_iinc1, R_iinc2, R_iinc3, R_iinc4, R_iinc5, R_iinc6, R_iinc7, R_iinc8, KM_61, OM_61, KM_62, OM_62, KM_63, OM_63, KM_64, OM_64, KM_65, OM_65, KM_66, OM_66, KM_67, OM_67, KM_68, OM_68, KM_69, OM_69, KM_70, OM_70, KM_71, OM_71, KM_72, OM_72, KM_73, OM_73, KM_74, OM_74, KM_75, OM_75, KM_76, OM_76, KM_77, OM_77, KM_78, OM_78, KM_79, OM_79, KM_80, OM_80, KM_81, OM_81, KM_82, OM_82, KM_83, OM_83, KM_84, OM_84, KM_85, OM_85, KM_86, OM_86, KM_87, OM_87, KM_88, OM_88, KM_89, OM_89, KM_90, OM_90, KM_91, OM_91, KM_92, OM_92, PM_61_0, PM_61_9, PM_61_10, PM_61_12, PM_61_13, PM_61_15, PM_61_16, PM_61_23, PM_61_28, PM_61_31, PM_61_33, PM_61_34, PM_61_35, PM_61_36, PM_61_37, PM_61_38, PM_61_43, PM_61_44, PM_61_45, PM_61_46, PM_61_47, PM_61_48, PM_61_49, PM_61_50, PM_61_51, PM_61_52, PM_61_53, PM_61_54, PM_61_59, PM_61_60, PM_61_61, Nat.reduceDiv, Nat.reduceMod, Nat.reduceLeDiff, Nat.reduceEqDiff, Int.reduceToNat, Int.reduceLT, Int.reduceLE, Int.reduceEq, Int.reduceNeg, Int.reduceAdd, Int.reduceSub, Int.reduceMul, not_true_eq_false, not_false_eq_true, true_or, or_true, or_false, false_or, false_and, and_false, w32_lit, lc_lt, lc_gt, lc_eq, lc_ge, lc_le, ite10, true_and, and_true, reduceIte, Nat.reduceLT, cats, catA, Nat.reduceAdd, Nat.zero_le, Nat.reduceLeDiff, rdI_lM, and_self, i_M_byteAt, t_M_byteAt hB, e, nmE, i_M_isDigit, t_M_isDigit]
  | succ k ih =>
    intro i w v hi hp hw
    have hn := hB.2.1
    have hb := hB.b (i := i) (by omega)
    by_cases c1 : 48 ≤ B i ∧ B i ≤ 57
    · simp only [nmE, c1, and_self, if_true]
      by_cases c2 : i - p1 < 9
      · obtain ⟨w', a1, a2⟩ := ih (i + 1) (v * Int64.ofInt 10 + Int64.ofInt (B i - 48)) (v * Int64.ofInt 10 + Int64.ofInt (B i - 48)) (by omega) (by omega) (fun _ => rfl)
        refine ⟨w', a1, fun Q => ?_⟩
        rw [b_M_next_219, hw (by omega)]
        simp only [R_iconst, R_lc, R_null, R_ldc, R_gets0, R_gets1, R_objI, R_dupI, R_dupR, R_popI, R_popR, R_dup2L, R_dup2IR, R_pop2, R_i2l, R_l2i, R_lneg, R_lcmp, R_iadd, R_isub, R_imul, R_iand, R_ior, R_ixor, R_ishl, R_ishr, R_iushr, R_i2b, R_i2c, R_ladd, R_lsub, R_lmul, R_land, R_lor, R_lxor, R_lshl, R_lushr, R_goto, R_gotow, R_ifnullN, R_ifnullS, R_ifnonN, R_ifnonS, R_ifeq, R_ifne, R_iflt, R_ifge, R_ifgt, R_ifle, R_icmpeq, R_icmpne, R_icmplt, R_icmpge, R_icmpgt, R_icmple, R_tsw, R_lsw, R_alen, R_iald, R_bald, R_lald, R_aald, R_iast, R_last, R_bast, R_aast, R_new, R_newI, R_gf, R_pfI, R_pfZ, R_pfL, R_pfR, isZ_0, isZ_1, isZ_ite, gfA_0, gfA_1, gfA_2, gfA_3, opt2_s, opt2_n, R_iload0, R_iload1, R_iload2, R_iload3, R_iload4, R_iload5, R_iload6, R_iload7, R_iload8, R_lload0, R_lload1, R_lload2, R_lload3, R_lload4, R_lload5, R_lload6, R_lload7, R_lload8, R_aload0, R_aload1, R_aload2, R_aload3, R_aload4, R_aload5, R_aload6, R_aload7, R_aload8, R_istore0, R_istore1, R_istore2, R_istore3, R_istore4, R_istore5, R_istore6, R_istore7, R_istore8, R_lstore0, R_lstore1, R_lstore2, R_lstore3, R_lstore4, R_lstore5, R_lstore6, R_lstore7, R_lstore8, R_astore0, R_astore1, R_astore2, R_astore3, R_astore4, R_astore5, R_astore6, R_astore7, R_astore8, R_iinc0, R_iinc1, R_iinc2, R_iinc3, R_iinc4, R_iinc5, R_iinc6, R_iinc7, R_iinc8, KM_61, OM_61, KM_62, OM_62, KM_63, OM_63, KM_64, OM_64, KM_65, OM_65, KM_66, OM_66, KM_67, OM_67, KM_68, OM_68, KM_69, OM_69, KM_70, OM_70, KM_71, OM_71, KM_72, OM_72, KM_73, OM_73, KM_74, OM_74, KM_75, OM_75, KM_76, OM_76, KM_77, OM_77, KM_78, OM_78, KM_79, OM_79, KM_80, OM_80, KM_81, OM_81, KM_82, OM_82, KM_83, OM_83, KM_84, OM_84, KM_85, OM_85, KM_86, OM_86, KM_87, OM_87, KM_88, OM_88, KM_89, OM_89, KM_90, OM_90, KM_91, OM_91, KM_92, OM_92, PM_61_0, PM_61_9, PM_61_10, PM_61_12, PM_61_13, PM_61_15, PM_61_16, PM_61_23, PM_61_28, PM_61_31, PM_61_33, PM_61_34, PM_61_35, PM_61_36, PM_61_37, PM_61_38, PM_61_43, PM_61_44, PM_61_45, PM_61_46, PM_61_47, PM_61_48, PM_61_49, PM_61_50, PM_61_51, PM_61_52, PM_61_53, PM_61_54, PM_61_59, PM_61_60, PM_61_61, Nat.reduceDiv, Nat.reduceMod, Nat.reduceLeDiff, Nat.reduceEqDiff, Int.reduceToNat, Int.reduceLT, Int.reduceLE, Int.reduceEq, Int.reduceNeg, Int.reduceAdd, Int.reduceSub, Int.reduceMul, not_true_eq_false, not_false_eq_true, true_or, or_true, or_false, false_or, false_and, and_false, w32_lit, lc_lt, lc_gt, lc_eq, lc_ge, lc_le, ite10, true_and, and_true, reduceIte, Nat.reduceLT, cats, catA, Nat.reduceAdd, Nat.zero_le, Nat.reduceLeDiff, rdI_lM, rdL_lM, and_self, i_M_byteAt, t_M_byteAt hB, i_M_isDigit, t_M_isDigit, lM_at, lM_w, c1, not_true_eq_false, if_false, b_M_next_277, nm_eq v hb.1 hb.2]
        rw [show w32 ((i : Int) + 1) = ((i + 1 : Nat) : Int) by rw [w32_id (by omega) (by omega)]; push_cast; rfl, show w32 ((i : Int) - p1) = ((i - p1 : Nat) : Int) by rw [w32_id (by omega) (by omega)]; omega, if_neg (by omega)]
        exact a2 Q
      · obtain ⟨w', a1, a2⟩ := ih (i + 1) w (v * Int64.ofInt 10 + Int64.ofInt (B i - 48)) (by omega) (by omega) (fun q => by omega)
        refine ⟨w', a1, fun Q => ?_⟩
        rw [b_M_next_219]
        simp only [R_iconst, R_lc, R_null, R_ldc, R_gets0, R_gets1, R_objI, R_dupI, R_dupR, R_popI, R_popR, R_dup2L, R_dup2IR, R_pop2, R_i2l, R_l2i, R_lneg, R_lcmp, R_iadd, R_isub, R_imul, R_iand, R_ior, R_ixor, R_ishl, R_ishr, R_iushr, R_i2b, R_i2c, R_ladd, R_lsub, R_lmul, R_land, R_lor, R_lxor, R_lshl, R_lushr, R_goto, R_gotow, R_ifnullN, R_ifnullS, R_ifnonN, R_ifnonS, R_ifeq, R_ifne, R_iflt, R_ifge, R_ifgt, R_ifle, R_icmpeq, R_icmpne, R_icmplt, R_icmpge, R_icmpgt, R_icmple, R_tsw, R_lsw, R_alen, R_iald, R_bald, R_lald, R_aald, R_iast, R_last, R_bast, R_aast, R_new, R_newI, R_gf, R_pfI, R_pfZ, R_pfL, R_pfR, isZ_0, isZ_1, isZ_ite, gfA_0, gfA_1, gfA_2, gfA_3, opt2_s, opt2_n, R_iload0, R_iload1, R_iload2, R_iload3, R_iload4, R_iload5, R_iload6, R_iload7, R_iload8, R_lload0, R_lload1, R_lload2, R_lload3, R_lload4, R_lload5, R_lload6, R_lload7, R_lload8, R_aload0, R_aload1, R_aload2, R_aload3, R_aload4, R_aload5, R_aload6, R_aload7, R_aload8, R_istore0, R_istore1, R_istore2, R_istore3, R_istore4, R_istore5, R_istore6, R_istore7, R_istore8, R_lstore0, R_lstore1, R_lstore2, R_lstore3, R_lstore4, R_lstore5, R_lstore6, R_lstore7, R_lstore8, R_astore0, R_astore1, R_astore2, R_astore3, R_astore4, R_astore5, R_astore6, R_astore7, R_astore8, R_iinc0, R_iinc1, R_iinc2, R_iinc3, R_iinc4, R_iinc5, R_iinc6, R_iinc7, R_iinc8, KM_61, OM_61, KM_62, OM_62, KM_63, OM_63, KM_64, OM_64, KM_65, OM_65, KM_66, OM_66, KM_67, OM_67, KM_68, OM_68, KM_69, OM_69, KM_70, OM_70, KM_71, OM_71, KM_72, OM_72, KM_73, OM_73, KM_74, OM_74, KM_75, OM_75, KM_76, OM_76, KM_77, OM_77, KM_78, OM_78, KM_79, OM_79, KM_80, OM_80, KM_81, OM_81, KM_82, OM_82, KM_83, OM_83, KM_84, OM_84, KM_85, OM_85, KM_86, OM_86, KM_87, OM_87, KM_88, OM_88, KM_89, OM_89, KM_90, OM_90, KM_91, OM_91, KM_92, OM_92, PM_61_0, PM_61_9, PM_61_10, PM_61_12, PM_61_13, PM_61_15, PM_61_16, PM_61_23, PM_61_28, PM_61_31, PM_61_33, PM_61_34, PM_61_35, PM_61_36, PM_61_37, PM_61_38, PM_61_43, PM_61_44, PM_61_45, PM_61_46, PM_61_47, PM_61_48, PM_61_49, PM_61_50, PM_61_51, PM_61_52, PM_61_53, PM_61_54, PM_61_59, PM_61_60, PM_61_61, Nat.reduceDiv, Nat.reduceMod, Nat.reduceLeDiff, Nat.reduceEqDiff, Int.reduceToNat, Int.reduceLT, Int.reduceLE, Int.reduceEq, Int.reduceNeg, Int.reduceAdd, Int.reduceSub, Int.reduceMul, not_true_eq_false, not_false_eq_true, true_or, or_true, or_false, false_or, false_and, and_false, w32_lit, lc_lt, lc_gt, lc_eq, lc_ge, lc_le, ite10, true_and, and_true, reduceIte, Nat.reduceLT, cats, catA, Nat.reduceAdd, Nat.zero_le, Nat.reduceLeDiff, rdI_lM, rdL_lM, and_self, i_M_byteAt, t_M_byteAt hB, i_M_isDigit, t_M_isDigit, lM_at, lM_w, c1, not_true_eq_false, if_false, b_M_next_277, b_M_next_273]
        rw [show w32 ((i : Int) + 1) = ((i + 1 : Nat) : Int) by rw [w32_id (by omega) (by omega)]; push_cast; rfl, show w32 ((i : Int) - p1) = ((i - p1 : Nat) : Int) by rw [w32_id (by omega) (by omega)]; omega, if_pos (by omega)]
        exact a2 Q
    · simp only [nmE, c1, if_false]
      refine ⟨w, hw, fun Q => ?_⟩
      rw [b_M_next_219]
      simp only [R_iconst, R_lc, R_null, R_ldc, R_gets0, R_gets1, R_objI, R_dupI, R_dupR, R_popI, R_popR, R_dup2L, R_dup2IR, R_pop2, R_i2l, R_l2i, R_lneg, R_lcmp, R_iadd, R_isub, R_imul, R_iand, R_ior, R_ixor, R_ishl, R_ishr, R_iushr, R_i2b, R_i2c, R_ladd, R_lsub, R_lmul, R_land, R_lor, R_lxor, R_lshl, R_lushr, R_goto, R_gotow, R_ifnullN, R_ifnullS, R_ifnonN, R_ifnonS, R_ifeq, R_ifne, R_iflt, R_ifge, R_ifgt, R_ifle, R_icmpeq, R_icmpne, R_icmplt, R_icmpge, R_icmpgt, R_icmple, R_tsw, R_lsw, R_alen, R_iald, R_bald, R_lald, R_aald, R_iast, R_last, R_bast, R_aast, R_new, R_newI, R_gf, R_pfI, R_pfZ, R_pfL, R_pfR, isZ_0, isZ_1, isZ_ite, gfA_0, gfA_1, gfA_2, gfA_3, opt2_s, opt2_n, R_iload0, R_iload1, R_iload2, R_iload3, R_iload4, R_iload5, R_iload6, R_iload7, R_iload8, R_lload0, R_lload1, R_lload2, R_lload3, R_lload4, R_lload5, R_lload6, R_lload7, R_lload8, R_aload0, R_aload1, R_aload2, R_aload3, R_aload4, R_aload5, R_aload6, R_aload7, R_aload8, R_istore0, R_istore1, R_istore2, R_istore3, R_istore4, R_istore5, R_istore6, R_istore7, R_istore8, R_lstore0, R_lstore1, R_lstore2, R_lstore3, R_lstore4, R_lstore5, R_lstore6, R_lstore7, R_lstore8, R_astore0, R_astore1, R_astore2, R_astore3, R_astore4, R_astore5, R_astore6, R_astore7, R_astore8, R_iinc0, R_iinc1, R_iinc2, R_iinc3, R_iinc4, R_iinc5, R_iinc6, R_iinc7, R_iinc8, KM_61, OM_61, KM_62, OM_62, KM_63, OM_63, KM_64, OM_64, KM_65, OM_65, KM_66, OM_66, KM_67, OM_67, KM_68, OM_68, KM_69, OM_69, KM_70, OM_70, KM_71, OM_71, KM_72, OM_72, KM_73, OM_73, KM_74, OM_74, KM_75, OM_75, KM_76, OM_76, KM_77, OM_77, KM_78, OM_78, KM_79, OM_79, KM_80, OM_80, KM_81, OM_81, KM_82, OM_82, KM_83, OM_83, KM_84, OM_84, KM_85, OM_85, KM_86, OM_86, KM_87, OM_87, KM_88, OM_88, KM_89, OM_89, KM_90, OM_90, KM_91, OM_91, KM_92, OM_92, PM_61_0, PM_61_9, PM_61_10, PM_61_12, PM_61_13, PM_61_15, PM_61_16, PM_61_23, PM_61_28, PM_61_31, PM_61_33, PM_61_34, PM_61_35, PM_61_36, PM_61_37, PM_61_38, PM_61_43, PM_61_44, PM_61_45, PM_61_46, PM_61_47, PM_61_48, PM_61_49, PM_61_50, PM_61_51, PM_61_52, PM_61_53, PM_61_54, PM_61_59, PM_61_60, PM_61_61, Nat.reduceDiv, Nat.reduceMod, Nat.reduceLeDiff, Nat.reduceEqDiff, Int.reduceToNat, Int.reduceLT, Int.reduceLE, Int.reduceEq, Int.reduceNeg, Int.reduceAdd, Int.reduceSub, Int.reduceMul, not_true_eq_false, not_false_eq_true, true_or, or_true, or_false, false_or, false_and, and_false, w32_lit, lc_lt, lc_gt, lc_eq, lc_ge, lc_le, ite10, true_and, and_true, reduceIte, Nat.reduceLT, cats, catA, Nat.reduceAdd, Nat.zero_le, Nat.reduceLeDiff, rdI_lM, rdL_lM, and_self, i_M_byteAt, t_M_byteAt hB, i_M_isDigit, t_M_isDigit, c1, not_false_eq_true, if_true, if_false]
end LXM
