/-! the reference reads one part of a text -/
/-- what a part leaves as it was: steps below c, begins and ends but where I says -/
def Mz (h g : AH) (c : Nat) (I : Nat → Prop) : Prop := (∀ b j, ¬ (b = 61 ∧ (j = 2 ∨ j = 3 ∨ j = 4 ∨ j = 6 ∨ j = 7 ∨ j = 8 ∨ j = 11 ∨ j = 14)) → b ≠ 63 → b ≠ 64 → ¬ (b = 65 ∧ c ≤ j) → ¬ ((b = 67 ∨ b = 68) ∧ I j) → rdI g b j = rdI h b j) ∧ (∀ b j, ¬ (b = 61 ∧ j = 5) → ¬ (b = 66 ∧ c ≤ j) → rdL g b j = rdL h b j) ∧ g.2.2 = h.2.2
section MZ
variable {h g k : AH} {c c' top base i o n t : Nat} {I I' : Nat → Prop} {T : Tx} {f : Cd}
theorem Mz.of (x : Mv h g c top) : Mz h g c I := ⟨fun b j p q r s _ => x.1 b j p q r s, fun b j p q => x.2.1 b j p q, x.2.2.1⟩
theorem Mz.tr (x : Mz h g c I) (y : Mz g k c' I') (hc : c ≤ c') (hI : ∀ j, I' j → I j) : Mz h k c I := by
  refine ⟨fun b j p q r s u => (y.1 b j p q r (by omega) (fun z => u ⟨z.1, hI j z.2⟩)).trans (x.1 b j p q r s u), fun b j p q => (y.2.1 b j p (by omega)).trans (x.2.1 b j p q), y.2.2.trans x.2.2⟩
theorem Mz.w {r j : Nat} {x : Int} (hr : r = 67 ∨ r = 68) (hj : I j) : Mz h (wrI h r j x) c I := by
  refine ⟨fun b i p q r' s u => ?_, fun _ _ _ _ => rfl, rfl⟩
  rw [rdI_wrI, if_neg]
  rintro ⟨rfl, rfl⟩
  exact u ⟨hr, hj⟩
theorem BM_Z {N : Nat} {B : Nat → Int} (x : Mz h g c I) (hB : BM h N B) : BM g N B := by
  refine ⟨by rw [x.1 _ _ (by omega) (by omega) (by omega) (by omega) (by omega)]; exact hB.1, hB.2.1, fun i => ?_⟩
  rw [← hB.2.2 i]
  unfold bt
  rw [x.1 _ _ (by omega) (by omega) (by omega) (by omega) (by omega)]
theorem TrS_Z {a b : Nat} (x : Mz h g (base + c) I) (hb : b ≤ c) (hT : TrS h base f a b) : TrS g base f a b := by
  intro j h1 h2
  rw [x.1 _ _ (by omega) (by omega) (by omega) (by omega) (by omega), x.2.1 _ _ (by omega) (by omega)]
  exact hT j h1 h2
theorem MS.row {r j : Nat} {x : Int} (hr : r = 67 ∨ r = 68) (hM : MS h T base i o n top) : MS (wrI h r j x) T base i o n top := by
  obtain ⟨h1, h2, h3, h4, h5, h6, h7, h8⟩ := hM
  refine ⟨BM_Z (Mz.w (c := 0) (I := fun _ => True) hr trivial) h1, ?_, ?_, ?_, ?_, ?_, ?_, ?_⟩ <;> rcases hr with rfl | rfl <;> simp [rdI_wrI, rdL_wrI, h2, h3, h4, h5, h6, h7, h8]
theorem MS.tp {top' : Nat} (hM : MS h T base i o n top) : MS (wrI h 61 11 (top' : Int)) T base i o n top' := by
  obtain ⟨h1, h2, h3, h4, h5, h6, h7, h8⟩ := hM
  refine ⟨BM_M (Mv.wF (c := 0) (top := 0) (by omega)) h1, ?_, ?_, ?_, ?_, ?_, ?_, ?_⟩ <;> simp [rdI_wrI, rdL_wrI, h2, h3, h4, h6, h7, h8]
end MZ
/-! where it stands, whatever the pile's top -/
def MSq (h : AH) (T : Tx) (base i o n : Nat) : Prop := BM h T.2.1 T.1 ∧ rdI h 61 6 = 0 ∧ rdI h 61 8 = o ∧ rdI h 61 14 = ((base + n : Nat) : Int) ∧ rdI h 61 2 = T.q i ∧ rdI h 61 3 = T.pl i ∧ TkM (T.kd i) (T.vl i) (rdI h 61 4) (rdL h 61 5)
section MQS
variable {h : AH} {L base i o n top : Nat} {T : Tx} {Q : Option AV → AH → Prop}
theorem MSq.of (hM : MS h T base i o n top) : MSq h T base i o n := by
  obtain ⟨h1, h2, h3, h4, h5, h6, h7, h8⟩ := hM
  exact ⟨h1, h2, h3, h4, h6, h7, h8⟩
theorem MSq.ms (hM : MSq h T base i o n) : MS (wrI h 61 11 (top : Int)) T base i o n top := by
  obtain ⟨h1, h2, h3, h4, h6, h7, h8⟩ := hM
  refine ⟨BM_M (Mv.wF (c := 0) (top := 0) (by omega)) h1, ?_, ?_, ?_, ?_, ?_, ?_, ?_⟩ <;> simp [rdI_wrI, rdL_wrI, h2, h3, h4, h6, h7, h8]
theorem MSq.row {r j : Nat} {x : Int} (hr : r = 67 ∨ r = 68) (hM : MSq h T base i o n) : MSq (wrI h r j x) T base i o n := by
  obtain ⟨h1, h2, h3, h4, h6, h7, h8⟩ := hM
  refine ⟨BM_Z (Mz.w (c := 0) (I := fun _ => True) hr trivial) h1, ?_, ?_, ?_, ?_, ?_, ?_⟩ <;> rcases hr with rfl | rfl <;> simp [rdI_wrI, rdL_wrI, h2, h3, h4, h6, h7, h8]
theorem v_next (hT : TxOK T) (hM : MSq h T base i o n) (hi : i < T.m) (hq : ∀ g, MSq g T base (i + 1) o n → (∀ c t, Mv h g c t) → Q none g) : Call sysS GM (L + 2) 129 [vR (some 61)] h Q := by
  obtain ⟨h1, h2, h3, h4, h6, h7, h8⟩ := hM
  obtain ⟨c1, c2, c3⟩ := Ch_q hT.1 hi
  obtain ⟨tk', w', d1, d2⟩ := t_M_next (L := L) (pl := rdI h 61 3) (tk := rdI h 61 4) (w := rdL h 61 5) h1 c3 c1
  have e := d2 Q
  rw [← h6, ← lM_self] at e
  rw [e]
  refine hq _ ⟨BM_M (Mv.lM (c := 0) (top := 0)) h1, ?_, ?_, ?_, ?_, ?_, ?_⟩ (fun c t => Mv.lM) <;> simp [rdI_lM, rdL_lM, h2, h3, h4]
  exact d1
/-- the first token -/
theorem v_first (hT : TxOK T) (h1 : BM h T.2.1 T.1) (h2 : rdI h 61 6 = 0) (h3 : rdI h 61 8 = o) (h4 : rdI h 61 14 = ((base + n : Nat) : Int)) (h6 : rdI h 61 2 = 0) (hq : ∀ g, MSq g T base 0 o n → (∀ c t, Mv h g c t) → Q none g) : Call sysS GM (L + 2) 129 [vR (some 61)] h Q := by
  have c1 := hT.1.2.1
  obtain ⟨tk', w', d1, d2⟩ := t_M_next (L := L) (pl := rdI h 61 3) (tk := rdI h 61 4) (w := rdL h 61 5) h1 (Nat.zero_le _) c1
  have e := d2 Q
  have h6' : rdI h 61 2 = ((0 : Nat) : Int) := h6
  rw [← h6', ← lM_self] at e
  rw [e]
  refine hq _ ⟨BM_M (Mv.lM (c := 0) (top := 0)) h1, ?_, ?_, ?_, ?_, ?_, ?_⟩ (fun c t => Mv.lM) <;> simp [rdI_lM, rdL_lM, h2, h3, h4]
  exact d1
theorem v_bad (hM : MSq h T base i o n) (hq : ∀ g, WF g (if T.kd i = -2 then 1 else 2) (T.pl i) → (∀ c t, Mv h g c t) → Q none g) : Call sysS GM (L + 1) 136 [vR (some 61)] h Q := by
  obtain ⟨h1, h2, h3, h4, h6, h7, h8⟩ := hM
  rw [t_M_bad h2]
  have ho := TkM_odd h8
  refine hq _ ⟨?_, by split <;> decide, ?_⟩ (fun c t => (Mv.wF (by omega)).tr (Mv.wF (c := c) (top := t) (by omega)) (Nat.le_refl _) (Nat.le_refl _))
  · simp only [rdI_wrI]
    by_cases c : T.kd i = -2
    · have := ho.mpr c
      simp [this, c]
    · have : ¬ rdI h 61 4 = 1 := fun q => c (ho.mp q)
      simp [this, c]
  · simp [rdI_wrI, h7]
theorem v_fault {k : Int} (hk : k ≠ 0) (hM : MSq h T base i o n) (hq : ∀ g, WF g k (T.pl i) → (∀ c t, Mv h g c t) → Q none g) : Call sysS GM L 135 [vR (some 61), vI k] h Q := by
  obtain ⟨h1, h2, h3, h4, h6, h7, h8⟩ := hM
  rw [t_M_faultI h2]
  refine hq _ ⟨by simp [rdI_wrI], hk, by simp [rdI_wrI, h7]⟩ (fun c t => (Mv.wF (by omega)).tr (Mv.wF (c := c) (top := t) (by omega)) (Nat.le_refl _) (Nat.le_refl _))
theorem v_sign {c : Int} (hM : MSq h T base i o n) (hc : isSg c) : Call sysS GM L 132 [vR (some 61), vI c] h Q ↔ Q (some (vI (if T.kd i = c then 1 else 0))) h := by
  obtain ⟨h1, h2, h3, h4, h6, h7, h8⟩ := hM
  rw [t_M_isSign (by unfold isSg at hc; exact ⟨by omega, by omega⟩)]
  have := TkM_sign h8 hc
  by_cases d : T.kd i = c
  · rw [if_pos (this.mpr d), if_pos d]
  · rw [if_neg (fun q => d (this.mp q)), if_neg d]
theorem v_key {c : Int} (hM : MSq h T base i o n) (hc : isLg (Int64.ofInt c)) (hi : inr c) : Call sysS GM L 133 [vR (some 61), vL (Int64.ofInt c)] h Q ↔ Q (some (vI (if T.kd i = c then 1 else 0))) h := by
  obtain ⟨h1, h2, h3, h4, h6, h7, h8⟩ := hM
  rw [t_M_isKey]
  have := TkM_key h8 hc hi
  by_cases d : T.kd i = c
  · rw [if_pos (this.mpr d), if_pos d]
  · rw [if_neg (fun q => d (this.mp q)), if_neg d]
end MQS
section MPT
variable {h : AH} {L base i o n top t w : Nat} {T : Tx} {f : Cd} {Q : Option AV → AH → Prop} {l1 l2 l3 : AV} {st : Int}
def opart (h : AH) (k c : Nat) (b : Int) : AH := opsh (wrI (wrI h 67 k (c : Int)) 61 11 ((0 : Nat) : Int)) 0 b 0
theorem opart_M {k : Nat} {b : Int} (hM : MSq h T base i o n) : MS (opart h k (base + n) b) T base i o n 1 := ((hM.row (Or.inl rfl)).ms (top := 0)).psh
theorem opart_Z {k c c' : Nat} {b : Int} : Mz h (opart h k c' b) c (fun j => j = k) :=
  ((Mz.w (I := fun j => j = k) (Or.inl rfl) rfl).tr (Mz.of (I := fun _ => False) (Mv.wF (j := 11) (c := c) (top := 0) (by omega))) (Nat.le_refl _) (fun _ z => z.elim)).tr (Mz.of (I := fun _ => False) (Mv.psh (c := c))) (Nat.le_refl _) (fun _ z => z.elim)
theorem opart_p {k c : Nat} {b : Int} : rdI (opart h k c b) 63 0 = b := by simp [opart, opsh, rdI_wrI]
theorem opart_b {k c : Nat} {b : Int} : rdI (opart h k c b) 67 k = c := by simp [opart, opsh, rdI_wrI]
theorem sixw (ht : t ≤ 60) (hw : w < 6) : w32 (w32 (6 * (t : Int)) + w) = ((6 * t + w : Nat) : Int) := by
  rw [w32_id (z := 6 * (t : Int)) (by omega) (by omega), w32_id (by omega) (by omega)]; push_cast; rfl
set_option maxRecDepth 10000 in
theorem p_in0 (ht : t ≤ 60) (hw : w < 6) (hM : MSq h T base i o n) : Call sysS GM (L + 8) 141 [vR (some 61), vI t, vI w, vI 0] h Q ↔ lpP L (vI t) (vI w) (vI 0) 0 (opart h (6 * t + w) (base + n) 0) Q := by
  have hM2 : MS (wrI (wrI h 67 (6 * t + w) ((base + n : Nat) : Int)) 61 11 ((0 : Nat) : Int)) T base i o n 0 := (hM.row (Or.inl rfl)).ms
  simp only [e_M_part, b_M_part_0, b_M_part_29, b_M_part_30, b_M_part_42, b_M_part_43, R_iconst, R_lc, R_null, R_ldc, R_gets0, R_gets1, R_objI, R_dupI, R_dupR, R_popI, R_popR, R_dup2L, R_dup2IR, R_pop2, R_i2l, R_l2i, R_lneg, R_lcmp, R_iadd, R_isub, R_imul, R_iand, R_ior, R_ixor, R_ishl, R_ishr, R_iushr, R_i2b, R_i2c, R_ladd, R_lsub, R_lmul, R_land, R_lor, R_lxor, R_lshl, R_lushr, R_goto, R_gotow, R_ifnullN, R_ifnullS, R_ifnonN, R_ifnonS, R_ifeq, R_ifne, R_iflt, R_ifge, R_ifgt, R_ifle, R_icmpeq, R_icmpne, R_icmplt, R_icmpge, R_icmpgt, R_icmple, R_tsw, R_lsw, R_alen, R_iald, R_bald, R_lald, R_aald, R_iast, R_last, R_bast, R_aast, R_new, R_newI, R_gf, R_pfI, R_pfZ, R_pfL, R_pfR, isZ_0, isZ_1, isZ_ite, gfA_0, gfA_1, gfA_2, gfA_3, opt2_s, opt2_n, R_iload0, R_iload1, R_iload2, R_iload3, R_iload4, R_iload5, R_iload6, R_iload7, R_iload8, R_lload0, R_lload1, R_lload2, R_lload3, R_lload4, R_lload5, R_lload6, R_lload7, R_lload8, R_aload0, R_aload1, R_aload2, R_aload3, R_aload4, R_aload5, R_aload6, R_aload7, R_aload8, R_istore0, R_istore1, R_istore2, R_istore3, R_istore4, R_istore5, R_istore6, R_istore7, R_istore8, R_lstore0, R_lstore1, R_lstore2, R_lstore3, R_lstore4, R_lstore5, R_lstore6, R_lstore7, R_lstore8, R_astore0, R_astore1, R_astore2, R_astore3, R_astore4, R_astore5, R_astore6, R_astore7, R_astore8, R_iinc0, R_iinc1, R_iinc2, R_iinc3, R_iinc4, R_iinc5, R_iinc6, R_iinc7, R_iinc8, KM_61, OM_61, KM_62, OM_62, KM_63, OM_63, KM_64, OM_64, KM_65, OM_65, KM_66, OM_66, KM_67, OM_67, KM_68, OM_68, KM_69, OM_69, KM_70, OM_70, KM_71, OM_71, KM_72, OM_72, KM_73, OM_73, KM_74, OM_74, KM_75, OM_75, KM_76, OM_76, KM_77, OM_77, KM_78, OM_78, KM_79, OM_79, KM_80, OM_80, KM_81, OM_81, KM_82, OM_82, KM_83, OM_83, KM_84, OM_84, KM_85, OM_85, KM_86, OM_86, KM_87, OM_87, KM_88, OM_88, KM_89, OM_89, KM_90, OM_90, KM_91, OM_91, KM_92, OM_92, PM_61_0, PM_61_9, PM_61_10, PM_61_12, PM_61_13, PM_61_15, PM_61_16, PM_61_23, PM_61_28, PM_61_31, PM_61_33, PM_61_34, PM_61_35, PM_61_36, PM_61_37, PM_61_38, PM_61_43, PM_61_44, PM_61_45, PM_61_46, PM_61_47, PM_61_48, PM_61_49, PM_61_50, PM_61_51, PM_61_52, PM_61_53, PM_61_54, PM_61_59, PM_61_60, PM_61_61, Nat.reduceDiv, Nat.reduceMod, Nat.reduceLeDiff, Nat.reduceEqDiff, Int.reduceToNat, Int.reduceLT, Int.reduceLE, Int.reduceEq, Int.reduceNeg, Int.reduceAdd, Int.reduceSub, Int.reduceMul, not_true_eq_false, not_false_eq_true, true_or, or_true, or_false, false_or, false_and, and_false, w32_lit, lc_lt, lc_gt, lc_eq, lc_ge, lc_le, ite10, true_and, and_true, reduceIte, Nat.reduceLT, cats, catA, Nat.reduceAdd, Nat.zero_le, Nat.reduceLeDiff, sixw ht hw, hM.2.2.2.1, i_M_push]
  rw [inA_t (by omega) (by omega), true_and, Int.toNat_natCast]
  have := q_push (L := L + 7) (w := 0) (x := 0) (Q := fun r g => Run sysS GM (L + 8) 141 (sysS.2.1 141 45) [vR (some 61), vI t, vI w, vI 0, vI 0] (opt2 r []) g Q) hM2 (by omega)
  rw [opt2_n] at this
  exact this
set_option maxRecDepth 10000 in
theorem p_in1 (ht : t ≤ 60) (hw : w < 6) (hM : MSq h T base i o n) : Call sysS GM (L + 8) 141 [vR (some 61), vI t, vI w, vI 1] h Q ↔ lpP L (vI t) (vI w) (vI 1) 3 (opart h (6 * t + w) (base + n) 1) Q := by
  have hM2 : MS (wrI (wrI h 67 (6 * t + w) ((base + n : Nat) : Int)) 61 11 ((0 : Nat) : Int)) T base i o n 0 := (hM.row (Or.inl rfl)).ms
  simp only [e_M_part, b_M_part_0, b_M_part_29, b_M_part_30, b_M_part_42, b_M_part_43, R_iconst, R_lc, R_null, R_ldc, R_gets0, R_gets1, R_objI, R_dupI, R_dupR, R_popI, R_popR, R_dup2L, R_dup2IR, R_pop2, R_i2l, R_l2i, R_lneg, R_lcmp, R_iadd, R_isub, R_imul, R_iand, R_ior, R_ixor, R_ishl, R_ishr, R_iushr, R_i2b, R_i2c, R_ladd, R_lsub, R_lmul, R_land, R_lor, R_lxor, R_lshl, R_lushr, R_goto, R_gotow, R_ifnullN, R_ifnullS, R_ifnonN, R_ifnonS, R_ifeq, R_ifne, R_iflt, R_ifge, R_ifgt, R_ifle, R_icmpeq, R_icmpne, R_icmplt, R_icmpge, R_icmpgt, R_icmple, R_tsw, R_lsw, R_alen, R_iald, R_bald, R_lald, R_aald, R_iast, R_last, R_bast, R_aast, R_new, R_newI, R_gf, R_pfI, R_pfZ, R_pfL, R_pfR, isZ_0, isZ_1, isZ_ite, gfA_0, gfA_1, gfA_2, gfA_3, opt2_s, opt2_n, R_iload0, R_iload1, R_iload2, R_iload3, R_iload4, R_iload5, R_iload6, R_iload7, R_iload8, R_lload0, R_lload1, R_lload2, R_lload3, R_lload4, R_lload5, R_lload6, R_lload7, R_lload8, R_aload0, R_aload1, R_aload2, R_aload3, R_aload4, R_aload5, R_aload6, R_aload7, R_aload8, R_istore0, R_istore1, R_istore2, R_istore3, R_istore4, R_istore5, R_istore6, R_istore7, R_istore8, R_lstore0, R_lstore1, R_lstore2, R_lstore3, R_lstore4, R_lstore5, R_lstore6, R_lstore7, R_lstore8, R_astore0, R_astore1, R_astore2, R_astore3, R_astore4, R_astore5, R_astore6, R_astore7, R_astore8, R_iinc0, R_iinc1, R_iinc2, R_iinc3, R_iinc4, R_iinc5, R_iinc6, R_iinc7, R_iinc8, KM_61, OM_61, KM_62, OM_62, KM_63, OM_63, KM_64, OM_64, KM_65, OM_65, KM_66, OM_66, KM_67, OM_67, KM_68, OM_68, KM_69, OM_69, KM_70, OM_70, KM_71, OM_71, KM_72, OM_72, KM_73, OM_73, KM_74, OM_74, KM_75, OM_75, KM_76, OM_76, KM_77, OM_77, KM_78, OM_78, KM_79, OM_79, KM_80, OM_80, KM_81, OM_81, KM_82, OM_82, KM_83, OM_83, KM_84, OM_84, KM_85, OM_85, KM_86, OM_86, KM_87, OM_87, KM_88, OM_88, KM_89, OM_89, KM_90, OM_90, KM_91, OM_91, KM_92, OM_92, PM_61_0, PM_61_9, PM_61_10, PM_61_12, PM_61_13, PM_61_15, PM_61_16, PM_61_23, PM_61_28, PM_61_31, PM_61_33, PM_61_34, PM_61_35, PM_61_36, PM_61_37, PM_61_38, PM_61_43, PM_61_44, PM_61_45, PM_61_46, PM_61_47, PM_61_48, PM_61_49, PM_61_50, PM_61_51, PM_61_52, PM_61_53, PM_61_54, PM_61_59, PM_61_60, PM_61_61, Nat.reduceDiv, Nat.reduceMod, Nat.reduceLeDiff, Nat.reduceEqDiff, Int.reduceToNat, Int.reduceLT, Int.reduceLE, Int.reduceEq, Int.reduceNeg, Int.reduceAdd, Int.reduceSub, Int.reduceMul, not_true_eq_false, not_false_eq_true, true_or, or_true, or_false, false_or, false_and, and_false, w32_lit, lc_lt, lc_gt, lc_eq, lc_ge, lc_le, ite10, true_and, and_true, reduceIte, Nat.reduceLT, cats, catA, Nat.reduceAdd, Nat.zero_le, Nat.reduceLeDiff, sixw ht hw, hM.2.2.2.1, i_M_push]
  rw [inA_t (by omega) (by omega), true_and, Int.toNat_natCast]
  have := q_push (L := L + 7) (w := 1) (x := 0) (Q := fun r g => Run sysS GM (L + 8) 141 (sysS.2.1 141 45) [vR (some 61), vI t, vI w, vI 1, vI 3] (opt2 r []) g Q) hM2 (by omega)
  rw [opt2_n] at this
  exact this
set_option maxRecDepth 10000 in
theorem p_tail (ht : t ≤ 60) (hw : w < 6) : Run sysS GM (L + 8) 141 (sysS.2.1 141 104) [vR (some 61), vI t, vI w, l3, vI st] [] h Q ↔ Q none (wrI h 68 (6 * t + w) (rdI h 61 14)) := by
  rw [b_M_part_104]
  simp only [R_iconst, R_lc, R_null, R_ldc, R_gets0, R_gets1, R_objI, R_dupI, R_dupR, R_popI, R_popR, R_dup2L, R_dup2IR, R_pop2, R_i2l, R_l2i, R_lneg, R_lcmp, R_iadd, R_isub, R_imul, R_iand, R_ior, R_ixor, R_ishl, R_ishr, R_iushr, R_i2b, R_i2c, R_ladd, R_lsub, R_lmul, R_land, R_lor, R_lxor, R_lshl, R_lushr, R_goto, R_gotow, R_ifnullN, R_ifnullS, R_ifnonN, R_ifnonS, R_ifeq, R_ifne, R_iflt, R_ifge, R_ifgt, R_ifle, R_icmpeq, R_icmpne, R_icmplt, R_icmpge, R_icmpgt, R_icmple, R_tsw, R_lsw, R_alen, R_iald, R_bald, R_lald, R_aald, R_iast, R_last, R_bast, R_aast, R_new, R_newI, R_gf, R_pfI, R_pfZ, R_pfL, R_pfR, isZ_0, isZ_1, isZ_ite, gfA_0, gfA_1, gfA_2, gfA_3, opt2_s, opt2_n, R_iload0, R_iload1, R_iload2, R_iload3, R_iload4, R_iload5, R_iload6, R_iload7, R_iload8, R_lload0, R_lload1, R_lload2, R_lload3, R_lload4, R_lload5, R_lload6, R_lload7, R_lload8, R_aload0, R_aload1, R_aload2, R_aload3, R_aload4, R_aload5, R_aload6, R_aload7, R_aload8, R_istore0, R_istore1, R_istore2, R_istore3, R_istore4, R_istore5, R_istore6, R_istore7, R_istore8, R_lstore0, R_lstore1, R_lstore2, R_lstore3, R_lstore4, R_lstore5, R_lstore6, R_lstore7, R_lstore8, R_astore0, R_astore1, R_astore2, R_astore3, R_astore4, R_astore5, R_astore6, R_astore7, R_astore8, R_iinc0, R_iinc1, R_iinc2, R_iinc3, R_iinc4, R_iinc5, R_iinc6, R_iinc7, R_iinc8, KM_61, OM_61, KM_62, OM_62, KM_63, OM_63, KM_64, OM_64, KM_65, OM_65, KM_66, OM_66, KM_67, OM_67, KM_68, OM_68, KM_69, OM_69, KM_70, OM_70, KM_71, OM_71, KM_72, OM_72, KM_73, OM_73, KM_74, OM_74, KM_75, OM_75, KM_76, OM_76, KM_77, OM_77, KM_78, OM_78, KM_79, OM_79, KM_80, OM_80, KM_81, OM_81, KM_82, OM_82, KM_83, OM_83, KM_84, OM_84, KM_85, OM_85, KM_86, OM_86, KM_87, OM_87, KM_88, OM_88, KM_89, OM_89, KM_90, OM_90, KM_91, OM_91, KM_92, OM_92, PM_61_0, PM_61_9, PM_61_10, PM_61_12, PM_61_13, PM_61_15, PM_61_16, PM_61_23, PM_61_28, PM_61_31, PM_61_33, PM_61_34, PM_61_35, PM_61_36, PM_61_37, PM_61_38, PM_61_43, PM_61_44, PM_61_45, PM_61_46, PM_61_47, PM_61_48, PM_61_49, PM_61_50, PM_61_51, PM_61_52, PM_61_53, PM_61_54, PM_61_59, PM_61_60, PM_61_61, Nat.reduceDiv, Nat.reduceMod, Nat.reduceLeDiff, Nat.reduceEqDiff, Int.reduceToNat, Int.reduceLT, Int.reduceLE, Int.reduceEq, Int.reduceNeg, Int.reduceAdd, Int.reduceSub, Int.reduceMul, not_true_eq_false, not_false_eq_true, true_or, or_true, or_false, false_or, false_and, and_false, w32_lit, lc_lt, lc_gt, lc_eq, lc_ge, lc_le, ite10, true_and, and_true, reduceIte, Nat.reduceLT, cats, catA, Nat.reduceAdd, Nat.zero_le, Nat.reduceLeDiff, sixw ht hw, r_M_part]
  rw [inA_t (by omega) (by omega), true_and, Int.toNat_natCast]
theorem p_fault {k : Int} {p : Nat} (ht : t ≤ 60) (hw : w < 6) (hW : WF h k p) (hq : ∀ g, WF g k p → (∀ c, Mz h g c (fun j => j = 6 * t + w)) → Q none g) : lpP L (vI t) (vI w) l3 st h Q := by
  rw [lp_out hW, p_tail ht hw]
  refine hq _ ⟨?_, hW.2.1, ?_⟩ (fun c => Mz.w (Or.inr rfl) rfl)
  · rw [rdI_wrI, if_neg (by omega)]; exact hW.1
  · rw [rdI_wrI, if_neg (by omega)]; exact hW.2.2
theorem p_end (ht : t ≤ 60) (hw : w < 6) (hM : MS h T base i o n top) (hq : ∀ g, MS g T base i o n top → rdI g 68 (6 * t + w) = ((base + n : Nat) : Int) → rdI g 67 (6 * t + w) = rdI h 67 (6 * t + w) → (∀ c, Mz h g c (fun j => j = 6 * t + w)) → Q none g) : lpP L (vI t) (vI w) l3 (-1) h Q := by
  rw [lp_end hM, p_tail ht hw]
  refine hq _ (hM.row (Or.inr rfl)) ?_ ?_ (fun c => Mz.w (Or.inr rfl) rfl)
  · rw [rdI_wrI, if_pos ⟨rfl, rfl⟩]; exact hM.2.2.2.1
  · rw [rdI_wrI, if_neg (by omega)]
/-- a sum's part -/
theorem pS_fault {k : Int} {p : Nat} (ht : t ≤ 60) (hw : w < 6) (hM : MSq h T base i 0 n) (m : ∀ L l1 l2 l3 Q hm top, MS hm T base i 0 n (top + 1) → top + 1 ≤ 6 * 0 + 4 → cS (rdI hm 63 top) → TrS hm base f n n → (∀ g st, WF g k p → Mv hm g (base + n) (top + 1) → lpP L l1 l2 l3 st g Q) → lpP L l1 l2 l3 0 hm Q) (hq : ∀ g, WF g k p → Mz h g (base + n) (fun j => j = 6 * t + w) → Q none g) : Call sysS GM (L + 8) 141 [vR (some 61), vI t, vI w, vI 0] h Q := by
  rw [p_in0 ht hw hM]
  refine m _ _ _ _ _ _ 0 (opart_M hM) (by omega) (by rw [opart_p]; exact ⟨by decide, by decide, by decide⟩) TrS_e (fun g st a b => ?_)
  exact p_fault ht hw a (fun g2 a2 b2 => hq g2 a2 ((opart_Z.tr (Mz.of b) (Nat.le_refl _) (fun _ z => z)).tr (b2 _) (Nat.le_refl _) (fun _ z => z)))
theorem pS_ok {i' n' : Nat} {f' : Cd} (ht : t ≤ 60) (hbs : base + n' < 13420) (hw : w < 6) (he : nosum (T.kd i')) (hM : MSq h T base i 0 n) (m : ∀ L l1 l2 l3 Q hm top, MS hm T base i 0 n (top + 1) → top + 1 ≤ 6 * 0 + 4 → cS (rdI hm 63 top) → TrS hm base f n n → (∀ g, MS g T base i' 0 n' (top + 1) → Mv hm g (base + n) (top + 1) → TrS g base f' n n' → lpP L l1 l2 l3 1 g Q) → lpP L l1 l2 l3 0 hm Q) (hq : ∀ g, MS g T base i' 0 n' 1 → Mz h g (base + n) (fun j => j = 6 * t + w) → TrS g base f' n n' → rdI g 67 (6 * t + w) = ((base + n : Nat) : Int) → rdI g 68 (6 * t + w) = ((base + n' : Nat) : Int) → Q none g) : Call sysS GM (L + 8) 141 [vR (some 61), vI t, vI w, vI 0] h Q := by
  rw [p_in0 ht hw hM]
  refine m _ _ _ _ _ _ 0 (opart_M hM) (by omega) (by rw [opart_p]; exact ⟨by decide, by decide, by decide⟩) TrS_e (fun g a b tr => ?_)
  refine s_base a (by omega) hbs he (by rw [(b.2.2.2 0 (by omega)).1, opart_p]) ?_
  refine p_end ht hw a (fun g2 a2 e1 e2 b2 => hq g2 a2 ((opart_Z.tr (Mz.of b) (Nat.le_refl _) (fun _ z => z)).tr (b2 _) (Nat.le_refl _) (fun _ z => z)) (TrS_Z (c := n') (b2 _) (Nat.le_refl _) tr) ?_ e1)
  rw [e2, b.1 _ _ (by omega) (by omega) (by omega) (by omega), opart_b]
theorem pT_fault {k : Int} {p : Nat} (ht : t ≤ 60) (hw : w < 6) (hM : MSq h T base i 0 n) (m : ∀ L l1 l2 l3 Q hm top, MS hm T base i 0 n (top + 1) → top + 1 ≤ 6 * 0 + 1 → cT (rdI hm 63 top) → TrS hm base f n n → (∀ g st, WF g k p → Mv hm g (base + n) (top + 1) → lpP L l1 l2 l3 st g Q) → lpP L l1 l2 l3 3 hm Q) (hq : ∀ g, WF g k p → Mz h g (base + n) (fun j => j = 6 * t + w) → Q none g) : Call sysS GM (L + 8) 141 [vR (some 61), vI t, vI w, vI 1] h Q := by
  rw [p_in1 ht hw hM]
  refine m _ _ _ _ _ _ 0 (opart_M hM) (by omega) (by rw [opart_p]; exact ⟨by decide, by decide, by decide⟩) TrS_e (fun g st a b => ?_)
  exact p_fault ht hw a (fun g2 a2 b2 => hq g2 a2 ((opart_Z.tr (Mz.of b) (Nat.le_refl _) (fun _ z => z)).tr (b2 _) (Nat.le_refl _) (fun _ z => z)))
theorem pT_ok {i' n' : Nat} {f' : Cd} (ht : t ≤ 60) (hbs : base + n' < 13420) (hw : w < 6) (he : T.kd i' ≠ 6385252 ∧ T.kd i' ≠ 28530) (hM : MSq h T base i 0 n) (m : ∀ L l1 l2 l3 Q hm top, MS hm T base i 0 n (top + 1) → top + 1 ≤ 6 * 0 + 1 → cT (rdI hm 63 top) → TrS hm base f n n → (∀ g, MS g T base i' 0 n' (top + 1) → Mv hm g (base + n) (top + 1) → TrS g base f' n n' → lpP L l1 l2 l3 2 g Q) → lpP L l1 l2 l3 3 hm Q) (hq : ∀ g, MS g T base i' 0 n' 1 → Mz h g (base + n) (fun j => j = 6 * t + w) → TrS g base f' n n' → rdI g 67 (6 * t + w) = ((base + n : Nat) : Int) → rdI g 68 (6 * t + w) = ((base + n' : Nat) : Int) → Q none g) : Call sysS GM (L + 8) 141 [vR (some 61), vI t, vI w, vI 1] h Q := by
  rw [p_in1 ht hw hM]
  refine m _ _ _ _ _ _ 0 (opart_M hM) (by omega) (by rw [opart_p]; exact ⟨by decide, by decide, by decide⟩) TrS_e (fun g a b tr => ?_)
  refine o_base a (by omega) he (by rw [(b.2.2.2 0 (by omega)).1, opart_p]) ?_
  refine p_end ht hw a (fun g2 a2 e1 e2 b2 => hq g2 a2 ((opart_Z.tr (Mz.of b) (Nat.le_refl _) (fun _ z => z)).tr (b2 _) (Nat.le_refl _) (fun _ z => z)) (TrS_Z (c := n') (b2 _) (Nat.le_refl _) tr) ?_ e1)
  rw [e2, b.1 _ _ (by omega) (by omega) (by omega) (by omega), opart_b]
end MPT
