/-! segments on both machines -/
def Sr (f : Cd) (a b : Nat) (E : Ev) (res : Int ⊕ Int64) : Prop := a < b ∧ match res with
  | .inl e => ∀ n S, ∃ j, Itr f b E j a n S (.inl e)
  | .inr v => ∀ n S, ∃ j S', Itr f b E j a n S (.inr (b, n + 1, S')) ∧ S' n = v ∧ ∀ i < n, S' i = S i
theorem Sr_of {f : Cd} {a b : Nat} {K : Rw → Prop} (h : Sq f a b 1 K) (hK : ∀ u w : Rw, u 0 = w 0 → K u → K w) (E : Ev) : ∃ res, Sr f a b E res ∧ ∀ v, res = .inr v → K (fun _ => v) := by
  rcases h.2 E with ⟨e, h3⟩ | ⟨v, hv, h3⟩
  · exact ⟨.inl e, ⟨h.1, h3⟩, fun v q => by cases q⟩
  · refine ⟨.inr (v 0), ⟨h.1, fun n S => ?_⟩, fun u q => by cases q; exact hK _ _ rfl hv⟩
    obtain ⟨j, S', h4, h5, h6⟩ := h3 n S
    exact ⟨j, S', h4, h5 0 (by omega), h6⟩
section SR
variable {h : AH} {q N e2 a b L base t : Nat} {f : Cd} {l1 l2 l5 l6 l7 : AV}
theorem x_seg {v : Int64} (hp : PgX h q f N) (hb : b ≤ e2) (he2 : e2 ≤ N) (hN : N ≤ 200) {n : Nat} {S : Rw} (hn : n ≤ a) (hs : Sr f a b (EvX h) (.inr v)) : n + 1 ≤ b ∧ ∃ S' l5' l6', S' n = v ∧ (∀ i < n, S' i = S i) ∧ ∀ Q, (lpX L q e2 a l2 l5 l6 (mX h n S 0) Q ↔ lpX L q e2 b l2 l5' l6' (mX h (n + 1) S' 0) Q) := by
  obtain ⟨j, S', h1, h2, h3⟩ := hs.2 n S
  obtain ⟨h4, l5', l6', h5⟩ := (x_sim hp hb he2 hN (L := L) (l2 := l2) hn h1 l5 l6).1 b (n + 1) S' rfl
  exact ⟨h4, S', l5', l6', h2, h3, h5⟩
theorem x_segF {e : Int} (hp : PgX h q f N) (hb : b ≤ e2) (he2 : e2 ≤ N) (hN : N ≤ 200) {n : Nat} {S : Rw} (hn : n ≤ a) (hs : Sr f a b (EvX h) (.inl e)) : e ≠ 0 ∧ ∃ n' S', ∀ Q, (lpX L q e2 a l2 l5 l6 (mX h n S 0) Q ↔ Q none (mX h n' S' e)) := by
  obtain ⟨j, h1⟩ := hs.2 n S
  exact (x_sim hp hb he2 hN (L := L) (l2 := l2) hn h1 l5 l6).2 e rfl
theorem x_segs {e : Nat → Nat} {v : Rw} (hp : PgX h q f N) (he2 : e2 ≤ N) (hN : N ≤ 200) {S : Rw} : ∀ m, e m ≤ e2 → (∀ j < m, Sr f (e j) (e (j + 1)) (EvX h) (.inr (v j))) → m ≤ e m ∧ ∃ S' l5' l6', (∀ i < m, S' i = v i) ∧ ∀ Q, (lpX L q e2 (e 0) l2 l5 l6 (mX h 0 S 0) Q ↔ lpX L q e2 (e m) l2 l5' l6' (mX h m S' 0) Q)
  | 0, _, _ => ⟨Nat.zero_le _, S, l5, l6, fun i hi => by omega, fun _ => Iff.rfl⟩
  | m + 1, hm, hs => by
    have s1 := hs m (by omega)
    have s2 := s1.1
    obtain ⟨g1, S', l5', l6', g2, g3⟩ := x_segs hp he2 hN m (by omega) (fun j hj => hs j (by omega)) (S := S)
    obtain ⟨g4, S2, l52, l62, g5, g6, g7⟩ := x_seg (L := L) (l2 := l2) (l5 := l5') (l6 := l6') (S := S') hp hm he2 hN g1 s1
    refine ⟨g4, S2, l52, l62, fun i hi => ?_, fun Q => (g3 Q).trans (g7 Q)⟩
    by_cases c : i = m
    · rw [c, g5]
    · rw [g6 i (by omega), g2 i (by omega)]
set_option maxRecDepth 10000 in
theorem run_in {i e2 : Nat} {Q : Option AV → AH → Prop} : Call sysS GX (L + 3) 86 [vR (some 25), vR (some q), vI i, vI e2] h Q ↔ lpX L q e2 i (vI i) vU vU (mX h 0 (fun j => rdL h 26 j) 0) Q := by
  simp only [e_Machine_run, b_Machine_run_0, b_Machine_run_136, b_Machine_run_146, b_Machine_run_157, b_Machine_run_168, b_Machine_run_179, b_Machine_run_190, b_Machine_run_202, b_Machine_run_216, b_Machine_run_217, b_Machine_run_223, b_Machine_run_232, b_Machine_run_253, b_Machine_run_261, b_Machine_run_267, b_Machine_run_270, r_Machine_run, R_iconst, R_lc, R_null, R_ldc, R_gets0, R_gets1, R_objI, R_dupI, R_dupR, R_popI, R_popR, R_dup2L, R_dup2IR, R_pop2, R_i2l, R_l2i, R_lneg, R_lcmp, R_iadd, R_isub, R_imul, R_iand, R_ior, R_ixor, R_ishl, R_ishr, R_iushr, R_i2b, R_i2c, R_ladd, R_lsub, R_lmul, R_land, R_lor, R_lxor, R_lshl, R_lushr, R_goto, R_gotow, R_ifnullN, R_ifnullS, R_ifnonN, R_ifnonS, R_ifeq, R_ifne, R_iflt, R_ifge, R_ifgt, R_ifle, R_icmpeq, R_icmpne, R_icmplt, R_icmpge, R_icmpgt, R_icmple, R_tsw, R_lsw, R_alen, R_iald, R_bald, R_lald, R_aald, R_iast, R_last, R_bast, R_aast, R_new, R_newI, R_gf, R_pfI, R_pfZ, R_pfL, R_pfR, isZ_0, isZ_1, isZ_ite, gfA_0, gfA_1, gfA_2, gfA_3, opt2_s, opt2_n, R_iload0, R_iload1, R_iload2, R_iload3, R_iload4, R_iload5, R_iload6, R_iload7, R_iload8, R_lload0, R_lload1, R_lload2, R_lload3, R_lload4, R_lload5, R_lload6, R_lload7, R_lload8, R_aload0, R_aload1, R_aload2, R_aload3, R_aload4, R_aload5, R_aload6, R_aload7, R_aload8, R_istore0, R_istore1, R_istore2, R_istore3, R_istore4, R_istore5, R_istore6, R_istore7, R_istore8, R_lstore0, R_lstore1, R_lstore2, R_lstore3, R_lstore4, R_lstore5, R_lstore6, R_lstore7, R_lstore8, R_astore0, R_astore1, R_astore2, R_astore3, R_astore4, R_astore5, R_astore6, R_astore7, R_astore8, R_iinc0, R_iinc1, R_iinc2, R_iinc3, R_iinc4, R_iinc5, R_iinc6, R_iinc7, R_iinc8, KX_1, KX_2, KX_3, KX_4, OX_4, KX_5, OX_5, KX_6, OX_6, KX_7, OX_7, KX_8, OX_8, KX_9, OX_9, KX_10, OX_10, KX_11, OX_11, KX_12, OX_12, KX_13, OX_13, KX_14, OX_14, KX_15, OX_15, KX_16, OX_16, KX_17, OX_17, KX_18, OX_18, KX_19, OX_19, KX_20, OX_20, KX_21, OX_21, KX_22, OX_22, KX_23, OX_23, KX_24, OX_24, KX_25, OX_25, KX_26, OX_26, KX_27, OX_27, KX_28, OX_28, KX_29, OX_29, KX_30, OX_30, KX_31, OX_31, KX_32, OX_32, KX_33, OX_33, KX_34, OX_34, KX_35, OX_35, KX_36, OX_36, KX_37, OX_37, KX_38, OX_38, KX_39, OX_39, KX_40, OX_40, KX_41, OX_41, KX_42, OX_42, KX_43, OX_43, KX_44, OX_44, KX_45, OX_45, KX_46, OX_46, KX_47, OX_47, KX_48, OX_48, KX_49, OX_49, KX_50, OX_50, KX_51, OX_51, KX_52, OX_52, KX_53, OX_53, KX_54, OX_54, KX_55, OX_55, KX_56, OX_56, KX_57, OX_57, KX_58, OX_58, KX_59, OX_59, KX_60, OX_60, PX_2_0, PX_4_0, PX_4_1, PX_4_2, PX_4_3, PX_4_4, PX_4_5, PX_4_6, PX_5_0, PX_7_0, PX_9_0, PX_9_1, PX_10_0, PX_10_1, PX_10_2, PX_14_0, PX_14_1, PX_17_0, PX_17_1, PX_17_2, PX_17_3, PX_17_4, PX_17_5, PX_17_6, PX_25_0, PX_27_0, PX_27_1, PX_27_2, PX_27_3, PX_27_4, PX_27_5, PX_28_3, PX_28_5, PX_28_6, PX_32_3, PX_32_5, PX_32_6, PX_36_3, PX_36_5, PX_36_6, PX_40_3, PX_40_5, PX_40_6, PX_44_3, PX_44_5, PX_44_6, PX_48_3, PX_48_5, PX_48_6, PX_52_0, PX_52_1, PX_52_2, PX_52_3, PX_53_1, PX_55_1, PX_57_1, PX_59_1, Nat.reduceDiv, Nat.reduceMod, Nat.reduceLeDiff, Nat.reduceEqDiff, Int.reduceToNat, Int.reduceLT, Int.reduceLE, Int.reduceEq, Int.reduceNeg, Int.reduceAdd, Int.reduceSub, Int.reduceMul, not_true_eq_false, not_false_eq_true, true_or, or_true, or_false, false_or, false_and, and_false, w32_lit, lc_lt, lc_gt, lc_eq, lc_ge, lc_le, ite10, true_and, and_true, reduceIte, Nat.reduceLT, cats, catA, Nat.reduceAdd, Nat.zero_le, Nat.reduceLeDiff]
  have : wrI (wrI h 25 1 0) 25 6 0 = mX h 0 (fun j => rdL h 26 j) 0 := by
    obtain ⟨a, b, c⟩ := h
    unfold mX wrI
    simp only [Prod.mk.injEq, and_true]
    constructor
    · funext b j
      by_cases q : b = 25 ∧ j = 1
      · simp [q]
      · by_cases q2 : b = 25 ∧ j = 6
        · simp [q2]
        · simp [q, q2]
    · funext b j
      by_cases q : b = 26
      · rw [if_pos q, q]; rfl
      · rw [if_neg q]
  rw [this]
  rfl
/-- the reference's part -/
def worked_pre (h : AH) (t p a b : Nat) : Prop := rdI h 67 (6 * t + p) = ((220 * t + a : Nat) : Int) ∧ rdI h 68 (6 * t + p) = ((220 * t + b : Nat) : Int)
set_option maxRecDepth 10000 in
theorem worked_in {p a b : Nat} {Q : Option AV → AH → Prop} (ht : t ≤ 60) (hp6 : p < 6) (hw : worked_pre h t p a b) : Call sysS GM (L + 2) 152 [vR (some 61), vI t, vI p] h Q ↔ lpM L ((220 * t + b : Nat) : Int) (220 * t + a) (vI t) (vI p) vU vU vU (mM h 0 (fun j => rdL h 69 j) (rdI h 61 22)) Q := by
  simp only [e_M_worked, b_M_worked_0, b_M_worked_78, b_M_worked_98, b_M_worked_99, b_M_worked_110, b_M_worked_111, b_M_worked_122, b_M_worked_135, b_M_worked_143, b_M_worked_146, b_M_worked_162, b_M_worked_163, r_M_worked, R_iconst, R_lc, R_null, R_ldc, R_gets0, R_gets1, R_objI, R_dupI, R_dupR, R_popI, R_popR, R_dup2L, R_dup2IR, R_pop2, R_i2l, R_l2i, R_lneg, R_lcmp, R_iadd, R_isub, R_imul, R_iand, R_ior, R_ixor, R_ishl, R_ishr, R_iushr, R_i2b, R_i2c, R_ladd, R_lsub, R_lmul, R_land, R_lor, R_lxor, R_lshl, R_lushr, R_goto, R_gotow, R_ifnullN, R_ifnullS, R_ifnonN, R_ifnonS, R_ifeq, R_ifne, R_iflt, R_ifge, R_ifgt, R_ifle, R_icmpeq, R_icmpne, R_icmplt, R_icmpge, R_icmpgt, R_icmple, R_tsw, R_lsw, R_alen, R_iald, R_bald, R_lald, R_aald, R_iast, R_last, R_bast, R_aast, R_new, R_newI, R_gf, R_pfI, R_pfZ, R_pfL, R_pfR, isZ_0, isZ_1, isZ_ite, gfA_0, gfA_1, gfA_2, gfA_3, opt2_s, opt2_n, R_iload0, R_iload1, R_iload2, R_iload3, R_iload4, R_iload5, R_iload6, R_iload7, R_iload8, R_lload0, R_lload1, R_lload2, R_lload3, R_lload4, R_lload5, R_lload6, R_lload7, R_lload8, R_aload0, R_aload1, R_aload2, R_aload3, R_aload4, R_aload5, R_aload6, R_aload7, R_aload8, R_istore0, R_istore1, R_istore2, R_istore3, R_istore4, R_istore5, R_istore6, R_istore7, R_istore8, R_lstore0, R_lstore1, R_lstore2, R_lstore3, R_lstore4, R_lstore5, R_lstore6, R_lstore7, R_lstore8, R_astore0, R_astore1, R_astore2, R_astore3, R_astore4, R_astore5, R_astore6, R_astore7, R_astore8, R_iinc0, R_iinc1, R_iinc2, R_iinc3, R_iinc4, R_iinc5, R_iinc6, R_iinc7, R_iinc8, KM_61, OM_61, KM_62, OM_62, KM_63, OM_63, KM_64, OM_64, KM_65, OM_65, KM_66, OM_66, KM_67, OM_67, KM_68, OM_68, KM_69, OM_69, KM_70, OM_70, KM_71, OM_71, KM_72, OM_72, KM_73, OM_73, KM_74, OM_74, KM_75, OM_75, KM_76, OM_76, KM_77, OM_77, KM_78, OM_78, KM_79, OM_79, KM_80, OM_80, KM_81, OM_81, KM_82, OM_82, KM_83, OM_83, KM_84, OM_84, KM_85, OM_85, KM_86, OM_86, KM_87, OM_87, KM_88, OM_88, KM_89, OM_89, KM_90, OM_90, KM_91, OM_91, KM_92, OM_92, PM_61_0, PM_61_9, PM_61_10, PM_61_12, PM_61_13, PM_61_15, PM_61_16, PM_61_23, PM_61_28, PM_61_31, PM_61_33, PM_61_34, PM_61_35, PM_61_36, PM_61_37, PM_61_38, PM_61_43, PM_61_44, PM_61_45, PM_61_46, PM_61_47, PM_61_48, PM_61_49, PM_61_50, PM_61_51, PM_61_52, PM_61_53, PM_61_54, PM_61_59, PM_61_60, PM_61_61, Nat.reduceDiv, Nat.reduceMod, Nat.reduceLeDiff, Nat.reduceEqDiff, Int.reduceToNat, Int.reduceLT, Int.reduceLE, Int.reduceEq, Int.reduceNeg, Int.reduceAdd, Int.reduceSub, Int.reduceMul, not_true_eq_false, not_false_eq_true, true_or, or_true, or_false, false_or, false_and, and_false, w32_lit, lc_lt, lc_gt, lc_eq, lc_ge, lc_le, ite10, true_and, and_true, reduceIte, Nat.reduceLT, cats, catA, Nat.reduceAdd, Nat.zero_le, Nat.reduceLeDiff]
  have e1 : w32 (w32 (6 * (t : Int)) + p) = ((6 * t + p : Nat) : Int) := by
    rw [w32_id (z := w32 (6 * (t : Int)) + p)] <;> rw [w32_id (by omega) (by omega)] <;> omega
  rw [e1]
  simp (disch := omega) only [w32_id, inA_t, isZ_t, i2l_id, l2i_id, if_pos, if_neg, true_and, and_true]
  simp only [Int.toNat_natCast, hw.1, hw.2]
  have : wrI h 61 24 0 = mM h 0 (fun j => rdL h 69 j) (rdI h 61 22) := by
    obtain ⟨a, b, c⟩ := h
    unfold mM wrI
    simp only [Prod.mk.injEq, and_true]
    constructor
    · funext b j
      by_cases q : b = 61 ∧ j = 24
      · simp [q]
      · by_cases q2 : b = 61 ∧ j = 22
        · simp [q2, rdI]
        · simp [q, q2]
    · funext b j
      by_cases q : b = 69
      · rw [if_pos q, q]; rfl
      · rw [if_neg q]
  rw [this]
  rfl
theorem m_worked {p a b : Nat} {v : Int64} (ht : t ≤ 60) (hp6 : p < 6) (hf : rdI h 61 22 = 0) (hw : worked_pre h t p a b) (hp : PgM h (220 * t) f N) (hb : b ≤ N) (hs : Sr f a b (EvM h) (.inr v)) : ∃ S', En GM (L + 2) 152 [vR (some 61), vI t, vI p] h (some (vL v)) (mM h 1 S' 0) := by
  obtain ⟨j, S', h1, h2, h3⟩ := hs.2 0 (fun j => rdL h 69 j)
  obtain ⟨h4, l5', l6', l7', h5⟩ := (m_sim hp hb (Int.le_refl _) (L := L) (l1 := vI t) (l2 := vI p) (Nat.zero_le _) h1 vU vU vU).1 b (0 + 1) S' rfl
  refine ⟨S', fun Q => ?_⟩
  rw [worked_in ht hp6 hw, hf, h5 Q, lpM_end (Int.le_refl _), h2]
theorem m_workedF {p a b : Nat} {e : Int} (ht : t ≤ 60) (hp6 : p < 6) (hf : rdI h 61 22 = 0) (hw : worked_pre h t p a b) (hp : PgM h (220 * t) f N) (hb : b ≤ N) (hs : Sr f a b (EvM h) (.inl e)) : ∃ n' S', En GM (L + 2) 152 [vR (some 61), vI t, vI p] h (some (vL 0)) (mM h n' S' e) := by
  obtain ⟨j, h1⟩ := hs.2 0 (fun j => rdL h 69 j)
  obtain ⟨n', S', h5⟩ := (m_sim hp hb (Int.le_refl _) (L := L) (l1 := vI t) (l2 := vI p) (Nat.zero_le _) h1 vU vU vU).2 e rfl
  refine ⟨n', S', fun Q => ?_⟩
  rw [worked_in ht hp6 hw, hf, h5 Q]
end SR
