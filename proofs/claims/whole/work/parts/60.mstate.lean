/-! where the reference's pile machine stands -/
def TxOK (T : Tx) : Prop := Ch T.1 T.2.1 0 0 T.m T.kd T.vl T.pl T.q ∧ T.m ≤ 200
def MS (h : AH) (T : Tx) (base i o n top : Nat) : Prop := BM h T.2.1 T.1 ∧ rdI h 61 6 = 0 ∧ rdI h 61 8 = o ∧ rdI h 61 14 = ((base + n : Nat) : Int) ∧ rdI h 61 11 = top ∧ rdI h 61 2 = T.q i ∧ rdI h 61 3 = T.pl i ∧ TkM (T.kd i) (T.vl i) (rdI h 61 4) (rdL h 61 5)
/-- what is left as it was: below n steps, below top of the pile -/
def Mv (h g : AH) (c top : Nat) : Prop := (∀ b j, ¬ (b = 61 ∧ (j = 2 ∨ j = 3 ∨ j = 4 ∨ j = 6 ∨ j = 7 ∨ j = 8 ∨ j = 11 ∨ j = 14)) → b ≠ 63 → b ≠ 64 → ¬ (b = 65 ∧ c ≤ j) → rdI g b j = rdI h b j) ∧ (∀ b j, ¬ (b = 61 ∧ j = 5) → ¬ (b = 66 ∧ c ≤ j) → rdL g b j = rdL h b j) ∧ g.2.2 = h.2.2 ∧ ∀ j < top, rdI g 63 j = rdI h 63 j ∧ rdI g 64 j = rdI h 64 j
def WF (g : AH) (k : Int) (p : Nat) : Prop := rdI g 61 6 = k ∧ k ≠ 0 ∧ rdI g 61 7 = p
def TrS (g : AH) (base : Nat) (f : Cd) (a b : Nat) : Prop := ∀ j, a ≤ j → j < b → TrM base (f j) (rdI g 65 (base + j)) (rdL g 66 (base + j))
section MV
variable {h g k : AH} {c c' top top' base i o n : Nat} {T : Tx} {f : Cd} {a b : Nat}
theorem Mv.rf : Mv h h c top := ⟨fun _ _ _ _ _ _ => rfl, fun _ _ _ _ => rfl, rfl, fun _ _ => ⟨rfl, rfl⟩⟩
theorem Mv.tr (x : Mv h g c top) (y : Mv g k c' top') (hc : c ≤ c') (ht : top ≤ top') : Mv h k c top := by
  refine ⟨fun b j p q r s => (y.1 b j p q r (by omega)).trans (x.1 b j p q r s), fun b j p q => (y.2.1 b j p (by omega)).trans (x.2.1 b j p q), y.2.2.1.trans x.2.2.1, fun j hj => ?_⟩
  obtain ⟨y1, y2⟩ := y.2.2.2 j (by omega)
  obtain ⟨x1, x2⟩ := x.2.2.2 j hj
  exact ⟨y1.trans x1, y2.trans x2⟩
theorem Mv.wF {j : Nat} {x : Int} (hj : j = 2 ∨ j = 3 ∨ j = 4 ∨ j = 6 ∨ j = 7 ∨ j = 8 ∨ j = 11 ∨ j = 14) : Mv h (wrI h 61 j x) c top := by
  refine ⟨fun b i p q r s => ?_, fun _ _ _ _ => rfl, rfl, fun i _ => ?_⟩
  · rw [rdI_wrI, if_neg (by omega)]
  · rw [rdI_wrI, rdI_wrI, if_neg (by omega), if_neg (by omega)]
    exact ⟨rfl, rfl⟩
theorem Mv.wP {r j : Nat} {x : Int} (hr : r = 63 ∨ r = 64) (hj : top ≤ j) : Mv h (wrI h r j x) c top := by
  refine ⟨fun b i p q r s => ?_, fun _ _ _ _ => rfl, rfl, fun i _ => ?_⟩
  · rw [rdI_wrI, if_neg (by omega)]
  · rw [rdI_wrI, rdI_wrI, if_neg (by omega), if_neg (by omega)]
    exact ⟨rfl, rfl⟩
theorem Mv.wO {j : Nat} {x : Int} (hj : c ≤ j) : Mv h (wrI h 65 j x) c top := by
  refine ⟨fun b i p q r s => ?_, fun _ _ _ _ => rfl, rfl, fun i _ => ?_⟩
  · rw [rdI_wrI, if_neg (by omega)]
  · rw [rdI_wrI, rdI_wrI, if_neg (by omega), if_neg (by omega)]
    exact ⟨rfl, rfl⟩
theorem Mv.wN {j : Nat} {x : Int64} (hj : c ≤ j) : Mv h (wrL h 66 j x) c top := by
  refine ⟨fun _ _ _ _ _ _ => rfl, fun b i p q => ?_, rfl, fun i _ => ⟨rfl, rfl⟩⟩
  rw [rdL_wrL, if_neg (by omega)]
theorem Mv.lM {p pl tk : Int} {w : Int64} : Mv h (lM h p pl tk w) c top := by
  refine ⟨fun b i p q r s => ?_, fun b i p q => ?_, rfl, fun i _ => ?_⟩
  · rw [rdI_lM, if_neg (by omega), if_neg (by omega), if_neg (by omega)]
  · rw [rdL_lM, if_neg p]
  · rw [rdI_lM, if_neg (by omega), if_neg (by omega), if_neg (by omega), rdI_lM, if_neg (by omega), if_neg (by omega), if_neg (by omega)]
    exact ⟨rfl, rfl⟩
theorem BM_M {N : Nat} {B : Nat → Int} (x : Mv h g c top) (hB : BM h N B) : BM g N B := by
  refine ⟨by rw [x.1 _ _ (by omega) (by omega) (by omega) (by omega)]; exact hB.1, hB.2.1, fun i => ?_⟩
  rw [← hB.2.2 i]
  unfold bt
  rw [x.1 _ _ (by omega) (by omega) (by omega) (by omega)]
theorem TrS_M (x : Mv h g (base + c) top) (hb : b ≤ c) (hT : TrS h base f a b) : TrS g base f a b := by
  intro j h1 h2
  rw [x.1 _ _ (by omega) (by omega) (by omega) (by omega), x.2.1 _ _ (by omega) (by omega)]
  exact hT j h1 h2
theorem TrS_c {f' : Cd} (hf : ∀ j, a ≤ j → j < b → f' j = f j) (hT : TrS h base f a b) : TrS h base f' a b := by
  intro j h1 h2
  rw [hf j h1 h2]
  exact hT j h1 h2
theorem TrS_j {m : Nat} (h1 : TrS h base f a m) (h2 : TrS h base f m b) : TrS h base f a b := by
  intro j h3 h4
  by_cases c : j < m
  · exact h1 j h3 c
  · exact h2 j (by omega) h4
theorem TrS_1 {c : Int × Int} {w : Int} {x : Int64} (hw : rdI h 65 (base + n) = w) (hx : rdL h 66 (base + n) = x) (ht : TrM base (f n) w x) : TrS h base f n (n + 1) := by
  intro j h3 h4
  have : j = n := by omega
  subst this
  rw [hw, hx]; exact ht
/-! one move each -/
def opsh (h : AH) (top : Nat) (w x : Int) : AH := wrI (wrI (wrI h 63 top w) 64 top x) 61 11 ((top + 1 : Nat) : Int)
def oord (h : AH) (c : Nat) (w : Int) (x : Int64) : AH := wrI (wrL (wrI h 65 c w) 66 c x) 61 14 ((c + 1 : Nat) : Int)
theorem Mv.psh {w x : Int} : Mv h (opsh h top w x) c top := ((Mv.wP (c := c) (Or.inl rfl) (Nat.le_refl top)).tr (Mv.wP (c := c) (Or.inr rfl) (Nat.le_refl top)) (Nat.le_refl _) (Nat.le_refl _)).tr (Mv.wF (c := c) (by omega)) (Nat.le_refl _) (Nat.le_refl top)
theorem Mv.ord {w : Int} {x : Int64} : Mv h (oord h c w x) c top := ((Mv.wO (Nat.le_refl c)).tr (Mv.wN (Nat.le_refl c)) (Nat.le_refl _) (Nat.le_refl _)).tr (Mv.wF (c := c) (by omega)) (Nat.le_refl _) (Nat.le_refl top)
theorem MS.psh {w x : Int} (hM : MS h T base i o n top) : MS (opsh h top w x) T base i o n (top + 1) := by
  obtain ⟨h1, h2, h3, h4, h5, h6, h7, h8⟩ := hM
  refine ⟨BM_M (Mv.psh (c := 0)) h1, ?_, ?_, ?_, ?_, ?_, ?_, ?_⟩ <;> simp [opsh, rdI_wrI, rdL_wrI, h2, h3, h4, h6, h7, h8]
theorem MS.ord {w : Int} {x : Int64} (hM : MS h T base i o n top) : MS (oord h (base + n) w x) T base i o (n + 1) top := by
  obtain ⟨h1, h2, h3, h4, h5, h6, h7, h8⟩ := hM
  refine ⟨BM_M (Mv.ord (top := 0)) h1, ?_, ?_, ?_, ?_, ?_, ?_, ?_⟩ <;> simp [oord, rdI_wrI, rdI_wrL, rdL_wrI, rdL_wrL, h2, h3, h5, h6, h7, h8]
  omega
theorem MS.pop (hM : MS h T base i o n (top + 1)) : MS (wrI h 61 11 (top : Int)) T base i o n top := by
  obtain ⟨h1, h2, h3, h4, h5, h6, h7, h8⟩ := hM
  refine ⟨BM_M (Mv.wF (c := 0) (top := 0) (by omega)) h1, ?_, ?_, ?_, ?_, ?_, ?_, ?_⟩ <;> simp [rdI_wrI, rdL_wrI, h2, h3, h4, h6, h7, h8]
theorem MS.opn {o' : Nat} (hM : MS h T base i o n top) : MS (wrI h 61 8 (o' : Int)) T base i o' n top := by
  obtain ⟨h1, h2, h3, h4, h5, h6, h7, h8⟩ := hM
  refine ⟨BM_M (Mv.wF (c := 0) (top := 0) (by omega)) h1, ?_, ?_, ?_, ?_, ?_, ?_, ?_⟩ <;> simp [rdI_wrI, rdL_wrI, h2, h4, h5, h6, h7, h8]
theorem MS.set {r j : Nat} {x : Int} (hr : r = 63 ∨ r = 64) (hM : MS h T base i o n top) : MS (wrI h r j x) T base i o n top := by
  obtain ⟨h1, h2, h3, h4, h5, h6, h7, h8⟩ := hM
  refine ⟨BM_M (Mv.wP (c := 0) (top := 0) hr (Nat.zero_le _)) h1, ?_, ?_, ?_, ?_, ?_, ?_, ?_⟩ <;> rcases hr with rfl | rfl <;> simp [rdI_wrI, rdL_wrI, h2, h3, h4, h5, h6, h7, h8]
theorem MS.num {j : Nat} {x : Int64} (hM : MS h T base i o n top) : MS (wrL h 66 j x) T base i o n top := by
  obtain ⟨h1, h2, h3, h4, h5, h6, h7, h8⟩ := hM
  refine ⟨BM_M (Mv.wN (c := 0) (top := 0) (Nat.zero_le _)) h1, ?_, ?_, ?_, ?_, ?_, ?_, ?_⟩ <;> simp [rdI_wrL, rdL_wrL, h2, h3, h4, h5, h6, h7, h8]
end MV
section MQ
variable {h : AH} {L base i o n top : Nat} {T : Tx} {Q : Option AV → AH → Prop}
theorem Ch_q {B : Nat → Int} {N m : Nat} {kd : Nat → Int} {val : Nat → Int64} {pl q : Nat → Nat} (h : Ch B N 0 0 m kd val pl q) (hi : i < m) : Lx B N (q i) (kd (i + 1)) (val (i + 1)) (pl (i + 1)) (q (i + 1)) ∧ kd i ≠ -1 ∧ q i ≤ N := h.2.2.1 i (Nat.zero_le _) hi
/-- the next token -/
theorem q_next (hT : TxOK T) (hM : MS h T base i o n top) (hi : i < T.m) (hq : ∀ g, MS g T base (i + 1) o n top → (∀ c t, Mv h g c t) → Q none g) : Call sysS GM (L + 2) 129 [vR (some 61)] h Q := by
  obtain ⟨h1, h2, h3, h4, h5, h6, h7, h8⟩ := hM
  obtain ⟨c1, c2, c3⟩ := Ch_q hT.1 hi
  obtain ⟨tk', w', d1, d2⟩ := t_M_next (L := L) (pl := rdI h 61 3) (tk := rdI h 61 4) (w := rdL h 61 5) h1 c3 c1
  have e := d2 Q
  rw [← h6, ← lM_self] at e
  rw [e]
  refine hq _ ⟨BM_M (Mv.lM (c := 0) (top := 0)) h1, ?_, ?_, ?_, ?_, ?_, ?_, ?_⟩ (fun c t => Mv.lM) <;> simp [rdI_lM, rdL_lM, h2, h3, h4, h5]
  exact d1
/-- a fault at this token -/
theorem q_bad (hM : MS h T base i o n top) (hq : ∀ g, WF g (if T.kd i = -2 then 1 else 2) (T.pl i) → (∀ c t, Mv h g c t) → Q none g) : Call sysS GM (L + 1) 136 [vR (some 61)] h Q := by
  obtain ⟨h1, h2, h3, h4, h5, h6, h7, h8⟩ := hM
  rw [t_M_bad h2]
  have ho := TkM_odd h8
  refine hq _ ⟨?_, by split <;> decide, ?_⟩ (fun c t => (Mv.wF (by omega)).tr (Mv.wF (c := c) (top := t) (by omega)) (Nat.le_refl _) (Nat.le_refl _))
  · simp only [rdI_wrI]
    by_cases c : T.kd i = -2
    · have := ho.mpr c
      simp [this, c]
    · have : ¬ rdI h 61 4 = 1 := fun q => c (ho.mp q)
      simp [this, c]
  · simp [rdI_wrI, h7]
theorem q_fault {k : Int} (hk : k ≠ 0) (hM : MS h T base i o n top) (hq : ∀ g, WF g k (T.pl i) → (∀ c t, Mv h g c t) → Q none g) : Call sysS GM L 135 [vR (some 61), vI k] h Q := by
  obtain ⟨h1, h2, h3, h4, h5, h6, h7, h8⟩ := hM
  rw [t_M_faultI h2]
  refine hq _ ⟨by simp [rdI_wrI], hk, by simp [rdI_wrI, h7]⟩ (fun c t => (Mv.wF (by omega)).tr (Mv.wF (c := c) (top := t) (by omega)) (Nat.le_refl _) (Nat.le_refl _))
theorem q_sign {c : Int} (hM : MS h T base i o n top) (hc : isSg c) : Call sysS GM L 132 [vR (some 61), vI c] h Q ↔ Q (some (vI (if T.kd i = c then 1 else 0))) h := by
  obtain ⟨h1, h2, h3, h4, h5, h6, h7, h8⟩ := hM
  rw [t_M_isSign (by unfold isSg at hc; exact ⟨by omega, by omega⟩)]
  have := TkM_sign h8 hc
  by_cases d : T.kd i = c
  · rw [if_pos (this.mpr d), if_pos d]
  · rw [if_neg (fun q => d (this.mp q)), if_neg d]
theorem q_key {c : Int} (hM : MS h T base i o n top) (hc : isLg (Int64.ofInt c)) (hi : inr c) : Call sysS GM L 133 [vR (some 61), vL (Int64.ofInt c)] h Q ↔ Q (some (vI (if T.kd i = c then 1 else 0))) h := by
  obtain ⟨h1, h2, h3, h4, h5, h6, h7, h8⟩ := hM
  rw [t_M_isKey]
  have := TkM_key h8 hc hi
  by_cases d : T.kd i = c
  · rw [if_pos (this.mpr d), if_pos d]
  · rw [if_neg (fun q => d (this.mp q)), if_neg d]
theorem q_push {w x : Int} (hM : MS h T base i o n top) (ht : top < 160) : Call sysS GM L 137 [vR (some 61), vI w, vI x] h Q ↔ Q none (opsh h top w x) := t_M_push hM.2.2.2.2.1 ht
theorem q_isTop {w : Int} (hM : MS h T base i o n (top + 1)) (ht : top < 160) : Call sysS GM L 139 [vR (some 61), vI w] h Q ↔ Q (some (vI (if rdI h 63 top = w then 1 else 0))) h := t_M_isTop hM.2.2.2.2.1 ht
theorem q_order {w : Int} {x : Int64} (hM : MS h T base i o n top) (ht : base + n < 13420) : Call sysS GM L 140 [vR (some 61), vI w, vL x] h Q ↔ Q none (oord h (base + n) w x) := t_M_order hM.2.2.2.1 ht
set_option maxRecDepth 10000 in
theorem q_take {c : Int} (hT : TxOK T) (hM : MS h T base i o n top) (hc : isSg c) (hi : i ≤ T.m) (h1 : T.kd i = c → ∀ g, MS g T base (i + 1) o n top → (∀ c t, Mv h g c t) → Q none g) (h2 : T.kd i ≠ c → ∀ g, WF g (if T.kd i = -2 then 1 else 2) (T.pl i) → (∀ c t, Mv h g c t) → Q none g) : Call sysS GM (L + 3) 144 [vR (some 61), vI c] h Q := by
  simp only [e_M_take, b_M_take_0, b_M_take_15, b_M_take_19, r_M_take, R_iconst, R_lc, R_null, R_ldc, R_gets0, R_gets1, R_objI, R_dupI, R_dupR, R_popI, R_popR, R_dup2L, R_dup2IR, R_pop2, R_i2l, R_l2i, R_lneg, R_lcmp, R_iadd, R_isub, R_imul, R_iand, R_ior, R_ixor, R_ishl, R_ishr, R_iushr, R_i2b, R_i2c, R_ladd, R_lsub, R_lmul, R_land, R_lor, R_lxor, R_lshl, R_lushr, R_goto, R_gotow, R_ifnullN, R_ifnullS, R_ifnonN, R_ifnonS, R_ifeq, R_ifne, R_iflt, R_ifge, R_ifgt, R_ifle, R_icmpeq, R_icmpne, R_icmplt, R_icmpge, R_icmpgt, R_icmple, R_tsw, R_lsw, R_alen, R_iald, R_bald, R_lald, R_aald, R_iast, R_last, R_bast, R_aast, R_new, R_newI, R_gf, R_pfI, R_pfZ, R_pfL, R_pfR, isZ_0, isZ_1, isZ_ite, gfA_0, gfA_1, gfA_2, gfA_3, opt2_s, opt2_n, R_iload0, R_iload1, R_iload2, R_iload3, R_iload4, R_iload5, R_iload6, R_iload7, R_iload8, R_lload0, R_lload1, R_lload2, R_lload3, R_lload4, R_lload5, R_lload6, R_lload7, R_lload8, R_aload0, R_aload1, R_aload2, R_aload3, R_aload4, R_aload5, R_aload6, R_aload7, R_aload8, R_istore0, R_istore1, R_istore2, R_istore3, R_istore4, R_istore5, R_istore6, R_istore7, R_istore8, R_lstore0, R_lstore1, R_lstore2, R_lstore3, R_lstore4, R_lstore5, R_lstore6, R_lstore7, R_lstore8, R_astore0, R_astore1, R_astore2, R_astore3, R_astore4, R_astore5, R_astore6, R_astore7, R_astore8, R_iinc0, R_iinc1, R_iinc2, R_iinc3, R_iinc4, R_iinc5, R_iinc6, R_iinc7, R_iinc8, KM_61, OM_61, KM_62, OM_62, KM_63, OM_63, KM_64, OM_64, KM_65, OM_65, KM_66, OM_66, KM_67, OM_67, KM_68, OM_68, KM_69, OM_69, KM_70, OM_70, KM_71, OM_71, KM_72, OM_72, KM_73, OM_73, KM_74, OM_74, KM_75, OM_75, KM_76, OM_76, KM_77, OM_77, KM_78, OM_78, KM_79, OM_79, KM_80, OM_80, KM_81, OM_81, KM_82, OM_82, KM_83, OM_83, KM_84, OM_84, KM_85, OM_85, KM_86, OM_86, KM_87, OM_87, KM_88, OM_88, KM_89, OM_89, KM_90, OM_90, KM_91, OM_91, KM_92, OM_92, PM_61_0, PM_61_9, PM_61_10, PM_61_12, PM_61_13, PM_61_15, PM_61_16, PM_61_23, PM_61_28, PM_61_31, PM_61_33, PM_61_34, PM_61_35, PM_61_36, PM_61_37, PM_61_38, PM_61_43, PM_61_44, PM_61_45, PM_61_46, PM_61_47, PM_61_48, PM_61_49, PM_61_50, PM_61_51, PM_61_52, PM_61_53, PM_61_54, PM_61_59, PM_61_60, PM_61_61, Nat.reduceDiv, Nat.reduceMod, Nat.reduceLeDiff, Nat.reduceEqDiff, Int.reduceToNat, Int.reduceLT, Int.reduceLE, Int.reduceEq, Int.reduceNeg, Int.reduceAdd, Int.reduceSub, Int.reduceMul, not_true_eq_false, not_false_eq_true, true_or, or_true, or_false, false_or, false_and, and_false, w32_lit, lc_lt, lc_gt, lc_eq, lc_ge, lc_le, ite10, true_and, and_true, reduceIte, Nat.reduceLT, cats, catA, Nat.reduceAdd, Nat.zero_le, Nat.reduceLeDiff, i_M_isSign, q_sign hM hc, i_M_next, i_M_bad]
  by_cases d : T.kd i = c
  · have him : i < T.m := by
      have := hT.1.2.2.2.1
      by_cases q : i < T.m
      · exact q
      · have : i = T.m := by omega
        rw [this, hT.1.2.2.2.1] at d
        unfold isSg at hc; omega
    rw [if_neg (fun q => q d)]
    refine q_next hT hM him (fun g a b => ?_)
    simp only [R_iconst, R_lc, R_null, R_ldc, R_gets0, R_gets1, R_objI, R_dupI, R_dupR, R_popI, R_popR, R_dup2L, R_dup2IR, R_pop2, R_i2l, R_l2i, R_lneg, R_lcmp, R_iadd, R_isub, R_imul, R_iand, R_ior, R_ixor, R_ishl, R_ishr, R_iushr, R_i2b, R_i2c, R_ladd, R_lsub, R_lmul, R_land, R_lor, R_lxor, R_lshl, R_lushr, R_goto, R_gotow, R_ifnullN, R_ifnullS, R_ifnonN, R_ifnonS, R_ifeq, R_ifne, R_iflt, R_ifge, R_ifgt, R_ifle, R_icmpeq, R_icmpne, R_icmplt, R_icmpge, R_icmpgt, R_icmple, R_tsw, R_lsw, R_alen, R_iald, R_bald, R_lald, R_aald, R_iast, R_last, R_bast, R_aast, R_new, R_newI, R_gf, R_pfI, R_pfZ, R_pfL, R_pfR, isZ_0, isZ_1, isZ_ite, gfA_0, gfA_1, gfA_2, gfA_3, opt2_s, opt2_n, R_iload0, R_iload1, R_iload2, R_iload3, R_iload4, R_iload5, R_iload6, R_iload7, R_iload8, R_lload0, R_lload1, R_lload2, R_lload3, R_lload4, R_lload5, R_lload6, R_lload7, R_lload8, R_aload0, R_aload1, R_aload2, R_aload3, R_aload4, R_aload5, R_aload6, R_aload7, R_aload8, R_istore0, R_istore1, R_istore2, R_istore3, R_istore4, R_istore5, R_istore6, R_istore7, R_istore8, R_lstore0, R_lstore1, R_lstore2, R_lstore3, R_lstore4, R_lstore5, R_lstore6, R_lstore7, R_lstore8, R_astore0, R_astore1, R_astore2, R_astore3, R_astore4, R_astore5, R_astore6, R_astore7, R_astore8, R_iinc0, R_iinc1, R_iinc2, R_iinc3, R_iinc4, R_iinc5, R_iinc6, R_iinc7, R_iinc8, KM_61, OM_61, KM_62, OM_62, KM_63, OM_63, KM_64, OM_64, KM_65, OM_65, KM_66, OM_66, KM_67, OM_67, KM_68, OM_68, KM_69, OM_69, KM_70, OM_70, KM_71, OM_71, KM_72, OM_72, KM_73, OM_73, KM_74, OM_74, KM_75, OM_75, KM_76, OM_76, KM_77, OM_77, KM_78, OM_78, KM_79, OM_79, KM_80, OM_80, KM_81, OM_81, KM_82, OM_82, KM_83, OM_83, KM_84, OM_84, KM_85, OM_85, KM_86, OM_86, KM_87, OM_87, KM_88, OM_88, KM_89, OM_89, KM_90, OM_90, KM_91, OM_91, KM_92, OM_92, PM_61_0, PM_61_9, PM_61_10, PM_61_12, PM_61_13, PM_61_15, PM_61_16, PM_61_23, PM_61_28, PM_61_31, PM_61_33, PM_61_34, PM_61_35, PM_61_36, PM_61_37, PM_61_38, PM_61_43, PM_61_44, PM_61_45, PM_61_46, PM_61_47, PM_61_48, PM_61_49, PM_61_50, PM_61_51, PM_61_52, PM_61_53, PM_61_54, PM_61_59, PM_61_60, PM_61_61, Nat.reduceDiv, Nat.reduceMod, Nat.reduceLeDiff, Nat.reduceEqDiff, Int.reduceToNat, Int.reduceLT, Int.reduceLE, Int.reduceEq, Int.reduceNeg, Int.reduceAdd, Int.reduceSub, Int.reduceMul, not_true_eq_false, not_false_eq_true, true_or, or_true, or_false, false_or, false_and, and_false, w32_lit, lc_lt, lc_gt, lc_eq, lc_ge, lc_le, ite10, true_and, and_true, reduceIte, Nat.reduceLT, cats, catA, Nat.reduceAdd, Nat.zero_le, Nat.reduceLeDiff, r_M_take]
    exact h1 d g a b
  · rw [if_pos d]
    refine q_bad hM (fun g a b => ?_)
    simp only [R_iconst, R_lc, R_null, R_ldc, R_gets0, R_gets1, R_objI, R_dupI, R_dupR, R_popI, R_popR, R_dup2L, R_dup2IR, R_pop2, R_i2l, R_l2i, R_lneg, R_lcmp, R_iadd, R_isub, R_imul, R_iand, R_ior, R_ixor, R_ishl, R_ishr, R_iushr, R_i2b, R_i2c, R_ladd, R_lsub, R_lmul, R_land, R_lor, R_lxor, R_lshl, R_lushr, R_goto, R_gotow, R_ifnullN, R_ifnullS, R_ifnonN, R_ifnonS, R_ifeq, R_ifne, R_iflt, R_ifge, R_ifgt, R_ifle, R_icmpeq, R_icmpne, R_icmplt, R_icmpge, R_icmpgt, R_icmple, R_tsw, R_lsw, R_alen, R_iald, R_bald, R_lald, R_aald, R_iast, R_last, R_bast, R_aast, R_new, R_newI, R_gf, R_pfI, R_pfZ, R_pfL, R_pfR, isZ_0, isZ_1, isZ_ite, gfA_0, gfA_1, gfA_2, gfA_3, opt2_s, opt2_n, R_iload0, R_iload1, R_iload2, R_iload3, R_iload4, R_iload5, R_iload6, R_iload7, R_iload8, R_lload0, R_lload1, R_lload2, R_lload3, R_lload4, R_lload5, R_lload6, R_lload7, R_lload8, R_aload0, R_aload1, R_aload2, R_aload3, R_aload4, R_aload5, R_aload6, R_aload7, R_aload8, R_istore0, R_istore1, R_istore2, R_istore3, R_istore4, R_istore5, R_istore6, R_istore7, R_istore8, R_lstore0, R_lstore1, R_lstore2, R_lstore3, R_lstore4, R_lstore5, R_lstore6, R_lstore7, R_lstore8, R_astore0, R_astore1, R_astore2, R_astore3, R_astore4, R_astore5, R_astore6, R_astore7, R_astore8, R_iinc0, R_iinc1, R_iinc2, R_iinc3, R_iinc4, R_iinc5, R_iinc6, R_iinc7, R_iinc8, KM_61, OM_61, KM_62, OM_62, KM_63, OM_63, KM_64, OM_64, KM_65, OM_65, KM_66, OM_66, KM_67, OM_67, KM_68, OM_68, KM_69, OM_69, KM_70, OM_70, KM_71, OM_71, KM_72, OM_72, KM_73, OM_73, KM_74, OM_74, KM_75, OM_75, KM_76, OM_76, KM_77, OM_77, KM_78, OM_78, KM_79, OM_79, KM_80, OM_80, KM_81, OM_81, KM_82, OM_82, KM_83, OM_83, KM_84, OM_84, KM_85, OM_85, KM_86, OM_86, KM_87, OM_87, KM_88, OM_88, KM_89, OM_89, KM_90, OM_90, KM_91, OM_91, KM_92, OM_92, PM_61_0, PM_61_9, PM_61_10, PM_61_12, PM_61_13, PM_61_15, PM_61_16, PM_61_23, PM_61_28, PM_61_31, PM_61_33, PM_61_34, PM_61_35, PM_61_36, PM_61_37, PM_61_38, PM_61_43, PM_61_44, PM_61_45, PM_61_46, PM_61_47, PM_61_48, PM_61_49, PM_61_50, PM_61_51, PM_61_52, PM_61_53, PM_61_54, PM_61_59, PM_61_60, PM_61_61, Nat.reduceDiv, Nat.reduceMod, Nat.reduceLeDiff, Nat.reduceEqDiff, Int.reduceToNat, Int.reduceLT, Int.reduceLE, Int.reduceEq, Int.reduceNeg, Int.reduceAdd, Int.reduceSub, Int.reduceMul, not_true_eq_false, not_false_eq_true, true_or, or_true, or_false, false_or, false_and, and_false, w32_lit, lc_lt, lc_gt, lc_eq, lc_ge, lc_le, ite10, true_and, and_true, reduceIte, Nat.reduceLT, cats, catA, Nat.reduceAdd, Nat.zero_le, Nat.reduceLeDiff, r_M_take]
    exact h2 d g a b
set_option maxRecDepth 10000 in
theorem q_opens {w : Int} (hT : TxOK T) (hM : MS h T base i o n top) (ho : o ≤ 12) (ht : top < 160) (hi : i < T.m) (h1 : o < 12 → ∀ g, MS g T base (i + 1) (o + 1) n (top + 1) → (∀ c, Mv h g c top) → rdI g 63 top = w → Q none g) (h2 : o = 12 → ∀ g, WF g 3 (T.pl i) → (∀ c t, Mv h g c t) → Q none g) : Call sysS GM (L + 3) 138 [vR (some 61), vI w] h Q := by
  have hop := hM.2.2.1
  simp only [e_M_opens, b_M_opens_0, b_M_opens_17, b_M_opens_37, r_M_opens, R_iconst, R_lc, R_null, R_ldc, R_gets0, R_gets1, R_objI, R_dupI, R_dupR, R_popI, R_popR, R_dup2L, R_dup2IR, R_pop2, R_i2l, R_l2i, R_lneg, R_lcmp, R_iadd, R_isub, R_imul, R_iand, R_ior, R_ixor, R_ishl, R_ishr, R_iushr, R_i2b, R_i2c, R_ladd, R_lsub, R_lmul, R_land, R_lor, R_lxor, R_lshl, R_lushr, R_goto, R_gotow, R_ifnullN, R_ifnullS, R_ifnonN, R_ifnonS, R_ifeq, R_ifne, R_iflt, R_ifge, R_ifgt, R_ifle, R_icmpeq, R_icmpne, R_icmplt, R_icmpge, R_icmpgt, R_icmple, R_tsw, R_lsw, R_alen, R_iald, R_bald, R_lald, R_aald, R_iast, R_last, R_bast, R_aast, R_new, R_newI, R_gf, R_pfI, R_pfZ, R_pfL, R_pfR, isZ_0, isZ_1, isZ_ite, gfA_0, gfA_1, gfA_2, gfA_3, opt2_s, opt2_n, R_iload0, R_iload1, R_iload2, R_iload3, R_iload4, R_iload5, R_iload6, R_iload7, R_iload8, R_lload0, R_lload1, R_lload2, R_lload3, R_lload4, R_lload5, R_lload6, R_lload7, R_lload8, R_aload0, R_aload1, R_aload2, R_aload3, R_aload4, R_aload5, R_aload6, R_aload7, R_aload8, R_istore0, R_istore1, R_istore2, R_istore3, R_istore4, R_istore5, R_istore6, R_istore7, R_istore8, R_lstore0, R_lstore1, R_lstore2, R_lstore3, R_lstore4, R_lstore5, R_lstore6, R_lstore7, R_lstore8, R_astore0, R_astore1, R_astore2, R_astore3, R_astore4, R_astore5, R_astore6, R_astore7, R_astore8, R_iinc0, R_iinc1, R_iinc2, R_iinc3, R_iinc4, R_iinc5, R_iinc6, R_iinc7, R_iinc8, KM_61, OM_61, KM_62, OM_62, KM_63, OM_63, KM_64, OM_64, KM_65, OM_65, KM_66, OM_66, KM_67, OM_67, KM_68, OM_68, KM_69, OM_69, KM_70, OM_70, KM_71, OM_71, KM_72, OM_72, KM_73, OM_73, KM_74, OM_74, KM_75, OM_75, KM_76, OM_76, KM_77, OM_77, KM_78, OM_78, KM_79, OM_79, KM_80, OM_80, KM_81, OM_81, KM_82, OM_82, KM_83, OM_83, KM_84, OM_84, KM_85, OM_85, KM_86, OM_86, KM_87, OM_87, KM_88, OM_88, KM_89, OM_89, KM_90, OM_90, KM_91, OM_91, KM_92, OM_92, PM_61_0, PM_61_9, PM_61_10, PM_61_12, PM_61_13, PM_61_15, PM_61_16, PM_61_23, PM_61_28, PM_61_31, PM_61_33, PM_61_34, PM_61_35, PM_61_36, PM_61_37, PM_61_38, PM_61_43, PM_61_44, PM_61_45, PM_61_46, PM_61_47, PM_61_48, PM_61_49, PM_61_50, PM_61_51, PM_61_52, PM_61_53, PM_61_54, PM_61_59, PM_61_60, PM_61_61, Nat.reduceDiv, Nat.reduceMod, Nat.reduceLeDiff, Nat.reduceEqDiff, Int.reduceToNat, Int.reduceLT, Int.reduceLE, Int.reduceEq, Int.reduceNeg, Int.reduceAdd, Int.reduceSub, Int.reduceMul, not_true_eq_false, not_false_eq_true, true_or, or_true, or_false, false_or, false_and, and_false, w32_lit, lc_lt, lc_gt, lc_eq, lc_ge, lc_le, ite10, true_and, and_true, reduceIte, Nat.reduceLT, cats, catA, Nat.reduceAdd, Nat.zero_le, Nat.reduceLeDiff, hop, i_M_fault_I, i_M_push]
  by_cases c : o = 12
  · rw [if_neg (by omega)]
    refine q_fault (by decide) hM (fun g a b => ?_)
    simp only [R_iconst, R_lc, R_null, R_ldc, R_gets0, R_gets1, R_objI, R_dupI, R_dupR, R_popI, R_popR, R_dup2L, R_dup2IR, R_pop2, R_i2l, R_l2i, R_lneg, R_lcmp, R_iadd, R_isub, R_imul, R_iand, R_ior, R_ixor, R_ishl, R_ishr, R_iushr, R_i2b, R_i2c, R_ladd, R_lsub, R_lmul, R_land, R_lor, R_lxor, R_lshl, R_lushr, R_goto, R_gotow, R_ifnullN, R_ifnullS, R_ifnonN, R_ifnonS, R_ifeq, R_ifne, R_iflt, R_ifge, R_ifgt, R_ifle, R_icmpeq, R_icmpne, R_icmplt, R_icmpge, R_icmpgt, R_icmple, R_tsw, R_lsw, R_alen, R_iald, R_bald, R_lald, R_aald, R_iast, R_last, R_bast, R_aast, R_new, R_newI, R_gf, R_pfI, R_pfZ, R_pfL, R_pfR, isZ_0, isZ_1, isZ_ite, gfA_0, gfA_1, gfA_2, gfA_3, opt2_s, opt2_n, R_iload0, R_iload1, R_iload2, R_iload3, R_iload4, R_iload5, R_iload6, R_iload7, R_iload8, R_lload0, R_lload1, R_lload2, R_lload3, R_lload4, R_lload5, R_lload6, R_lload7, R_lload8, R_aload0, R_aload1, R_aload2, R_aload3, R_aload4, R_aload5, R_aload6, R_aload7, R_aload8, R_istore0, R_istore1, R_istore2, R_istore3, R_istore4, R_istore5, R_istore6, R_istore7, R_istore8, R_lstore0, R_lstore1, R_lstore2, R_lstore3, R_lstore4, R_lstore5, R_lstore6, R_lstore7, R_lstore8, R_astore0, R_astore1, R_astore2, R_astore3, R_astore4, R_astore5, R_astore6, R_astore7, R_astore8, R_iinc0, R_iinc1, R_iinc2, R_iinc3, R_iinc4, R_iinc5, R_iinc6, R_iinc7, R_iinc8, KM_61, OM_61, KM_62, OM_62, KM_63, OM_63, KM_64, OM_64, KM_65, OM_65, KM_66, OM_66, KM_67, OM_67, KM_68, OM_68, KM_69, OM_69, KM_70, OM_70, KM_71, OM_71, KM_72, OM_72, KM_73, OM_73, KM_74, OM_74, KM_75, OM_75, KM_76, OM_76, KM_77, OM_77, KM_78, OM_78, KM_79, OM_79, KM_80, OM_80, KM_81, OM_81, KM_82, OM_82, KM_83, OM_83, KM_84, OM_84, KM_85, OM_85, KM_86, OM_86, KM_87, OM_87, KM_88, OM_88, KM_89, OM_89, KM_90, OM_90, KM_91, OM_91, KM_92, OM_92, PM_61_0, PM_61_9, PM_61_10, PM_61_12, PM_61_13, PM_61_15, PM_61_16, PM_61_23, PM_61_28, PM_61_31, PM_61_33, PM_61_34, PM_61_35, PM_61_36, PM_61_37, PM_61_38, PM_61_43, PM_61_44, PM_61_45, PM_61_46, PM_61_47, PM_61_48, PM_61_49, PM_61_50, PM_61_51, PM_61_52, PM_61_53, PM_61_54, PM_61_59, PM_61_60, PM_61_61, Nat.reduceDiv, Nat.reduceMod, Nat.reduceLeDiff, Nat.reduceEqDiff, Int.reduceToNat, Int.reduceLT, Int.reduceLE, Int.reduceEq, Int.reduceNeg, Int.reduceAdd, Int.reduceSub, Int.reduceMul, not_true_eq_false, not_false_eq_true, true_or, or_true, or_false, false_or, false_and, and_false, w32_lit, lc_lt, lc_gt, lc_eq, lc_ge, lc_le, ite10, true_and, and_true, reduceIte, Nat.reduceLT, cats, catA, Nat.reduceAdd, Nat.zero_le, Nat.reduceLeDiff, r_M_opens]
    exact h2 c g a b
  · rw [if_pos (by omega), show w32 ((o : Int) + 1) = ((o + 1 : Nat) : Int) by rw [w32_id (by omega) (by omega)]; push_cast; rfl]
    rw [q_push (hM.opn (o' := o + 1)) ht]
    simp only [R_iconst, R_lc, R_null, R_ldc, R_gets0, R_gets1, R_objI, R_dupI, R_dupR, R_popI, R_popR, R_dup2L, R_dup2IR, R_pop2, R_i2l, R_l2i, R_lneg, R_lcmp, R_iadd, R_isub, R_imul, R_iand, R_ior, R_ixor, R_ishl, R_ishr, R_iushr, R_i2b, R_i2c, R_ladd, R_lsub, R_lmul, R_land, R_lor, R_lxor, R_lshl, R_lushr, R_goto, R_gotow, R_ifnullN, R_ifnullS, R_ifnonN, R_ifnonS, R_ifeq, R_ifne, R_iflt, R_ifge, R_ifgt, R_ifle, R_icmpeq, R_icmpne, R_icmplt, R_icmpge, R_icmpgt, R_icmple, R_tsw, R_lsw, R_alen, R_iald, R_bald, R_lald, R_aald, R_iast, R_last, R_bast, R_aast, R_new, R_newI, R_gf, R_pfI, R_pfZ, R_pfL, R_pfR, isZ_0, isZ_1, isZ_ite, gfA_0, gfA_1, gfA_2, gfA_3, opt2_s, opt2_n, R_iload0, R_iload1, R_iload2, R_iload3, R_iload4, R_iload5, R_iload6, R_iload7, R_iload8, R_lload0, R_lload1, R_lload2, R_lload3, R_lload4, R_lload5, R_lload6, R_lload7, R_lload8, R_aload0, R_aload1, R_aload2, R_aload3, R_aload4, R_aload5, R_aload6, R_aload7, R_aload8, R_istore0, R_istore1, R_istore2, R_istore3, R_istore4, R_istore5, R_istore6, R_istore7, R_istore8, R_lstore0, R_lstore1, R_lstore2, R_lstore3, R_lstore4, R_lstore5, R_lstore6, R_lstore7, R_lstore8, R_astore0, R_astore1, R_astore2, R_astore3, R_astore4, R_astore5, R_astore6, R_astore7, R_astore8, R_iinc0, R_iinc1, R_iinc2, R_iinc3, R_iinc4, R_iinc5, R_iinc6, R_iinc7, R_iinc8, KM_61, OM_61, KM_62, OM_62, KM_63, OM_63, KM_64, OM_64, KM_65, OM_65, KM_66, OM_66, KM_67, OM_67, KM_68, OM_68, KM_69, OM_69, KM_70, OM_70, KM_71, OM_71, KM_72, OM_72, KM_73, OM_73, KM_74, OM_74, KM_75, OM_75, KM_76, OM_76, KM_77, OM_77, KM_78, OM_78, KM_79, OM_79, KM_80, OM_80, KM_81, OM_81, KM_82, OM_82, KM_83, OM_83, KM_84, OM_84, KM_85, OM_85, KM_86, OM_86, KM_87, OM_87, KM_88, OM_88, KM_89, OM_89, KM_90, OM_90, KM_91, OM_91, KM_92, OM_92, PM_61_0, PM_61_9, PM_61_10, PM_61_12, PM_61_13, PM_61_15, PM_61_16, PM_61_23, PM_61_28, PM_61_31, PM_61_33, PM_61_34, PM_61_35, PM_61_36, PM_61_37, PM_61_38, PM_61_43, PM_61_44, PM_61_45, PM_61_46, PM_61_47, PM_61_48, PM_61_49, PM_61_50, PM_61_51, PM_61_52, PM_61_53, PM_61_54, PM_61_59, PM_61_60, PM_61_61, Nat.reduceDiv, Nat.reduceMod, Nat.reduceLeDiff, Nat.reduceEqDiff, Int.reduceToNat, Int.reduceLT, Int.reduceLE, Int.reduceEq, Int.reduceNeg, Int.reduceAdd, Int.reduceSub, Int.reduceMul, not_true_eq_false, not_false_eq_true, true_or, or_true, or_false, false_or, false_and, and_false, w32_lit, lc_lt, lc_gt, lc_eq, lc_ge, lc_le, ite10, true_and, and_true, reduceIte, Nat.reduceLT, cats, catA, Nat.reduceAdd, Nat.zero_le, Nat.reduceLeDiff, i_M_next]
    refine q_next hT ((hM.opn (o' := o + 1)).psh) hi (fun g a b => ?_)
    simp only [R_iconst, R_lc, R_null, R_ldc, R_gets0, R_gets1, R_objI, R_dupI, R_dupR, R_popI, R_popR, R_dup2L, R_dup2IR, R_pop2, R_i2l, R_l2i, R_lneg, R_lcmp, R_iadd, R_isub, R_imul, R_iand, R_ior, R_ixor, R_ishl, R_ishr, R_iushr, R_i2b, R_i2c, R_ladd, R_lsub, R_lmul, R_land, R_lor, R_lxor, R_lshl, R_lushr, R_goto, R_gotow, R_ifnullN, R_ifnullS, R_ifnonN, R_ifnonS, R_ifeq, R_ifne, R_iflt, R_ifge, R_ifgt, R_ifle, R_icmpeq, R_icmpne, R_icmplt, R_icmpge, R_icmpgt, R_icmple, R_tsw, R_lsw, R_alen, R_iald, R_bald, R_lald, R_aald, R_iast, R_last, R_bast, R_aast, R_new, R_newI, R_gf, R_pfI, R_pfZ, R_pfL, R_pfR, isZ_0, isZ_1, isZ_ite, gfA_0, gfA_1, gfA_2, gfA_3, opt2_s, opt2_n, R_iload0, R_iload1, R_iload2, R_iload3, R_iload4, R_iload5, R_iload6, R_iload7, R_iload8, R_lload0, R_lload1, R_lload2, R_lload3, R_lload4, R_lload5, R_lload6, R_lload7, R_lload8, R_aload0, R_aload1, R_aload2, R_aload3, R_aload4, R_aload5, R_aload6, R_aload7, R_aload8, R_istore0, R_istore1, R_istore2, R_istore3, R_istore4, R_istore5, R_istore6, R_istore7, R_istore8, R_lstore0, R_lstore1, R_lstore2, R_lstore3, R_lstore4, R_lstore5, R_lstore6, R_lstore7, R_lstore8, R_astore0, R_astore1, R_astore2, R_astore3, R_astore4, R_astore5, R_astore6, R_astore7, R_astore8, R_iinc0, R_iinc1, R_iinc2, R_iinc3, R_iinc4, R_iinc5, R_iinc6, R_iinc7, R_iinc8, KM_61, OM_61, KM_62, OM_62, KM_63, OM_63, KM_64, OM_64, KM_65, OM_65, KM_66, OM_66, KM_67, OM_67, KM_68, OM_68, KM_69, OM_69, KM_70, OM_70, KM_71, OM_71, KM_72, OM_72, KM_73, OM_73, KM_74, OM_74, KM_75, OM_75, KM_76, OM_76, KM_77, OM_77, KM_78, OM_78, KM_79, OM_79, KM_80, OM_80, KM_81, OM_81, KM_82, OM_82, KM_83, OM_83, KM_84, OM_84, KM_85, OM_85, KM_86, OM_86, KM_87, OM_87, KM_88, OM_88, KM_89, OM_89, KM_90, OM_90, KM_91, OM_91, KM_92, OM_92, PM_61_0, PM_61_9, PM_61_10, PM_61_12, PM_61_13, PM_61_15, PM_61_16, PM_61_23, PM_61_28, PM_61_31, PM_61_33, PM_61_34, PM_61_35, PM_61_36, PM_61_37, PM_61_38, PM_61_43, PM_61_44, PM_61_45, PM_61_46, PM_61_47, PM_61_48, PM_61_49, PM_61_50, PM_61_51, PM_61_52, PM_61_53, PM_61_54, PM_61_59, PM_61_60, PM_61_61, Nat.reduceDiv, Nat.reduceMod, Nat.reduceLeDiff, Nat.reduceEqDiff, Int.reduceToNat, Int.reduceLT, Int.reduceLE, Int.reduceEq, Int.reduceNeg, Int.reduceAdd, Int.reduceSub, Int.reduceMul, not_true_eq_false, not_false_eq_true, true_or, or_true, or_false, false_or, false_and, and_false, w32_lit, lc_lt, lc_gt, lc_eq, lc_ge, lc_le, ite10, true_and, and_true, reduceIte, Nat.reduceLT, cats, catA, Nat.reduceAdd, Nat.zero_le, Nat.reduceLeDiff, b_M_opens_37, r_M_opens]
    refine h1 (by omega) g a (fun c => ((Mv.wF (by omega)).tr (Mv.psh (c := c) (top := top)) (Nat.le_refl _) (Nat.le_refl _)).tr (b c top) (Nat.le_refl _) (Nat.le_refl _)) ?_
    rw [((b 0 (top + 1)).2.2.2 top (by omega)).1]
    simp [opsh, rdI_wrI]
end MQ
