/-! the two constructors -/
def uI (f : Nat → Nat → Int) (a k : Nat) (v : Int) : Nat → Nat → Int := fun b j => if b = a ∧ j = k then v else f b j
def uQ (q : Nat → Nat → Option Nat) (a k r : Nat) : Nat → Nat → Option Nat := fun b j => if b = a ∧ j = k then some r else q b j
/-- a heap under way: n cells, s slots, its numbers, its references, the kinds that are told ahead -/
def PI (h0 h : AH) (n s : Nat) (f : Nat → Nat → Int) (q : Nat → Nat → Option Nat) : Prop := hpN h = n ∧ hpS h = s ∧ 4 ≤ n ∧ (∀ b, b < 4 → (∀ j, rdI h b j = rdI h0 b j ∧ rdL h b j = rdL h0 b j ∧ rdQ h b j = rdQ h0 b j) ∧ rdK h b = rdK h0 b) ∧ (∀ b, 4 ≤ b → ∀ j, rdI h b j = f b j ∧ rdL h b j = 0 ∧ rdQ h b j = q b j) ∧ (∀ b, n ≤ b → ∀ j, f b j = 0 ∧ q b j = none) ∧ ∀ b, 4 ≤ b → b < n → kapS b = some (rdK h b)
section IN
variable {h0 h : AH} {n s n' s' a L mi : Nat} {f : Nat → Nat → Int} {q : Nat → Nat → Option Nat} {is : List Instr} {ls l st : List AV} {Q : Option AV → AH → Prop}
theorem PI.al {K : Nat × Nat} (P : PI h0 h n s f q) (hk : kapS n = some K) : PI h0 (hpA h K) (n + 1) (s + K.2) f q := by
  obtain ⟨p1, p2, p3, p4, p5, p6, p7⟩ := P
  refine ⟨by rw [hpN_hpA, p1], by show hpS h + K.2 = _; rw [p2], by omega, fun b hb => ⟨fun j => ?_, ?_⟩, fun b hb j => ?_, fun b hb j => p6 b (by omega) j, fun b hb hbn => ?_⟩
  · rw [rdI_hpA, rdL_hpA, rdQ_hpA, if_neg (by omega), if_neg (by omega), if_neg (by omega)]
    exact (p4 b hb).1 j
  · rw [rdK_hpA, if_neg (by omega)]
    exact (p4 b hb).2
  · rw [rdI_hpA, rdL_hpA, rdQ_hpA, p1]
    by_cases c : b = n
    · rw [if_pos c, if_pos c, if_pos c, (p6 b (by omega) j).1, (p6 b (by omega) j).2]
      exact ⟨rfl, rfl, rfl⟩
    · rw [if_neg c, if_neg c, if_neg c]
      exact p5 b hb j
  · rw [rdK_hpA, p1]
    by_cases c : b = n
    · rw [if_pos c, c]; exact hk
    · rw [if_neg c]; exact p7 b hb (by omega)
theorem PI.wR {k r : Nat} (P : PI h0 h n s f q) (ha : 4 ≤ a) (han : a < n) : PI h0 (wrR h a k (some r)) n s f (uQ q a k r) := by
  obtain ⟨p1, p2, p3, p4, p5, p6, p7⟩ := P
  refine ⟨p1, p2, p3, fun b hb => ⟨fun j => ?_, (p4 b hb).2⟩, fun b hb j => ⟨(p5 b hb j).1, (p5 b hb j).2.1, ?_⟩, fun b hb j => ⟨(p6 b hb j).1, ?_⟩, p7⟩
  · rw [rdQ_wrR, if_neg (by omega)]
    exact (p4 b hb).1 j
  · unfold uQ
    rw [rdQ_wrR]
    by_cases c : b = a ∧ j = k
    · rw [if_pos c, if_pos c]
    · rw [if_neg c, if_neg c]; exact (p5 b hb j).2.2
  · unfold uQ
    rw [if_neg (by omega)]
    exact (p6 b hb j).2
theorem PI.wI {k : Nat} {v : Int} (P : PI h0 h n s f q) (ha : 4 ≤ a) (han : a < n) : PI h0 (wrI h a k v) n s (uI f a k v) q := by
  obtain ⟨p1, p2, p3, p4, p5, p6, p7⟩ := P
  refine ⟨p1, p2, p3, fun b hb => ⟨fun j => ?_, (p4 b hb).2⟩, fun b hb j => ⟨?_, (p5 b hb j).2.1, (p5 b hb j).2.2⟩, fun b hb j => ⟨?_, (p6 b hb j).2⟩, p7⟩
  · rw [rdI_wrI, if_neg (by omega)]
    exact (p4 b hb).1 j
  · unfold uI
    rw [rdI_wrI]
    by_cases c : b = a ∧ j = k
    · rw [if_pos c, if_pos c]
    · rw [if_neg c, if_neg c]; exact (p5 b hb j).1
  · unfold uI
    rw [if_neg (by omega)]
    exact (p6 b hb j).1
theorem PI.k {K : Nat × Nat} (P : PI h0 h n s f q) (hk : kapS a = some K) (ha : 4 ≤ a) (han : a < n) : knd G0 h a = K := by
  have := P.2.2.2.2.2.2 a ha han
  rw [hk] at this
  exact (Option.some.inj this).symm
theorem PI.r {k r : Nat} (P : PI h0 h n s f q) (ha : 4 ≤ a) (hq : q a k = some r) : rdR G0 h a k = some r := by
  have := (P.2.2.2.2.1 a ha k).2.2
  show rdQ h a k = some r
  rw [this, hq]
theorem st_arr {t : ArrayType} {x : Int} {sh m c cm : Nat} (P : PI h0 h n s f q) (hk : kapS n = some (sh, m)) (hc : kapS a = some (c / 1000, cm)) (hsh : shpN t = some sh) (hx : x.toNat = m ∧ inA x 100000 = true) (hc2 : c % 10 = 2) (ha : 4 ≤ a) (han : a < n) (hn : n + 1 = n') (hs : s + m = s')
    (kk : ∀ h', PI h0 h' n' s' f (uQ q a (c / 10 % 100) n) → Run sysS G0 L mi is (vR (some a) :: l) [] h' Q) : Run sysS G0 L mi (.aload 0 :: .iconst x :: .newarray t :: .putfield c :: is) (vR (some a) :: l) [] h Q := by
  have P1 := P.al hk
  rw [R_aload0, R_iconst, Run_hc (c := (G0.2.1 (hpN h) = none ∧ inA x 100000 = true)) (st' := vR (some (hpN h)) :: [vR (some a)]) (h' := hpA h (sh, x.toNat)) rfl rfl (by simp [heapOp, hsh]) rfl rfl rfl, hx.1, P.1]
  refine ⟨⟨rfl, hx.2⟩, ?_⟩
  rw [R_pfR c hc2, P1.k hc ha (by omega)]
  refine ⟨⟨rfl, decide_eq_true ha, rfl⟩, kk _ ?_⟩
  subst hn; subst hs
  exact P1.wR ha (by omega)
theorem st_anew {x : Int} {e m c cm : Nat} (P : PI h0 h n s f q) (hk : kapS n = some (24 + e, m)) (hc : kapS a = some (c / 1000, cm)) (he : e < 20) (hx : x.toNat = m ∧ inA x 100000 = true) (hc2 : c % 10 = 2) (ha : 4 ≤ a) (han : a < n) (hn : n + 1 = n') (hs : s + m = s')
    (kk : ∀ h', PI h0 h' n' s' f (uQ q a (c / 10 % 100) n) → Run sysS G0 L mi is (vR (some a) :: l) [] h' Q) : Run sysS G0 L mi (.aload 0 :: .iconst x :: .anewarray e :: .putfield c :: is) (vR (some a) :: l) [] h Q := by
  have P1 := P.al hk
  rw [R_aload0, R_iconst, Run_hc (c := (G0.2.1 (hpN h) = none ∧ inA x 100000 = true ∧ e < 20)) (st' := vR (some (hpN h)) :: [vR (some a)]) (h' := hpA h (24 + e, x.toNat)) rfl rfl rfl rfl rfl rfl, hx.1, P.1]
  refine ⟨⟨rfl, hx.2, he⟩, ?_⟩
  rw [R_pfR c hc2, P1.k hc ha (by omega)]
  refine ⟨⟨rfl, decide_eq_true ha, rfl⟩, kk _ ?_⟩
  subst hn; subst hs
  exact P1.wR ha (by omega)
theorem st_int {x : Int} {c cm : Nat} (P : PI h0 h n s f q) (hc : kapS a = some (c / 1000, cm)) (hc2 : c % 10 = 0) (ha : 4 ≤ a) (han : a < n)
    (kk : ∀ h', PI h0 h' n s (uI f a (c / 10 % 100) x) q → Run sysS G0 L mi is (vR (some a) :: l) [] h' Q) : Run sysS G0 L mi (.aload 0 :: .iconst x :: .putfield c :: is) (vR (some a) :: l) [] h Q := by
  rw [R_aload0, R_iconst, R_pfI c hc2, P.k hc ha han]
  exact ⟨⟨rfl, decide_eq_true ha⟩, kk _ (P.wI ha han)⟩
theorem st_ref {r c cm : Nat} (P : PI h0 h n s f q) (hc : kapS a = some (c / 1000, cm)) (hc2 : c % 10 = 2) (ha : 4 ≤ a) (han : a < n)
    (kk : ∀ h', PI h0 h' n s f (uQ q a (c / 10 % 100) r) → Run sysS G0 L mi is ls st h' Q) : Run sysS G0 L mi (.putfield c :: is) ls (vR (some r) :: vR (some a) :: st) h Q := by
  rw [R_pfR c hc2, P.k hc ha han]
  exact ⟨⟨rfl, decide_eq_true ha, rfl⟩, kk _ (P.wR ha han)⟩
theorem st_aast {y e m m2 : Nat} {x : Int} (P : PI h0 h n s f q) (hk : kapS a = some (24 + e, m)) (hy : kapS y = some (e, m2)) (he : e < 12) (hx : inA x m = true) (ha : 4 ≤ a) (han : a < n) (ha2 : 4 ≤ y) (han2 : y < n)
    (kk : ∀ h', PI h0 h' n s f (uQ q a x.toNat y) → Run sysS G0 L mi is ls st h' Q) : Run sysS G0 L mi (.aastore :: is) ls (vR (some y) :: vI x :: vR (some a) :: st) h Q := by
  rw [R_aast, P.k hk ha han, P.k hy ha2 han2]
  exact ⟨⟨by show 24 ≤ 24 + e; omega, by show 24 + e < 36; omega, decide_eq_true ha, hx, rfl, Nat.add_comm _ _⟩, kk _ (P.wR ha han)⟩
theorem st_new {k c m ml : Nat} {body : List Instr} {lt : List AV} (P : PI h0 h n s f q) (hk : kapS n = some (c, m)) (hm : sysS.2.2 c = m) (hc : c < 20) (hq : sysS.1 k = ([2], 3, ml, 2, c)) (hb : sysS.2.1 k 0 = .aload 0 :: .monitorexit :: body) (hl : lay0 ml [vR (some n)] = vR (some n) :: lt) (hst : cats st ≤ 7) (hn : n + 1 = n') (hs : s + m = s')
    (kk : ∀ h', PI h0 h' n' s' f q → Run sysS G0 L k body (vR (some n) :: lt) [] h' (fun r g => Run sysS G0 (L + 1) mi is ls (opt2 r (vR (some n) :: st)) g Q)) : Run sysS G0 (L + 1) mi (.new c :: .dup :: .invokespecial k :: is) ls st h Q := by
  have P1 := P.al hk
  have kn := P1.k hk P.2.2.1 (by omega)
  rw [R_new, hm, P.1]
  refine ⟨⟨rfl, hc⟩, ?_⟩
  rw [R_dupR, Run_ic (c := ((sysS.1 k).2.2.2.1 = 2 ∧ rcvA G0 (hpA h (c, m)) (sysS.1 k) [vR (some n)] = true ∧ cats (vR (some n) :: st) ≤ 8)) (k := k) (as := [vR (some n)]) (rest := vR (some n) :: st) rfl rfl rfl rfl rfl (by simp only [invA]; rw [hq]; rfl)]
  refine ⟨⟨by rw [hq], ?_, ?_⟩, ?_⟩
  · rw [hq]
    show decide ((knd G0 (hpA h (c, m)) n).1 = c) = true
    rw [kn]
    exact decide_eq_true rfl
  · show 1 + cats st ≤ 8
    omega
  · show Run sysS G0 L k (sysS.2.1 k 0) (lay0 (sysS.1 k).2.2.1 [vR (some n)]) [] _ _
    rw [hq, hb]
    show Run sysS G0 L k _ (lay0 ml [vR (some n)]) [] _ _
    rw [hl, R_aload0, R_objI]
    subst hn; subst hs
    exact kk _ P1
end IN
def iF : Nat → Nat → Int := uI (uI (uI (uI (uI (uI (uI (uI (uI (uI (uI (uI (uI (uI (fun _ _ => 0) 28 10 (-5)) 28 11 (-5)) 32 10 (-5)) 32 11 (-5)) 36 10 (-5)) 36 11 (-5)) 40 10 (-5)) 40 11 (-5)) 44 10 (-5)) 44 11 (-5)) 48 10 (-5)) 48 11 (-5)) 4 7 (1)) 61 42 (1)
def iQ : Nat → Nat → Option Nat := uQ (uQ (uQ (uQ (uQ (uQ (uQ (uQ (uQ (uQ (uQ (uQ (uQ (uQ (uQ (uQ (uQ (uQ (uQ (uQ (uQ (uQ (uQ (uQ (uQ (uQ (uQ (uQ (uQ (uQ (uQ (uQ (uQ (uQ (uQ (uQ (uQ (uQ (uQ (uQ (uQ (uQ (uQ (uQ (uQ (uQ (uQ (uQ (uQ (uQ (uQ (uQ (uQ (uQ (uQ (uQ (uQ (uQ (uQ (uQ (uQ (uQ (uQ (uQ (uQ (uQ (uQ (uQ (uQ (uQ (uQ (uQ (uQ (uQ (uQ (uQ (uQ (uQ (uQ (uQ (uQ (uQ (uQ (uQ (uQ (uQ (uQ (fun _ _ => none) 5 0 6) 4 0 5) 7 0 8) 4 1 7) 10 0 11) 10 1 12) 10 2 13) 9 0 10) 14 0 15) 14 1 16) 9 1 14) 4 2 9) 17 0 18) 17 1 19) 17 2 20) 17 3 21) 17 4 22) 17 5 23) 17 6 24) 4 3 17) 25 0 26) 4 4 25) 4 5 27) 28 3 29) 28 5 30) 28 6 31) 27 0 28) 32 3 33) 32 5 34) 32 6 35) 27 1 32) 36 3 37) 36 5 38) 36 6 39) 27 2 36) 40 3 41) 40 5 42) 40 6 43) 27 3 40) 44 3 45) 44 5 46) 44 6 47) 27 4 44) 48 3 49) 48 5 50) 48 6 51) 27 5 48) 4 6 52) 53 1 54) 52 0 53) 55 1 56) 52 1 55) 57 1 58) 52 2 57) 59 1 60) 52 3 59) 61 0 62) 61 9 63) 61 10 64) 61 12 65) 61 13 66) 61 15 67) 61 16 68) 61 23 69) 61 28 70) 61 31 71) 61 33 72) 61 34 73) 61 35 74) 61 36 75) 61 37 76) 61 38 77) 61 43 78) 61 44 79) 61 45 80) 61 46 81) 61 47 82) 61 48 83) 61 49 84) 61 50 85) 61 51 86) 61 52 87) 61 53 88) 61 54 89) 61 59 90) 61 60 91) 61 61 92
theorem PI_00 (n : Nat) (xs : Nat → Int32) : PI (h00 n xs) (h00 n xs) 4 0 (fun _ _ => 0) (fun _ _ => none) := by
  refine ⟨rfl, rfl, by decide, fun b _ => ⟨fun j => ⟨rfl, rfl, rfl⟩, rfl⟩, fun b hb j => ⟨?_, rfl, ?_⟩, fun b _ j => ⟨rfl, rfl⟩, fun b h1 h2 => by omega⟩
  · show (if b = 0 then (xs j).toInt else if b = 1 then kwL.getD j 0 else if b = 3 then sgL.getD j 0 else 0) = 0
    rw [if_neg (by omega), if_neg (by omega), if_neg (by omega)]
  · show (if b = 2 ∧ j = 0 then some 3 else none) = none
    rw [if_neg (by omega)]
set_option maxRecDepth 20000 in
set_option maxHeartbeats 4000000 in
theorem init_run {n : Nat} {xs : Nat → Int32} {Q : Option AV → AH → Prop} (kk : ∀ h, PI (h00 n xs) h 93 35036 iF iQ → Run sysS G0 1000 199 (sysS.2.1 199 18) [vR (some 0), vR (some 4), vR (some 61), vI 0] [] h Q) : Run sysS G0 1000 199 (sysS.2.1 199 0) [vR (some 0), vU, vU, vU] [] (h00 n xs) Q := by
  have P0 := PI_00 n xs
  rw [b_law_law_0]
  refine st_new (n' := 5) (s' := 15) (lt := [vU]) P0 rfl rfl (by decide) q_X_init b_X_init_0 rfl (by decide) rfl rfl (fun h1 P1 => ?_)
  rw [R_aload0]
  refine st_new (n' := 6) (s' := 17) (lt := []) P1 rfl rfl (by decide) q_Text_init b_Text_init_0 rfl (by decide) rfl rfl (fun h2 P2 => ?_)
  refine st_arr (n' := 7) (s' := 217) P2 rfl rfl rfl (by decide) rfl (by decide) (by decide) rfl rfl (fun h3 P3 => ?_)
  rw [r_Text_init]
  rw [opt2_n]
  refine st_ref P3 rfl rfl (by decide) (by decide) (fun h4 P4 => ?_)
  rw [R_aload0]
  refine st_new (n' := 8) (s' := 219) (lt := []) P4 rfl rfl (by decide) q_Names_init b_Names_init_0 rfl (by decide) rfl rfl (fun h5 P5 => ?_)
  refine st_arr (n' := 9) (s' := 227) P5 rfl rfl rfl (by decide) rfl (by decide) (by decide) rfl rfl (fun h6 P6 => ?_)
  rw [r_Names_init]
  rw [opt2_n]
  refine st_ref P6 rfl rfl (by decide) (by decide) (fun h7 P7 => ?_)
  rw [R_aload0]
  refine st_new (n' := 10) (s' := 234) (lt := []) P7 rfl rfl (by decide) q_Reader_init b_Reader_init_0 rfl (by decide) rfl rfl (fun h8 P8 => ?_)
  rw [R_aload0]
  refine st_new (n' := 11) (s' := 238) (lt := []) P8 rfl rfl (by decide) q_Tokens_init b_Tokens_init_0 rfl (by decide) rfl rfl (fun h9 P9 => ?_)
  refine st_arr (n' := 12) (s' := 439) P9 rfl rfl rfl (by decide) rfl (by decide) (by decide) rfl rfl (fun h10 P10 => ?_)
  refine st_arr (n' := 13) (s' := 640) P10 rfl rfl rfl (by decide) rfl (by decide) (by decide) rfl rfl (fun h11 P11 => ?_)
  refine st_arr (n' := 14) (s' := 841) P11 rfl rfl rfl (by decide) rfl (by decide) (by decide) rfl rfl (fun h12 P12 => ?_)
  rw [r_Tokens_init]
  rw [opt2_n]
  refine st_ref P12 rfl rfl (by decide) (by decide) (fun h13 P13 => ?_)
  rw [R_aload0]
  refine st_new (n' := 15) (s' := 847) (lt := []) P13 rfl rfl (by decide) q_Program_init_0 b_Program_init_0_0 rfl (by decide) rfl rfl (fun h14 P14 => ?_)
  refine st_arr (n' := 16) (s' := 1047) P14 rfl rfl rfl (by decide) rfl (by decide) (by decide) rfl rfl (fun h15 P15 => ?_)
  refine st_arr (n' := 17) (s' := 1247) P15 rfl rfl rfl (by decide) rfl (by decide) (by decide) rfl rfl (fun h16 P16 => ?_)
  rw [r_Program_init_0]
  rw [opt2_n]
  refine st_ref P16 rfl rfl (by decide) (by decide) (fun h17 P17 => ?_)
  rw [r_Reader_init]
  rw [opt2_n]
  refine st_ref P17 rfl rfl (by decide) (by decide) (fun h18 P18 => ?_)
  rw [R_aload0]
  refine st_new (n' := 18) (s' := 1255) (lt := []) P18 rfl rfl (by decide) q_Log_init b_Log_init_0 rfl (by decide) rfl rfl (fun h19 P19 => ?_)
  refine st_arr (n' := 19) (s' := 1316) P19 rfl rfl rfl (by decide) rfl (by decide) (by decide) rfl rfl (fun h20 P20 => ?_)
  refine st_arr (n' := 20) (s' := 1377) P20 rfl rfl rfl (by decide) rfl (by decide) (by decide) rfl rfl (fun h21 P21 => ?_)
  refine st_arr (n' := 21) (s' := 1438) P21 rfl rfl rfl (by decide) rfl (by decide) (by decide) rfl rfl (fun h22 P22 => ?_)
  refine st_arr (n' := 22) (s' := 1499) P22 rfl rfl rfl (by decide) rfl (by decide) (by decide) rfl rfl (fun h23 P23 => ?_)
  refine st_anew (n' := 23) (s' := 1560) P23 rfl rfl (by decide) (by decide) rfl (by decide) (by decide) rfl rfl (fun h24 P24 => ?_)
  refine st_arr (n' := 24) (s' := 2048) P24 rfl rfl rfl (by decide) rfl (by decide) (by decide) rfl rfl (fun h25 P25 => ?_)
  refine st_arr (n' := 25) (s' := 2109) P25 rfl rfl rfl (by decide) rfl (by decide) (by decide) rfl rfl (fun h26 P26 => ?_)
  rw [r_Log_init]
  rw [opt2_n]
  refine st_ref P26 rfl rfl (by decide) (by decide) (fun h27 P27 => ?_)
  rw [R_aload0]
  refine st_new (n' := 26) (s' := 2116) (lt := []) P27 rfl rfl (by decide) q_Machine_init b_Machine_init_0 rfl (by decide) rfl rfl (fun h28 P28 => ?_)
  refine st_arr (n' := 27) (s' := 2316) P28 rfl rfl rfl (by decide) rfl (by decide) (by decide) rfl rfl (fun h29 P29 => ?_)
  rw [r_Machine_init]
  rw [opt2_n]
  refine st_ref P29 rfl rfl (by decide) (by decide) (fun h30 P30 => ?_)
  refine st_anew (n' := 28) (s' := 2322) P30 rfl rfl (by decide) (by decide) rfl (by decide) (by decide) rfl rfl (fun h31 P31 => ?_)
  rw [R_iconst, R_istore1, R_gotow]
  have r31 := P31.r (a := 4) (k := 5) (r := 27) (by decide) rfl
  have k31 := P31.k (a := 4) rfl (by decide) (by decide)
  have z31 := P31.k (a := 27) rfl (by decide) (by decide)
  rw [show sysS.2.1 0 ((70 : Int)).toNat = _ from b_X_init_70]
  simp only [R_iload1, R_aload0, R_gf, k31, z31, gfA_2, r31, R_alen, R_icmpge, Nat.reduceDiv, Nat.reduceMod, Nat.reduceLeDiff, Nat.reduceLT, true_and, and_true]
  rw [if_neg (by decide)]
  refine st_new (n' := 29) (s' := 2334) (lt := []) P31 rfl rfl (by decide) q_Task_init b_Task_init_0 rfl (by decide) rfl rfl (fun h32 P32 => ?_)
  refine st_anew (n' := 30) (s' := 2340) P32 rfl rfl (by decide) (by decide) rfl (by decide) (by decide) rfl rfl (fun h33 P33 => ?_)
  refine st_arr (n' := 31) (s' := 2380) P33 rfl rfl rfl (by decide) rfl (by decide) (by decide) rfl rfl (fun h34 P34 => ?_)
  refine st_arr (n' := 32) (s' := 2420) P34 rfl rfl rfl (by decide) rfl (by decide) (by decide) rfl rfl (fun h35 P35 => ?_)
  refine st_int P35 rfl rfl (by decide) (by decide) (fun h36 P36 => ?_)
  refine st_int P36 rfl rfl (by decide) (by decide) (fun h37 P37 => ?_)
  rw [r_Task_init]
  rw [opt2_n]
  refine st_aast P37 rfl rfl (by decide) (by decide) (by decide) (by decide) (by decide) (by decide) (fun h38 P38 => ?_)
  rw [R_iinc1, R_goto, show w32 ((0 : Int) + 1) = 1 from by decide]
  have r38 := P38.r (a := 4) (k := 5) (r := 27) (by decide) rfl
  have k38 := P38.k (a := 4) rfl (by decide) (by decide)
  have z38 := P38.k (a := 27) rfl (by decide) (by decide)
  rw [show sysS.2.1 0 ((70 : Int)).toNat = _ from b_X_init_70]
  simp only [R_iload1, R_aload0, R_gf, k38, z38, gfA_2, r38, R_alen, R_icmpge, Nat.reduceDiv, Nat.reduceMod, Nat.reduceLeDiff, Nat.reduceLT, true_and, and_true]
  rw [if_neg (by decide)]
  refine st_new (n' := 33) (s' := 2432) (lt := []) P38 rfl rfl (by decide) q_Task_init b_Task_init_0 rfl (by decide) rfl rfl (fun h39 P39 => ?_)
  refine st_anew (n' := 34) (s' := 2438) P39 rfl rfl (by decide) (by decide) rfl (by decide) (by decide) rfl rfl (fun h40 P40 => ?_)
  refine st_arr (n' := 35) (s' := 2478) P40 rfl rfl rfl (by decide) rfl (by decide) (by decide) rfl rfl (fun h41 P41 => ?_)
  refine st_arr (n' := 36) (s' := 2518) P41 rfl rfl rfl (by decide) rfl (by decide) (by decide) rfl rfl (fun h42 P42 => ?_)
  refine st_int P42 rfl rfl (by decide) (by decide) (fun h43 P43 => ?_)
  refine st_int P43 rfl rfl (by decide) (by decide) (fun h44 P44 => ?_)
  rw [r_Task_init]
  rw [opt2_n]
  refine st_aast P44 rfl rfl (by decide) (by decide) (by decide) (by decide) (by decide) (by decide) (fun h45 P45 => ?_)
  rw [R_iinc1, R_goto, show w32 ((1 : Int) + 1) = 2 from by decide]
  have r45 := P45.r (a := 4) (k := 5) (r := 27) (by decide) rfl
  have k45 := P45.k (a := 4) rfl (by decide) (by decide)
  have z45 := P45.k (a := 27) rfl (by decide) (by decide)
  rw [show sysS.2.1 0 ((70 : Int)).toNat = _ from b_X_init_70]
  simp only [R_iload1, R_aload0, R_gf, k45, z45, gfA_2, r45, R_alen, R_icmpge, Nat.reduceDiv, Nat.reduceMod, Nat.reduceLeDiff, Nat.reduceLT, true_and, and_true]
  rw [if_neg (by decide)]
  refine st_new (n' := 37) (s' := 2530) (lt := []) P45 rfl rfl (by decide) q_Task_init b_Task_init_0 rfl (by decide) rfl rfl (fun h46 P46 => ?_)
  refine st_anew (n' := 38) (s' := 2536) P46 rfl rfl (by decide) (by decide) rfl (by decide) (by decide) rfl rfl (fun h47 P47 => ?_)
  refine st_arr (n' := 39) (s' := 2576) P47 rfl rfl rfl (by decide) rfl (by decide) (by decide) rfl rfl (fun h48 P48 => ?_)
  refine st_arr (n' := 40) (s' := 2616) P48 rfl rfl rfl (by decide) rfl (by decide) (by decide) rfl rfl (fun h49 P49 => ?_)
  refine st_int P49 rfl rfl (by decide) (by decide) (fun h50 P50 => ?_)
  refine st_int P50 rfl rfl (by decide) (by decide) (fun h51 P51 => ?_)
  rw [r_Task_init]
  rw [opt2_n]
  refine st_aast P51 rfl rfl (by decide) (by decide) (by decide) (by decide) (by decide) (by decide) (fun h52 P52 => ?_)
  rw [R_iinc1, R_goto, show w32 ((2 : Int) + 1) = 3 from by decide]
  have r52 := P52.r (a := 4) (k := 5) (r := 27) (by decide) rfl
  have k52 := P52.k (a := 4) rfl (by decide) (by decide)
  have z52 := P52.k (a := 27) rfl (by decide) (by decide)
  rw [show sysS.2.1 0 ((70 : Int)).toNat = _ from b_X_init_70]
  simp only [R_iload1, R_aload0, R_gf, k52, z52, gfA_2, r52, R_alen, R_icmpge, Nat.reduceDiv, Nat.reduceMod, Nat.reduceLeDiff, Nat.reduceLT, true_and, and_true]
  rw [if_neg (by decide)]
  refine st_new (n' := 41) (s' := 2628) (lt := []) P52 rfl rfl (by decide) q_Task_init b_Task_init_0 rfl (by decide) rfl rfl (fun h53 P53 => ?_)
  refine st_anew (n' := 42) (s' := 2634) P53 rfl rfl (by decide) (by decide) rfl (by decide) (by decide) rfl rfl (fun h54 P54 => ?_)
  refine st_arr (n' := 43) (s' := 2674) P54 rfl rfl rfl (by decide) rfl (by decide) (by decide) rfl rfl (fun h55 P55 => ?_)
  refine st_arr (n' := 44) (s' := 2714) P55 rfl rfl rfl (by decide) rfl (by decide) (by decide) rfl rfl (fun h56 P56 => ?_)
  refine st_int P56 rfl rfl (by decide) (by decide) (fun h57 P57 => ?_)
  refine st_int P57 rfl rfl (by decide) (by decide) (fun h58 P58 => ?_)
  rw [r_Task_init]
  rw [opt2_n]
  refine st_aast P58 rfl rfl (by decide) (by decide) (by decide) (by decide) (by decide) (by decide) (fun h59 P59 => ?_)
  rw [R_iinc1, R_goto, show w32 ((3 : Int) + 1) = 4 from by decide]
  have r59 := P59.r (a := 4) (k := 5) (r := 27) (by decide) rfl
  have k59 := P59.k (a := 4) rfl (by decide) (by decide)
  have z59 := P59.k (a := 27) rfl (by decide) (by decide)
  rw [show sysS.2.1 0 ((70 : Int)).toNat = _ from b_X_init_70]
  simp only [R_iload1, R_aload0, R_gf, k59, z59, gfA_2, r59, R_alen, R_icmpge, Nat.reduceDiv, Nat.reduceMod, Nat.reduceLeDiff, Nat.reduceLT, true_and, and_true]
  rw [if_neg (by decide)]
  refine st_new (n' := 45) (s' := 2726) (lt := []) P59 rfl rfl (by decide) q_Task_init b_Task_init_0 rfl (by decide) rfl rfl (fun h60 P60 => ?_)
  refine st_anew (n' := 46) (s' := 2732) P60 rfl rfl (by decide) (by decide) rfl (by decide) (by decide) rfl rfl (fun h61 P61 => ?_)
  refine st_arr (n' := 47) (s' := 2772) P61 rfl rfl rfl (by decide) rfl (by decide) (by decide) rfl rfl (fun h62 P62 => ?_)
  refine st_arr (n' := 48) (s' := 2812) P62 rfl rfl rfl (by decide) rfl (by decide) (by decide) rfl rfl (fun h63 P63 => ?_)
  refine st_int P63 rfl rfl (by decide) (by decide) (fun h64 P64 => ?_)
  refine st_int P64 rfl rfl (by decide) (by decide) (fun h65 P65 => ?_)
  rw [r_Task_init]
  rw [opt2_n]
  refine st_aast P65 rfl rfl (by decide) (by decide) (by decide) (by decide) (by decide) (by decide) (fun h66 P66 => ?_)
  rw [R_iinc1, R_goto, show w32 ((4 : Int) + 1) = 5 from by decide]
  have r66 := P66.r (a := 4) (k := 5) (r := 27) (by decide) rfl
  have k66 := P66.k (a := 4) rfl (by decide) (by decide)
  have z66 := P66.k (a := 27) rfl (by decide) (by decide)
  rw [show sysS.2.1 0 ((70 : Int)).toNat = _ from b_X_init_70]
  simp only [R_iload1, R_aload0, R_gf, k66, z66, gfA_2, r66, R_alen, R_icmpge, Nat.reduceDiv, Nat.reduceMod, Nat.reduceLeDiff, Nat.reduceLT, true_and, and_true]
  rw [if_neg (by decide)]
  refine st_new (n' := 49) (s' := 2824) (lt := []) P66 rfl rfl (by decide) q_Task_init b_Task_init_0 rfl (by decide) rfl rfl (fun h67 P67 => ?_)
  refine st_anew (n' := 50) (s' := 2830) P67 rfl rfl (by decide) (by decide) rfl (by decide) (by decide) rfl rfl (fun h68 P68 => ?_)
  refine st_arr (n' := 51) (s' := 2870) P68 rfl rfl rfl (by decide) rfl (by decide) (by decide) rfl rfl (fun h69 P69 => ?_)
  refine st_arr (n' := 52) (s' := 2910) P69 rfl rfl rfl (by decide) rfl (by decide) (by decide) rfl rfl (fun h70 P70 => ?_)
  refine st_int P70 rfl rfl (by decide) (by decide) (fun h71 P71 => ?_)
  refine st_int P71 rfl rfl (by decide) (by decide) (fun h72 P72 => ?_)
  rw [r_Task_init]
  rw [opt2_n]
  refine st_aast P72 rfl rfl (by decide) (by decide) (by decide) (by decide) (by decide) (by decide) (fun h73 P73 => ?_)
  rw [R_iinc1, R_goto, show w32 ((5 : Int) + 1) = 6 from by decide]
  have r73 := P73.r (a := 4) (k := 5) (r := 27) (by decide) rfl
  have k73 := P73.k (a := 4) rfl (by decide) (by decide)
  have z73 := P73.k (a := 27) rfl (by decide) (by decide)
  rw [show sysS.2.1 0 ((70 : Int)).toNat = _ from b_X_init_70]
  simp only [R_iload1, R_aload0, R_gf, k73, z73, gfA_2, r73, R_alen, R_icmpge, Nat.reduceDiv, Nat.reduceMod, Nat.reduceLeDiff, Nat.reduceLT, true_and, and_true]
  rw [if_pos (by decide)]
  rw [show sysS.2.1 0 ((98 : Int)).toNat = _ from b_X_init_98]
  refine st_anew (n' := 53) (s' := 2914) P73 rfl rfl (by decide) (by decide) rfl (by decide) (by decide) rfl rfl (fun h74 P74 => ?_)
  rw [R_iconst, R_istore1, R_gotow]
  have r74 := P74.r (a := 4) (k := 6) (r := 52) (by decide) rfl
  have k74 := P74.k (a := 4) rfl (by decide) (by decide)
  have z74 := P74.k (a := 52) rfl (by decide) (by decide)
  rw [show sysS.2.1 0 ((108 : Int)).toNat = _ from b_X_init_108]
  simp only [R_iload1, R_aload0, R_gf, k74, z74, gfA_2, r74, R_alen, R_icmpge, Nat.reduceDiv, Nat.reduceMod, Nat.reduceLeDiff, Nat.reduceLT, true_and, and_true]
  rw [if_neg (by decide)]
  refine st_new (n' := 54) (s' := 2916) (lt := []) P74 rfl rfl (by decide) q_Mark_init b_Mark_init_0 rfl (by decide) rfl rfl (fun h75 P75 => ?_)
  refine st_arr (n' := 55) (s' := 2922) P75 rfl rfl rfl (by decide) rfl (by decide) (by decide) rfl rfl (fun h76 P76 => ?_)
  rw [r_Mark_init]
  rw [opt2_n]
  refine st_aast P76 rfl rfl (by decide) (by decide) (by decide) (by decide) (by decide) (by decide) (fun h77 P77 => ?_)
  rw [R_iinc1, R_goto, show w32 ((0 : Int) + 1) = 1 from by decide]
  have r77 := P77.r (a := 4) (k := 6) (r := 52) (by decide) rfl
  have k77 := P77.k (a := 4) rfl (by decide) (by decide)
  have z77 := P77.k (a := 52) rfl (by decide) (by decide)
  rw [show sysS.2.1 0 ((108 : Int)).toNat = _ from b_X_init_108]
  simp only [R_iload1, R_aload0, R_gf, k77, z77, gfA_2, r77, R_alen, R_icmpge, Nat.reduceDiv, Nat.reduceMod, Nat.reduceLeDiff, Nat.reduceLT, true_and, and_true]
  rw [if_neg (by decide)]
  refine st_new (n' := 56) (s' := 2924) (lt := []) P77 rfl rfl (by decide) q_Mark_init b_Mark_init_0 rfl (by decide) rfl rfl (fun h78 P78 => ?_)
  refine st_arr (n' := 57) (s' := 2930) P78 rfl rfl rfl (by decide) rfl (by decide) (by decide) rfl rfl (fun h79 P79 => ?_)
  rw [r_Mark_init]
  rw [opt2_n]
  refine st_aast P79 rfl rfl (by decide) (by decide) (by decide) (by decide) (by decide) (by decide) (fun h80 P80 => ?_)
  rw [R_iinc1, R_goto, show w32 ((1 : Int) + 1) = 2 from by decide]
  have r80 := P80.r (a := 4) (k := 6) (r := 52) (by decide) rfl
  have k80 := P80.k (a := 4) rfl (by decide) (by decide)
  have z80 := P80.k (a := 52) rfl (by decide) (by decide)
  rw [show sysS.2.1 0 ((108 : Int)).toNat = _ from b_X_init_108]
  simp only [R_iload1, R_aload0, R_gf, k80, z80, gfA_2, r80, R_alen, R_icmpge, Nat.reduceDiv, Nat.reduceMod, Nat.reduceLeDiff, Nat.reduceLT, true_and, and_true]
  rw [if_neg (by decide)]
  refine st_new (n' := 58) (s' := 2932) (lt := []) P80 rfl rfl (by decide) q_Mark_init b_Mark_init_0 rfl (by decide) rfl rfl (fun h81 P81 => ?_)
  refine st_arr (n' := 59) (s' := 2938) P81 rfl rfl rfl (by decide) rfl (by decide) (by decide) rfl rfl (fun h82 P82 => ?_)
  rw [r_Mark_init]
  rw [opt2_n]
  refine st_aast P82 rfl rfl (by decide) (by decide) (by decide) (by decide) (by decide) (by decide) (fun h83 P83 => ?_)
  rw [R_iinc1, R_goto, show w32 ((2 : Int) + 1) = 3 from by decide]
  have r83 := P83.r (a := 4) (k := 6) (r := 52) (by decide) rfl
  have k83 := P83.k (a := 4) rfl (by decide) (by decide)
  have z83 := P83.k (a := 52) rfl (by decide) (by decide)
  rw [show sysS.2.1 0 ((108 : Int)).toNat = _ from b_X_init_108]
  simp only [R_iload1, R_aload0, R_gf, k83, z83, gfA_2, r83, R_alen, R_icmpge, Nat.reduceDiv, Nat.reduceMod, Nat.reduceLeDiff, Nat.reduceLT, true_and, and_true]
  rw [if_neg (by decide)]
  refine st_new (n' := 60) (s' := 2940) (lt := []) P83 rfl rfl (by decide) q_Mark_init b_Mark_init_0 rfl (by decide) rfl rfl (fun h84 P84 => ?_)
  refine st_arr (n' := 61) (s' := 2946) P84 rfl rfl rfl (by decide) rfl (by decide) (by decide) rfl rfl (fun h85 P85 => ?_)
  rw [r_Mark_init]
  rw [opt2_n]
  refine st_aast P85 rfl rfl (by decide) (by decide) (by decide) (by decide) (by decide) (by decide) (fun h86 P86 => ?_)
  rw [R_iinc1, R_goto, show w32 ((3 : Int) + 1) = 4 from by decide]
  have r86 := P86.r (a := 4) (k := 6) (r := 52) (by decide) rfl
  have k86 := P86.k (a := 4) rfl (by decide) (by decide)
  have z86 := P86.k (a := 52) rfl (by decide) (by decide)
  rw [show sysS.2.1 0 ((108 : Int)).toNat = _ from b_X_init_108]
  simp only [R_iload1, R_aload0, R_gf, k86, z86, gfA_2, r86, R_alen, R_icmpge, Nat.reduceDiv, Nat.reduceMod, Nat.reduceLeDiff, Nat.reduceLT, true_and, and_true]
  rw [if_pos (by decide)]
  rw [show sysS.2.1 0 ((136 : Int)).toNat = _ from b_X_init_136]
  refine st_int P86 rfl rfl (by decide) (by decide) (fun h87 P87 => ?_)
  rw [r_X_init]
  rw [opt2_n]
  rw [R_astore1]
  refine st_new (n' := 62) (s' := 3008) (lt := []) P87 rfl rfl (by decide) q_M_init b_M_init_0 rfl (by decide) rfl rfl (fun h88 P88 => ?_)
  refine st_arr (n' := 63) (s' := 3208) P88 rfl rfl rfl (by decide) rfl (by decide) (by decide) rfl rfl (fun h89 P89 => ?_)
  refine st_arr (n' := 64) (s' := 3368) P89 rfl rfl rfl (by decide) rfl (by decide) (by decide) rfl rfl (fun h90 P90 => ?_)
  refine st_arr (n' := 65) (s' := 3528) P90 rfl rfl rfl (by decide) rfl (by decide) (by decide) rfl rfl (fun h91 P91 => ?_)
  refine st_arr (n' := 66) (s' := 16948) P91 rfl rfl rfl (by decide) rfl (by decide) (by decide) rfl rfl (fun h92 P92 => ?_)
  refine st_arr (n' := 67) (s' := 30368) P92 rfl rfl rfl (by decide) rfl (by decide) (by decide) rfl rfl (fun h93 P93 => ?_)
  refine st_arr (n' := 68) (s' := 30734) P93 rfl rfl rfl (by decide) rfl (by decide) (by decide) rfl rfl (fun h94 P94 => ?_)
  refine st_arr (n' := 69) (s' := 31100) P94 rfl rfl rfl (by decide) rfl (by decide) (by decide) rfl rfl (fun h95 P95 => ?_)
  refine st_arr (n' := 70) (s' := 31300) P95 rfl rfl rfl (by decide) rfl (by decide) (by decide) rfl rfl (fun h96 P96 => ?_)
  refine st_arr (n' := 71) (s' := 31304) P96 rfl rfl rfl (by decide) rfl (by decide) (by decide) rfl rfl (fun h97 P97 => ?_)
  refine st_arr (n' := 72) (s' := 31312) P97 rfl rfl rfl (by decide) rfl (by decide) (by decide) rfl rfl (fun h98 P98 => ?_)
  refine st_arr (n' := 73) (s' := 31373) P98 rfl rfl rfl (by decide) rfl (by decide) (by decide) rfl rfl (fun h99 P99 => ?_)
  refine st_arr (n' := 74) (s' := 31434) P99 rfl rfl rfl (by decide) rfl (by decide) (by decide) rfl rfl (fun h100 P100 => ?_)
  refine st_arr (n' := 75) (s' := 31495) P100 rfl rfl rfl (by decide) rfl (by decide) (by decide) rfl rfl (fun h101 P101 => ?_)
  refine st_arr (n' := 76) (s' := 31556) P101 rfl rfl rfl (by decide) rfl (by decide) (by decide) rfl rfl (fun h102 P102 => ?_)
  refine st_arr (n' := 77) (s' := 32044) P102 rfl rfl rfl (by decide) rfl (by decide) (by decide) rfl rfl (fun h103 P103 => ?_)
  refine st_arr (n' := 78) (s' := 32532) P103 rfl rfl rfl (by decide) rfl (by decide) (by decide) rfl rfl (fun h104 P104 => ?_)
  refine st_arr (n' := 79) (s' := 32538) P104 rfl rfl rfl (by decide) rfl (by decide) (by decide) rfl rfl (fun h105 P105 => ?_)
  refine st_arr (n' := 80) (s' := 32904) P105 rfl rfl rfl (by decide) rfl (by decide) (by decide) rfl rfl (fun h106 P106 => ?_)
  refine st_arr (n' := 81) (s' := 32910) P106 rfl rfl rfl (by decide) rfl (by decide) (by decide) rfl rfl (fun h107 P107 => ?_)
  refine st_arr (n' := 82) (s' := 33018) P107 rfl rfl rfl (by decide) rfl (by decide) (by decide) rfl rfl (fun h108 P108 => ?_)
  refine st_arr (n' := 83) (s' := 33054) P108 rfl rfl rfl (by decide) rfl (by decide) (by decide) rfl rfl (fun h109 P109 => ?_)
  refine st_arr (n' := 84) (s' := 33060) P109 rfl rfl rfl (by decide) rfl (by decide) (by decide) rfl rfl (fun h110 P110 => ?_)
  refine st_arr (n' := 85) (s' := 33066) P110 rfl rfl rfl (by decide) rfl (by decide) (by decide) rfl rfl (fun h111 P111 => ?_)
  refine st_arr (n' := 86) (s' := 33306) P111 rfl rfl rfl (by decide) rfl (by decide) (by decide) rfl rfl (fun h112 P112 => ?_)
  refine st_arr (n' := 87) (s' := 33546) P112 rfl rfl rfl (by decide) rfl (by decide) (by decide) rfl rfl (fun h113 P113 => ?_)
  refine st_arr (n' := 88) (s' := 33552) P113 rfl rfl rfl (by decide) rfl (by decide) (by decide) rfl rfl (fun h114 P114 => ?_)
  refine st_arr (n' := 89) (s' := 33558) P114 rfl rfl rfl (by decide) rfl (by decide) (by decide) rfl rfl (fun h115 P115 => ?_)
  refine st_arr (n' := 90) (s' := 33564) P115 rfl rfl rfl (by decide) rfl (by decide) (by decide) rfl rfl (fun h116 P116 => ?_)
  refine st_arr (n' := 91) (s' := 33568) P116 rfl rfl rfl (by decide) rfl (by decide) (by decide) rfl rfl (fun h117 P117 => ?_)
  refine st_arr (n' := 92) (s' := 33572) P117 rfl rfl rfl (by decide) rfl (by decide) (by decide) rfl rfl (fun h118 P118 => ?_)
  refine st_arr (n' := 93) (s' := 35036) P118 rfl rfl rfl (by decide) rfl (by decide) (by decide) rfl rfl (fun h119 P119 => ?_)
  refine st_int P119 rfl rfl (by decide) (by decide) (fun h120 P120 => ?_)
  rw [r_M_init]
  rw [opt2_n]
  rw [R_astore2, R_iconst, R_istore3, R_gotow]
  exact kk _ P120
