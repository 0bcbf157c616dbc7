/-! the heap's instructions: reading -/
theorem clsS_lt {ci : Nat} {r : vw_C} (h : clsS[ci]? = some r) : ci < 12 := (List.getElem?_eq_some_iff.mp h).1
theorem clsS_own {ci : Nat} {r : vw_C} (h : clsS[ci]? = some r) : ownS ci = r.1 := by
  have := clsS_lt h
  match ci, h with
  | 0, h => cases h; rfl
  | 1, h => cases h; rfl
  | 2, h => cases h; rfl
  | 3, h => cases h; rfl
  | 4, h => cases h; rfl
  | 5, h => cases h; rfl
  | 6, h => cases h; rfl
  | 7, h => cases h; rfl
  | 8, h => cases h; rfl
  | 9, h => cases h; rfl
  | 10, h => cases h; rfl
  | 11, h => cases h; rfl
theorem srt_ok {ci : Nat} {r : vw_C} (h : clsS[ci]? = some r) : ∀ k, k < r.2.2 → srtF (tyS ci k) < 7 := by
  have := clsS_lt h
  match ci, h with
  | 0, h => cases h; decide +kernel
  | 1, h => cases h; decide +kernel
  | 2, h => cases h; decide +kernel
  | 3, h => cases h; decide +kernel
  | 4, h => cases h; decide +kernel
  | 5, h => cases h; decide +kernel
  | 6, h => cases h; decide +kernel
  | 7, h => cases h; decide +kernel
  | 8, h => cases h; decide +kernel
  | 9, h => cases h; decide +kernel
  | 10, h => cases h; decide +kernel
  | 11, h => cases h; decide +kernel
theorem u_good {C : String} {T : u_T} {N : Nat} (h : ∀ w ∈ u_ws C T N, w ∈ lw_tbl) : ∀ w ∈ u_ws C T N, w ∈ lw_g := by
  intro w hw
  refine in_g (h w hw) ?_
  obtain ⟨k, -, rfl⟩ := List.mem_map.mp hw
  unfold u_lay
  split <;> rfl
theorem tv_gf {G : GB} {tr : Nat → Nat} {h : AH} {ci a k t : Nat} (ht : srtF (tyS ci k) = t) : tvA tr (gfA G h a k t) = fvalV G tr h ci a k := by
  subst ht
  unfold gfA
  by_cases e1 : srtF (tyS ci k) = 1
  · rw [if_pos e1]; unfold fvalV; rw [e1]; rfl
  · by_cases e2 : srtF (tyS ci k) = 2
    · rw [if_neg e1, if_pos e2]; unfold fvalV; rw [e2]; rfl
    · rw [if_neg e1, if_neg e2]
      unfold fvalV
      generalize srtF (tyS ci k) = t at e1 e2 ⊢
      match t, e1, e2 with
      | 0, _, _ => rfl
      | 1, e1, _ => exact absurd rfl e1
      | 2, _, e2 => exact absurd rfl e2
      | n + 3, _, _ => rfl
theorem ns_gf {G : GB} {h : AH} (hi : ∀ a k, inr (rdI h a k)) {a k t : Nat} {st : List AV} (hn : NS st) : NS (gfA G h a k t :: st) := by
  unfold gfA
  split
  · exact NS.cv (by simp) hn
  · split
    · exact NS.cv (by simp) hn
    · exact NS.ci (hi a k) hn
theorem cl_oi {x : Int} {n : Nat} (h0 : 0 ≤ x) (h1 : x < n) (hn : n < 2147483648) : (Int32.ofInt x).toNatClampNeg = x.toNat := by
  rw [Int32.toNatClampNeg, to_oi ⟨by omega, by omega⟩]
theorem in_oi {x : Int} {n N : Nat} (h0 : 0 ≤ x) (h1 : x < n) (hn : n < 2147483648) (hN : n ≤ N) : ¬ (Int32.ofInt x < 0 ∨ N ≤ (Int32.ofInt x).toNatClampNeg) := by
  rw [cl_oi h0 h1 hn]
  intro q
  rcases q with q | q
  · have := (oi_lt (x := x) ⟨by omega, by omega⟩ inr0).mp q
    omega
  · omega
theorem inA_iff {x : Int} {n : Nat} : inA x n = true ↔ 0 ≤ x ∧ x < n := by simp [inA]
theorem oi_nat (n : Nat) : Int32.ofInt (n : Int) = Int32.ofNat n := by
  apply Int32.toBitVec_inj.mp
  simp [Int32.ofInt, Int32.ofNat]
/-- what stays given: the classes, the text of signs, the two statics, the String's own fields -/
def SP (tr : Nat → Nat) (D : va_G) (B : Nat) (H0 : Heap) (U : State) : Prop :=
  va_K D clsS [] U ∧ vk_R "RuleBroadcast$Tokens" 72 "()[]+-*/%,:<>=#" (tr 2) U ∧ va_Z "RuleBroadcast$Tokens" "KEY_WORDS" "[I" (.ref (tr 1)) (fun q => B ≤ q) U H0 ∧ va_Z "java/lang/String" "COMPACT_STRINGS" "Z" (.int 1) (fun q => B ≤ q) U H0 ∧ va_O "java/lang/String" (tr 2) (fun q => B ≤ q) U H0 ∧ va_OF "java/lang/String" "value" "[B" (.ref (tr 3)) (tr 2) (fun q => B ≤ q) U H0 ∧ va_OF "java/lang/String" "coder" "B" (.int 0) (tr 2) (fun q => B ≤ q) U H0 ∧ ∀ C : String, Cond.arrayOver (.object C) ∈ lw_tbl → va_AO C U
section S5
variable {p : Program} {l : Launch} {e : Env} {R : Room} {s : State} {m : MethodId} {args : Array Value} {below : List Frame} {meth : Method} {c : Code} {H : Heap} {locs : List Loc} {cells slots : Nat} {Q : State → Prop}
variable {cc : ByteArray} {pc o len : Nat} {ini : Bool} {lo : List Nat} {rl : Array Slot} {rest : List Value} {tr : Nat → Nat} {i r : Instr} {G : GB} {D : va_G} {B : Nat} {H0 : Heap} {h : AH} {a : Nat} {x : Int}
theorem sh_gf (C : Cg p s m args c cc (ownS o)) (hSP : SP tr D B H0 s) (hh : HR G tr D B H0 s h H) {c0 : Nat} (hk : (knd G h a).1 = c0 / 1000) (hf : ∃ idx, r = .getfield idx ∧ flA o idx c0 = true) (hd : decode cc pc = .ok (r, 3))
    (k : W p l e R s m args below meth c H locs cells slots Q (F0 m (pc + 3) rl (tvA tr (gfA G h a (c0 / 10 % 100) (c0 % 10)) :: rest))) : W p l e R s m args below meth c H locs cells slots Q (F0 m pc rl (.ref (tr a) :: rest)) := by
  obtain ⟨idx, rfl, hfl⟩ := hf
  obtain ⟨q, h1, h2, h3, h4, h5⟩ := flA_in hfl
  have hlt := clsS_lt h1
  obtain ⟨q', g1, g2⟩ := hh.2.2.1 a (by rw [hk]; exact hlt)
  rw [hk] at g1 g2
  rw [h1] at g1
  cases g1
  obtain ⟨u1, u2, u3, -, -⟩ := cls_ok _ _ h1
  have hP : va_P D clsS [(tr a, .inr (c0 / 1000, (List.range q.2.2).map (fun k => fvalV G tr h (c0 / 1000) a k)))] H := by
    intro k0 z hz
    have : k0 = 0 := by have := (List.getElem?_eq_some_iff.mp hz).1; simp at this; omega
    subst this
    cases hz
    refine ⟨q, h1, g2.to (fun k hk => ?_)⟩
    simp [vp_V, hk]
  rw [tv_gf h4] at k
  refine va_get (C := q.1) (T := q.2.1) (N := q.2.2) (ref := q.1) C.1 C.2.1 (Ts := lw_g) C.2.2.2 (u_good u1) C.2.2.1 hSP.1 hP 0 rfl h1 (c0 / 10 % 100) h2 (C.2.2.2 _ h5) (fun z hz => by rw [h3] at hz; exact hz) (v := fvalV G tr h (c0 / 1000) a (c0 / 10 % 100)) ?_ hd k
  simp [h2]
theorem HR.old (hh : HR G tr D B H0 s h H) : ∀ q : Nat, q < H0.size → ¬ B ≤ q → H[q]? = H0[q]? := fun q _ h2 => hh.2.2.2.2.2.1 q (by omega)
theorem sh_of (C : Cg p s m args c cc (ownS o)) (hh : HR G tr D B H0 s h H) {n d : String} {v : Value} (hO : va_OF "java/lang/String" n d v (tr 2) (fun q => B ≤ q) s H0) {idx : Nat} (hl : Cond.fieldLink (ownS o) idx "java/lang/String" n d ∈ lw_g) (hd : decode cc pc = .ok (.getfield idx, 3))
    (k : W p l e R s m args below meth c H locs cells slots Q (F0 m (pc + 3) rl (v :: rest))) : W p l e R s m args below meth c H locs cells slots Q (F0 m pc rl (.ref (tr 2) :: rest)) := by
  obtain ⟨cf, kf, fi, f, cell, h1, h2, h3, h4, h5, -⟩ := hO.kept hh.old
  exact W.getf C.1 C.2.1 C.2.2.1 (C.2.2.2 _ hl) h1 h2 h3 h4 h5 (g := F0 m pc rl (.ref (tr 2) :: rest)) rfl rfl hd k
theorem sh_alen (C : p.tables.exec = Jvm.exec ∧ c.code = cc) (hh : HR G tr D B H0 s h H) (hk : 20 ≤ (knd G h a).1) (hk2 : (knd G h a).1 < 50) (hd : decode cc pc = .ok (.arraylength, 1))
    (k : W p l e R s m args below meth c H locs cells slots Q (F0 m (pc + 1) rl (.int (Int32.ofInt ((knd G h a).2 : Nat)) :: rest))) : W p l e R s m args below meth c H locs cells slots Q (F0 m pc rl (.ref (tr a) :: rest)) := by
  obtain ⟨cell, h1, h2, h3, h4, h5, h6, h7, h8⟩ := hh.2.2.2.2.1 a hk hk2
  exact W.alen C.1 C.2 h1 h2 (by rw [h5, oi_nat]) (g := F0 m pc rl (.ref (tr a) :: rest)) rfl rfl hd k
theorem sh_iald (C : p.tables.exec = Jvm.exec ∧ c.code = cc) (hh : HR G tr D B H0 s h H) (hk : (knd G h a).1 = 20) (hi : inA x (knd G h a).2 = true) (hd : decode cc pc = .ok (.iaload, 1))
    (k : W p l e R s m args below meth c H locs cells slots Q (F0 m (pc + 1) rl (.int (Int32.ofInt (rdI h a x.toNat)) :: rest))) : W p l e R s m args below meth c H locs cells slots Q (F0 m pc rl (.int (Int32.ofInt x) :: .ref (tr a) :: rest)) := by
  obtain ⟨cell, h1, h2, h3, h4, h5, h6, h7, h8⟩ := hh.2.2.2.2.1 a (by omega) (by omega)
  obtain ⟨i1, i2⟩ := inA_iff.mp hi
  refine W.iald C.1 C.2 h1 (by rw [hk] at h2; exact h2) h3 (in_oi i1 i2 h6 h4) (v := .int (Int32.ofInt (rdI h a x.toNat))) ?_ (g := F0 m pc rl (.int (Int32.ofInt x) :: .ref (tr a) :: rest)) rfl rfl hd k
  rw [cl_oi i1 i2 h6, h7 x.toNat (by omega), hk]
  rfl
theorem sh_bald (C : p.tables.exec = Jvm.exec ∧ c.code = cc) (hh : HR G tr D B H0 s h H) (hk : (knd G h a).1 = 22 ∨ (knd G h a).1 = 23) (hi : inA x (knd G h a).2 = true) (hd : decode cc pc = .ok (.baload, 1))
    (k : W p l e R s m args below meth c H locs cells slots Q (F0 m (pc + 1) rl (.int (Int32.ofInt (rdI h a x.toNat)) :: rest))) : W p l e R s m args below meth c H locs cells slots Q (F0 m pc rl (.int (Int32.ofInt x) :: .ref (tr a) :: rest)) := by
  obtain ⟨cell, h1, h2, h3, h4, h5, h6, h7, h8⟩ := hh.2.2.2.2.1 a (by omega) (by omega)
  obtain ⟨i1, i2⟩ := inA_iff.mp hi
  rcases hk with hk | hk
  · refine W.bald C.1 C.2 h1 (by rw [hk] at h2; exact h2) h3 (in_oi i1 i2 h6 h4) (v := .int (Int32.ofInt (rdI h a x.toNat))) ?_ (g := F0 m pc rl (.int (Int32.ofInt x) :: .ref (tr a) :: rest)) rfl rfl hd k
    rw [cl_oi i1 i2 h6, h7 x.toNat (by omega), hk]
    rfl
  · refine W.zald C.1 C.2 h1 (by rw [hk] at h2; exact h2) h3 (in_oi i1 i2 h6 h4) (v := .int (Int32.ofInt (rdI h a x.toNat))) ?_ (g := F0 m pc rl (.int (Int32.ofInt x) :: .ref (tr a) :: rest)) rfl rfl hd k
    rw [cl_oi i1 i2 h6, h7 x.toNat (by omega), hk]
    rfl
theorem sh_lald (C : p.tables.exec = Jvm.exec ∧ c.code = cc) (hh : HR G tr D B H0 s h H) (hk : (knd G h a).1 = 21) (hi : inA x (knd G h a).2 = true) (hd : decode cc pc = .ok (.laload, 1))
    (k : W p l e R s m args below meth c H locs cells slots Q (F0 m (pc + 1) rl (.long (rdL h a x.toNat) :: rest))) : W p l e R s m args below meth c H locs cells slots Q (F0 m pc rl (.int (Int32.ofInt x) :: .ref (tr a) :: rest)) := by
  obtain ⟨cell, h1, h2, h3, h4, h5, h6, h7, h8⟩ := hh.2.2.2.2.1 a (by omega) (by omega)
  obtain ⟨i1, i2⟩ := inA_iff.mp hi
  refine W.lald C.1 C.2 h1 (by rw [hk] at h2; exact h2) h3 (in_oi i1 i2 h6 h4) (v := .long (rdL h a x.toNat)) ?_ (g := F0 m pc rl (.int (Int32.ofInt x) :: .ref (tr a) :: rest)) rfl rfl hd k
  rw [cl_oi i1 i2 h6, h7 x.toNat (by omega), hk]
  rfl
theorem aty_ref {K : Nat} (h : 24 ≤ K) : aty K = .object (ownS (K - 24)) := by
  unfold aty
  rw [if_neg (by omega), if_neg (by omega), if_neg (by omega), if_neg (by omega)]
theorem sh_aald (C : p.tables.exec = Jvm.exec ∧ c.code = cc) (hh : HR G tr D B H0 s h H) (hk : 24 ≤ (knd G h a).1) (hk2 : (knd G h a).1 < 50) (hi : inA x (knd G h a).2 = true) (hd : decode cc pc = .ok (.aaload, 1))
    (k : W p l e R s m args below meth c H locs cells slots Q (F0 m (pc + 1) rl (tvA tr (vR (rdR G h a x.toNat)) :: rest))) : W p l e R s m args below meth c H locs cells slots Q (F0 m pc rl (.int (Int32.ofInt x) :: .ref (tr a) :: rest)) := by
  obtain ⟨cell, h1, h2, h3, h4, h5, h6, h7, h8⟩ := hh.2.2.2.2.1 a (by omega) (by omega)
  obtain ⟨i1, i2⟩ := inA_iff.mp hi
  refine W.aald C.1 C.2 h1 h2 (by rw [aty_ref hk]; rfl) h3 (in_oi i1 i2 h6 h4) (v := tvA tr (vR (rdR G h a x.toNat))) ?_ (g := F0 m pc rl (.int (Int32.ofInt x) :: .ref (tr a) :: rest)) rfl rfl hd k
  rw [cl_oi i1 i2 h6, h7 x.toNat (by omega)]
  unfold avalV
  rw [if_neg (by omega), if_pos hk]
end S5
