/-! the heap's instructions: making; all of them together -/
theorem nF_cls {ci : Nat} {r : vw_C} (h : clsS[ci]? = some r) : sysS.2.2 ci = r.2.2 := by
  have := clsS_lt h
  match ci, h with
  | 0, h => cases h; rfl
  | 1, h => cases h; rfl
  | 2, h => cases h; rfl
  | 3, h => cases h; rfl
  | 4, h => cases h; rfl
  | 5, h => cases h; rfl
  | 6, h => cases h; rfl
  | 7, h => cases h; rfl
  | 8, h => cases h; rfl
  | 9, h => cases h; rfl
  | 10, h => cases h; rfl
  | 11, h => cases h; rfl
theorem arr_words : Cond.arrayClass .int ∈ lw_g ∧ Cond.arrayClass .long ∈ lw_g ∧ Cond.arrayClass .byte ∈ lw_g ∧ Cond.arrayClass .boolean ∈ lw_g := ⟨in_g (List.mem_of_getElem? (i := 170) (by decide +kernel)) rfl, in_g (List.mem_of_getElem? (i := 143) (by decide +kernel)) rfl, in_g (List.mem_of_getElem? (i := 128) (by decide +kernel)) rfl, in_g (List.mem_of_getElem? (i := 1178) (by decide +kernel)) rfl⟩
theorem fval_new {G : GB} {tr : Nat → Nat} {h : AH} {K : Nat × Nat} {ci k : Nat} (hG : gOK G) (hg : G.2.1 (hpN h) = none) (hs : srtF (tyS ci k) < 7) : defaultValue (tyS ci k) = fvalV G tr (hpA h K) ci (hpN h) k := by
  unfold fvalV
  rw [rdR_new hG hg]
  simp only [rdI_hpA, rdL_hpA, if_true]
  cases hty : tyS ci k <;> rw [hty] at hs <;> simp only [srtF] at hs ⊢ <;> first | rfl | omega
section S7
variable {p : Program} {l : Launch} {e : Env} {R : Room} {s : State} {m : MethodId} {args : Array Value} {below : List Frame} {meth : Method} {c : Code} {H : Heap} {locs : List Loc} {cells slots : Nat} {Q : State → Prop}
variable {cc : ByteArray} {pc o len : Nat} {ini : Bool} {lo : List Nat} {rl : Array Slot} {rest : List Value} {tr : Nat → Nat} {i r : Instr} {G : GB} {D : va_G} {B : Nat} {H0 : Heap} {h h' : AH} {a : Nat} {x y : Int} {st st' : List AV}
theorem S_push {A : Nat → Prop} {H' : Heap} (hS : va_S A s.heap H locs) (z : H'.size = H.size + 1) (oq : ∀ q, q < H.size → H'[q]? = H[q]?) : va_S A s.heap H' locs :=
  ⟨Nat.le_trans hS.1 (by omega), fun q h1 h2 => (oq q (Nat.lt_of_lt_of_le h1 hS.1)).trans (hS.2.1 q h1 h2), hS.2.2⟩
theorem sh_new (C : Cg p s m args c cc (ownS o)) (hSP : SP tr D B H0 s) (hG : gOK G) (ht : trOK tr B) (hh : HR G tr D B H0 s h H) (hS : va_S (fun q => B ≤ q) s.heap H locs) (hg : G.2.1 (hpN h) = none) {c0 idx : Nat} (hcl : clA o idx c0 = true) (hcells : cells + 1 ≤ R.cells) (hslots : slots + sysS.2.2 c0 ≤ R.slots) (hd : decode cc pc = .ok (.new idx, 3))
    (k : ∀ H', HR G tr D B H0 s (hpA h (c0, sysS.2.2 c0)) H' → va_S (fun q => B ≤ q) s.heap H' locs → W p l e R s m args below meth c H' locs (cells + 1) (slots + sysS.2.2 c0) Q (F0 m (pc + 3) rl (.ref (tr (hpN h)) :: rest))) : W p l e R s m args below meth c H locs cells slots Q (F0 m pc rl rest) := by
  obtain ⟨q, h1, h2⟩ := clA_in hcl
  obtain ⟨u1, u2, u3, u4, u5⟩ := cls_ok _ _ h1
  have hKn := hSP.1.1 _ _ h1
  rw [nF_cls h1] at hslots k
  refine W.newcK C.1 C.2.1 C.2.2.1 (C.2.2.2 _ h2) (C.2.2.2 _ (in_g u4 rfl)) (C.2.2.2 _ (in_g u5 rfl)) (g := F0 m pc rl rest) rfl hd hcells hslots hKn.2.1 rfl (fun H1 kC hkC e1 z1 o1 => ?_)
  have htr := tr_new hh ht
  have k := k H1 (hh.new hG hg ht z1 o1 (Or.inl (clsS_lt h1)) (fun _ => ⟨q, by rw [knd_new hg]; exact h1, ?_⟩) (fun q1 _ => by have := clsS_lt h1; simp only at q1; omega)) (S_push hS z1 o1)
  · rw [htr] at k
    exact k
  · rw [knd_new hg, htr]
    exact (u_born (tyS c0) C.2.2.2 (u_good u1) hKn hkC e1 u3).to (fun j hj => fval_new hG hg (srt_ok h1 j hj))
theorem sh_newa (C : Cg p s m args c cc (ownS o)) (hG : gOK G) (ht : trOK tr B) (hh : HR G tr D B H0 s h H) (hS : va_S (fun q => B ≤ q) s.heap H locs) (hg : G.2.1 (hpN h) = none) {t : ArrayType} {sN : Nat} (hsh : shpN t = some sN) (hi : inA x 100000 = true) (hcells : cells + 1 ≤ R.cells) (hslots : slots + x.toNat ≤ R.slots) (hd : decode cc pc = .ok (.newarray t, 2))
    (k : ∀ H', HR G tr D B H0 s (hpA h (sN, x.toNat)) H' → va_S (fun q => B ≤ q) s.heap H' locs → W p l e R s m args below meth c H' locs (cells + 1) (slots + x.toNat) Q (F0 m (pc + 2) rl (.ref (tr (hpN h)) :: rest))) : W p l e R s m args below meth c H locs cells slots Q (F0 m pc rl (.int (Int32.ofInt x) :: rest)) := by
  obtain ⟨i1, i2⟩ := inA_iff.mp hi
  have hcl := cl_oi i1 i2 (by decide)
  have hneg : ¬ Int32.ofInt x < 0 := fun q => by
    have := (oi_lt (x := x) ⟨by omega, by omega⟩ inr0).mp q
    omega
  have htr := tr_new hh ht
  have hty : newarray.typeOf t = aty sN ∧ 20 ≤ sN ∧ sN < 24 ∧ Cond.arrayClass (newarray.typeOf t) ∈ lw_g ∧ componentBytes (newarray.typeOf t) ≤ 8 ∧ ∀ a' j, (rdI (hpA h (sN, x.toNat)) a' j = 0 ∧ rdL (hpA h (sN, x.toNat)) a' j = 0) → defaultValue (newarray.typeOf t) = avalV G tr (hpA h (sN, x.toNat)) sN a' j := by
    cases t <;> simp only [shpN, reduceCtorEq, Option.some.injEq] at hsh <;> subst hsh
    · exact ⟨rfl, by omega, by omega, arr_words.2.2.2, by decide, fun a' j q => by simp [avalV, q.1]; rfl⟩
    · exact ⟨rfl, by omega, by omega, arr_words.2.2.1, by decide, fun a' j q => by simp [avalV, q.1]; rfl⟩
    · exact ⟨rfl, by omega, by omega, arr_words.1, by decide, fun a' j q => by simp [avalV, q.1]; rfl⟩
    · exact ⟨rfl, by omega, by omega, arr_words.2.1, by decide, fun a' j q => by simp [avalV, q.2]; rfl⟩
  obtain ⟨t1, t2, t3, t4, t5, t6⟩ := hty
  have hbyt : x.toNat * componentBytes (newarray.typeOf t) ≤ 536870912 := by
    have h100 : x.toNat ≤ 100000 := by omega
    exact Nat.le_trans (Nat.mul_le_mul h100 t5) (by decide)
  refine va_newaK C.1 C.2.1 (C.2.2.2 _ t4) (g := F0 m pc rl (.int (Int32.ofInt x) :: rest)) rfl hd rfl hneg hcl hbyt hcells hslots rfl (fun H1 cA e1 z1 o1 hAr _ => ?_)
  have k := k H1 (hh.new hG hg ht z1 o1 (Or.inr ⟨t2, by simp only; omega⟩) (fun q1 => by simp only at q1; omega) (fun _ _ => ?_)) (S_push hS z1 o1)
  · rw [htr] at k
    exact k
  · refine ⟨_, by rw [htr]; exact e1, ?_, (by intro z; cases z), ?_, ?_, ?_, ?_, ?_⟩
    · rw [knd_new hg, ← t1]; exact hAr _ _
    · rw [knd_new hg, arrV_size]; exact Nat.le_refl _
    · rw [knd_new hg, arrV_size]
    · rw [knd_new hg]; simp only; omega
    · intro j hj
      rw [knd_new hg] at hj ⊢
      rw [arrV_read _ _ hj, t6 (hpN h) j ⟨by simp [rdI_hpA], by simp [rdL_hpA]⟩]
    · rw [knd_new hg]; intro q; simp only at q; omega
theorem sh_anew (C : Cg p s m args c cc (ownS o)) (hSP : SP tr D B H0 s) (hG : gOK G) (ht : trOK tr B) (hh : HR G tr D B H0 s h H) (hS : va_S (fun q => B ≤ q) s.heap H locs) (hg : G.2.1 (hpN h) = none) {c0 idx : Nat} (hcl0 : clA o idx c0 = true) (hov : ∀ q, clsS[c0]? = some q → Cond.arrayOver (.object q.1) ∈ lw_tbl) (hi : inA x 100000 = true) (hcells : cells + 1 ≤ R.cells) (hslots : slots + x.toNat ≤ R.slots) (hd : decode cc pc = .ok (.anewarray idx, 3))
    (k : ∀ H', HR G tr D B H0 s (hpA h (24 + c0, x.toNat)) H' → va_S (fun q => B ≤ q) s.heap H' locs → W p l e R s m args below meth c H' locs (cells + 1) (slots + x.toNat) Q (F0 m (pc + 3) rl (.ref (tr (hpN h)) :: rest))) : W p l e R s m args below meth c H locs cells slots Q (F0 m pc rl (.int (Int32.ofInt x) :: rest)) := by
  obtain ⟨q, h1, h2⟩ := clA_in hcl0
  have hlt := clsS_lt h1
  obtain ⟨i1, i2⟩ := inA_iff.mp hi
  have hcl := cl_oi i1 i2 (by decide)
  have hneg : ¬ Int32.ofInt x < 0 := fun q => by
    have := (oi_lt (x := x) ⟨by omega, by omega⟩ inr0).mp q
    omega
  have htr := tr_new hh ht
  refine W.anew C.1 C.2.1 C.2.2.1 (C.2.2.2 _ h2) (va_AO.use (hSP.2.2.2.2.2.2.2 _ (hov q h1))) (g := F0 m pc rl (.int (Int32.ofInt x) :: rest)) rfl hd rfl hneg (by rw [hcl]; omega) hcells (by rw [hcl]; exact hslots) (fun cA kA comp f1 f2 f3 f4 => ?_)
  rw [hcl]
  have z1 : (H.push { cls := cA, slots := Array.replicate x.toNat .null, vm := .none }).size = H.size + 1 := by simp
  have o1 : ∀ z, z < H.size → (H.push { cls := cA, slots := Array.replicate x.toNat .null, vm := .none })[z]? = H[z]? := fun z hz => by simp [Array.getElem?_push, Nat.ne_of_lt hz]
  have hat : aty (24 + c0) = .object q.1 := by rw [aty_ref (by omega), Nat.add_sub_cancel_left, clsS_own h1]
  have k := k _ (hh.new hG hg ht z1 o1 (Or.inr ⟨by simp only; omega, by simp only; omega⟩) (fun q1 => by simp only at q1; omega) (fun _ _ => ?_)) (S_push hS z1 o1)
  · rw [htr] at k
    exact k
  · refine ⟨{ cls := cA, slots := Array.replicate x.toNat .null, vm := .none }, by rw [htr]; simp, ?_, (by intro z; cases z), ?_, ?_, ?_, ?_, ?_⟩
    · rw [knd_new hg]
      show State.isArrayOf s _ (aty (24 + c0))
      rw [hat]
      exact ⟨(fun z w => by cases w), kA, f2, comp, f3⟩
    · rw [knd_new hg]; simp
    · rw [knd_new hg]; simp only [Array.size_replicate]
    · rw [knd_new hg]; simp only; omega
    · intro j hj
      rw [knd_new hg] at hj ⊢
      simp only at hj
      unfold avalV
      rw [if_neg (by simp only; omega), if_pos (by simp only; omega), rdR_new hG hg]
      simp [hj, tvA]
    · rw [knd_new hg]
      intro _
      exact ⟨kA, comp, f2, by show kA.kind = .array comp (aty (24 + c0)); rw [hat]; exact f3, by show s.vm.findClass (ownS (24 + c0 - 24)) = _; rw [Nat.add_sub_cancel_left, clsS_own h1]; exact f4⟩
end S7
