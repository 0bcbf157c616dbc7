/-! all of the heap's instructions -/
theorem st_words : Cond.fieldLink "java/lang/String" 9 "java/lang/String" "value" "[B" ∈ lw_g ∧ Cond.fieldLink "java/lang/String" 15 "java/lang/String" "coder" "B" ∈ lw_g := ⟨in_g (List.mem_of_getElem? (i := 1511) (by decide +kernel)) rfl, in_g (List.mem_of_getElem? (i := 1510) (by decide +kernel)) rfl⟩
theorem srt_0 {ty : FieldType} (h : srtF ty = 0) : ty = .int := by cases ty <;> simp [srtF] at h ⊢
theorem srt_1 {ty : FieldType} (h : srtF ty = 1) : ty = .long := by cases ty <;> simp [srtF] at h ⊢
theorem srt_3 {ty : FieldType} (h : srtF ty = 3) : ty = .boolean := by cases ty <;> simp [srtF] at h ⊢
theorem fit_bool {x : Int} (h : isZ x = true) : fits .boolean (.int (Int32.ofInt x)) = true := by
  rcases isZ_iff.mp h with rfl | rfl <;> decide +kernel
theorem nf_ref {ty : FieldType} (h : srtF ty = 2) (tr : Nat → Nat) (r : Option Nat) : narrow ty (tvA tr (vR r)) = tvA tr (vR r) ∧ fits ty (tvA tr (vR r)) = true := by
  cases ty <;> simp only [srtF, reduceCtorEq, Nat.reduceEqDiff] at h
  · cases r <;> exact ⟨rfl, rfl⟩
  · cases r <;> exact ⟨rfl, rfl⟩
section S8
variable {G : GB} {tr : Nat → Nat} {h : AH} {ci a k : Nat}
theorem fv_wrI {x : Int} (hs : srtF (tyS ci k) = 0 ∨ srtF (tyS ci k) = 3) (j : Nat) : fvalV G tr (wrI h a k x) ci a j = if j = k then .int (Int32.ofInt x) else fvalV G tr h ci a j := by
  by_cases e : j = k
  · subst e
    rw [if_pos rfl]
    unfold fvalV
    rcases hs with hs | hs <;> rw [hs] <;> simp [rdI_wrI]
  · rw [if_neg e]
    unfold fvalV
    rw [rdI_wrI, if_neg (fun q => e q.2)]
    rfl
theorem fv_wrL {x : Int64} (hs : srtF (tyS ci k) = 1) (j : Nat) : fvalV G tr (wrL h a k x) ci a j = if j = k then .long x else fvalV G tr h ci a j := by
  by_cases e : j = k
  · subst e
    rw [if_pos rfl]
    unfold fvalV
    rw [hs]
    simp [rdL_wrL]
  · rw [if_neg e]
    unfold fvalV
    rw [rdL_wrL, if_neg (fun q => e q.2)]
    rfl
theorem fv_wrR {x : Option Nat} (hg : G.1 a k = none) (hs : srtF (tyS ci k) = 2) (j : Nat) : fvalV G tr (wrR h a k x) ci a j = if j = k then tvA tr (vR x) else fvalV G tr h ci a j := by
  by_cases e : j = k
  · subst e
    rw [if_pos rfl]
    unfold fvalV
    rw [hs]
    simp [rdR_wrR hg]
  · rw [if_neg e]
    unfold fvalV
    rw [rdR_wrR hg, if_neg (fun q => e q.2)]
    rfl
end S8
section S9
variable {p : Program} {l : Launch} {e : Env} {R : Room} {s : State} {m : MethodId} {args : Array Value} {below : List Frame} {meth : Method} {c : Code} {H : Heap} {locs : List Loc} {Q : State → Prop}
variable {cc : ByteArray} {pc o len : Nat} {ini : Bool} {lo : List Nat} {rl : Array Slot} {tr : Nat → Nat} {i r : Instr} {G : GB} {D : va_G} {B : Nat} {H0 : Heap} {h h' : AH} {st st' : List AV} {n0 s0 : Nat}
theorem sp_heap (C : Cg p s m args c cc (ownS o)) (hSP : SP tr D B H0 s) (hG : gOK G) (ht : trOK tr B) (hh : HR G tr D B H0 s h H) (hS : va_S (fun q => B ≤ q) s.heap H locs) (hn : NS st) (hini : ini = true → meth.name = "<init>") (hc0 : n0 ≤ hpN h) (hs0 : s0 ≤ hpS h) (hp : heapOp sysS.2.2 G i st h = some (st', h')) (hroom : hpN h' - n0 ≤ R.cells ∧ hpS h' - s0 ≤ R.slots) (hc : chk1 o ini lo pc r len i = true) (hd : decode cc pc = .ok (r, len))
    (k : ∀ H' locs', HR G tr D B H0 s h' H' → va_S (fun q => B ≤ q) s.heap H' locs' → NS st' → W p l e R s m args below meth c H' locs' (hpN h' - n0) (hpS h' - s0) Q (F0 m (pc + len) rl (st'.map (tvA tr)))) : W p l e R s m args below meth c H locs (hpN h - n0) (hpS h - s0) Q (F0 m pc rl (st.map (tvA tr))) := by
  have C2 : p.tables.exec = Jvm.exec ∧ c.code = cc := ⟨C.1, C.2.1⟩
  cases i <;> simp only [heapOp, reduceCtorEq] at hp
  case getfield c0 =>
    unfold chk1 at hc
    dsimp only at hc
    split at hc <;> simp only [Bool.and_eq_true, Bool.or_eq_true, decide_eq_true_eq, Bool.false_eq_true] at hc
    obtain ⟨rfl, hc⟩ := hc
    split at hp
    · rename_i a q
      split at hp
      · rename_i hk
        cases hp
        have k := k H locs hh hS (ns_gf hh.in hn.tl)
        rcases hc with h1 | ⟨ho, h1⟩
        · exact sh_gf C hSP hh hk ⟨_, rfl, h1⟩ hd k
        · rcases h1 with ⟨rfl, rfl⟩ | ⟨rfl, rfl⟩
          · obtain ⟨rfl, e1, e2⟩ := hh.2.2.2.1 a hk
            have e3 : gfA G h 2 (12002 / 10 % 100) (12002 % 10) = vR (some 3) := by show vR (rdR G h 2 0) = _; rw [e1]
            rw [e3] at k
            exact sh_of C hh hSP.2.2.2.2.2.1 (by rw [ho]; exact st_words.1) hd k
          · obtain ⟨rfl, e1, e2⟩ := hh.2.2.2.1 a hk
            have e3 : gfA G h 2 (12010 / 10 % 100) (12010 % 10) = vI 0 := by show vI (rdI h 2 1) = _; rw [e2]
            rw [e3] at k
            exact sh_of C hh hSP.2.2.2.2.2.2.1 (by rw [ho]; exact st_words.2) hd k
      · cases hp
    · cases hp
  case putfield c0 =>
    unfold chk1 at hc
    dsimp only at hc
    split at hc <;> simp only [Bool.and_eq_true, decide_eq_true_eq, Bool.false_eq_true] at hc
    obtain ⟨rfl, hfl, hfi⟩ := hc
    obtain ⟨q0, f1, f2, f3, f4, f5⟩ := flA_in hfl
    split at hp
    · rename_i v a q
      split at hp
      · rename_i hk
        have ha := hG.1 a hk.2
        split at hp
        · rename_i x
          split at hp
          · rename_i hx
            cases hp
            have hs : srtF (tyS (c0 / 1000) (c0 / 10 % 100)) = 0 ∨ (srtF (tyS (c0 / 1000) (c0 / 10 % 100)) = 3 ∧ isZ x = true) := by rw [f4]; exact hx
            have hnf : narrow (tyS (c0 / 1000) (c0 / 10 % 100)) (.int (Int32.ofInt x)) = .int (Int32.ofInt x) ∧ fits (tyS (c0 / 1000) (c0 / 10 % 100)) (.int (Int32.ofInt x)) = true := by
              rcases hs with hs | ⟨hs, hz⟩
              · rw [srt_0 hs]; exact ⟨rfl, rfl⟩
              · rw [srt_3 hs]; exact ⟨nar_bool hz, fit_bool hz⟩
            exact sh_put C hSP ht hh hS ha hk.1 hfl hini hfi (h' := wrI h a (c0 / 10 % 100) x) (fun _ => rfl) rfl (fun b j hb => wrI_ne hb) (fun j => wrI_in hh.in hn.hd a j) (fun j => fv_wrI (hs.imp id (fun z => z.1)) j) hnf.1 hnf.2 hd (fun H' locs' a1 a2 => k H' locs' a1 a2 hn.tl.tl)
          · cases hp
        · rename_i x
          split at hp
          · rename_i hx
            cases hp
            have hs : srtF (tyS (c0 / 1000) (c0 / 10 % 100)) = 1 := by rw [f4]; exact hx
            exact sh_put C hSP ht hh hS ha hk.1 hfl hini hfi (h' := wrL h a (c0 / 10 % 100) x) (fun _ => rfl) rfl (fun b j hb => wrL_ne hb) (fun j => hh.in a j) (fun j => fv_wrL hs j) (by rw [srt_1 hs]; rfl) (by rw [srt_1 hs]; rfl) hd (fun H' locs' a1 a2 => k H' locs' a1 a2 hn.tl.tl)
          · cases hp
        · rename_i x
          split at hp
          · rename_i hx
            cases hp
            have hs : srtF (tyS (c0 / 1000) (c0 / 10 % 100)) = 2 := by rw [f4]; exact hx.1
            exact sh_put C hSP ht hh hS ha hk.1 hfl hini hfi (h' := wrR h a (c0 / 10 % 100) x) (fun _ => rfl) rfl (fun b j hb => wrR_ne hx.2 hb) (fun j => hh.in a j) (fun j => fv_wrR hx.2 hs j) (nf_ref hs tr x).1 (nf_ref hs tr x).2 hd (fun H' locs' a1 a2 => k H' locs' a1 a2 hn.tl.tl)
          · cases hp
        · cases hp
      · cases hp
    · cases hp
  case arraylength =>
    obtain ⟨rfl, rfl⟩ : r = .arraylength ∧ len = 1 := by unfold chk1 at hc; simp only [Bool.and_eq_true, decide_eq_true_eq] at hc; exact hc
    split at hp
    · rename_i a q
      split at hp
      · rename_i hk
        cases hp
        have hlen : inr ((knd G h a).2 : Nat) := by
          obtain ⟨cell, -, -, -, -, -, h6, -⟩ := hh.2.2.2.2.1 a hk.1 hk.2
          exact ⟨by omega, by omega⟩
        exact sh_alen C2 hh hk.1 hk.2 hd (k H locs hh hS (NS.ci hlen hn.tl))
      · cases hp
    · cases hp
  case iaload =>
    obtain ⟨rfl, rfl⟩ : r = .iaload ∧ len = 1 := by unfold chk1 at hc; simp only [Bool.and_eq_true, decide_eq_true_eq] at hc; exact hc
    split at hp
    · rename_i j a q
      split at hp
      · rename_i hk
        cases hp
        exact sh_iald C2 hh hk.1 hk.2 hd (k H locs hh hS (NS.ci (hh.in _ _) hn.tl.tl))
      · cases hp
    · cases hp
  case baload =>
    obtain ⟨rfl, rfl⟩ : r = .baload ∧ len = 1 := by unfold chk1 at hc; simp only [Bool.and_eq_true, decide_eq_true_eq] at hc; exact hc
    split at hp
    · rename_i j a q
      split at hp
      · rename_i hk
        cases hp
        exact sh_bald C2 hh hk.1 hk.2 hd (k H locs hh hS (NS.ci (hh.in _ _) hn.tl.tl))
      · cases hp
    · cases hp
  case laload =>
    obtain ⟨rfl, rfl⟩ : r = .laload ∧ len = 1 := by unfold chk1 at hc; simp only [Bool.and_eq_true, decide_eq_true_eq] at hc; exact hc
    split at hp
    · rename_i j a q
      split at hp
      · rename_i hk
        cases hp
        exact sh_lald C2 hh hk.1 hk.2 hd (k H locs hh hS (NS.cv (by simp) hn.tl.tl))
      · cases hp
    · cases hp
  case aaload =>
    obtain ⟨rfl, rfl⟩ : r = .aaload ∧ len = 1 := by unfold chk1 at hc; simp only [Bool.and_eq_true, decide_eq_true_eq] at hc; exact hc
    split at hp
    · rename_i j a q
      split at hp
      · rename_i hk
        cases hp
        exact sh_aald C2 hh hk.1 hk.2.1 hk.2.2 hd (k H locs hh hS (NS.cv (by simp) hn.tl.tl))
      · cases hp
    · cases hp
  case iastore =>
    obtain ⟨rfl, rfl⟩ : r = .iastore ∧ len = 1 := by unfold chk1 at hc; simp only [Bool.and_eq_true, decide_eq_true_eq] at hc; exact hc
    split at hp
    · rename_i x j a q
      split at hp
      · rename_i hk
        cases hp
        exact sh_iast C2 ht hh hS (hG.1 a hk.2.1) hk.1 hk.2.2 hn.hd hd (fun H' locs' a1 a2 => k H' locs' a1 a2 hn.tl.tl.tl)
      · cases hp
    · cases hp
  case bastore =>
    obtain ⟨rfl, rfl⟩ : r = .bastore ∧ len = 1 := by unfold chk1 at hc; simp only [Bool.and_eq_true, decide_eq_true_eq] at hc; exact hc
    split at hp
    · rename_i x j a q
      split at hp
      · rename_i hk
        split at hp
        · rename_i hb
          cases hp
          exact sh_bast C2 ht hh hS (hG.1 a hk.1) hb hk.2 hd (fun H' locs' a1 a2 => k H' locs' a1 a2 hn.tl.tl.tl)
        · split at hp
          · rename_i hb
            cases hp
            exact sh_zast C2 ht hh hS (hG.1 a hk.1) hb.1 hk.2 hb.2 hd (fun H' locs' a1 a2 => k H' locs' a1 a2 hn.tl.tl.tl)
          · cases hp
      · cases hp
    · cases hp
  case lastore =>
    obtain ⟨rfl, rfl⟩ : r = .lastore ∧ len = 1 := by unfold chk1 at hc; simp only [Bool.and_eq_true, decide_eq_true_eq] at hc; exact hc
    split at hp
    · rename_i x j a q
      split at hp
      · rename_i hk
        cases hp
        exact sh_last C2 ht hh hS (hG.1 a hk.2.1) hk.1 hk.2.2 hd (fun H' locs' a1 a2 => k H' locs' a1 a2 hn.tl.tl.tl)
      · cases hp
    · cases hp
  case aastore =>
    obtain ⟨rfl, rfl⟩ : r = .aastore ∧ len = 1 := by unfold chk1 at hc; simp only [Bool.and_eq_true, decide_eq_true_eq] at hc; exact hc
    split at hp
    · rename_i y j a q
      split at hp
      · rename_i hk
        cases hp
        have hv2 : (knd G h y).1 < 12 := by omega
        exact sh_aast C2 hSP ht hh hS (hG.1 a hk.2.2.1) hk.1 (by omega) hk.2.2.2.1 hk.2.2.2.2.1 hk.2.2.2.2.2 hv2 hd (fun H' locs' a1 a2 => k H' locs' a1 a2 hn.tl.tl.tl)
      · cases hp
    · cases hp
  case new c0 =>
    unfold chk1 at hc
    dsimp only at hc
    split at hc <;> simp only [Bool.and_eq_true, decide_eq_true_eq, Bool.false_eq_true] at hc
    obtain ⟨rfl, hcl⟩ := hc
    split at hp
    · rename_i hk
      cases hp
      have e1 : hpN (hpA h (c0, sysS.2.2 c0)) - n0 = hpN h - n0 + 1 := by rw [hpN_hpA]; omega
      have e2 : hpS (hpA h (c0, sysS.2.2 c0)) - s0 = hpS h - s0 + sysS.2.2 c0 := by rw [hpS_hpA]; simp only; omega
      rw [e1, e2] at hroom
      refine sh_new C hSP hG ht hh hS hk.1 hcl hroom.1 hroom.2 hd (fun H' a1 a2 => ?_)
      have k := k H' locs a1 a2 (NS.cv (by simp) hn)
      rw [e1, e2] at k
      exact k
    · cases hp
  case newarray t =>
    obtain ⟨rfl, rfl⟩ : r = .newarray t ∧ len = 2 := by unfold chk1 at hc; simp only [Bool.and_eq_true, decide_eq_true_eq] at hc; exact hc
    split at hp
    · rename_i x q
      split at hp
      · rename_i sN hsh
        split at hp
        · rename_i hk
          cases hp
          have e1 : hpN (hpA h (sN, x.toNat)) - n0 = hpN h - n0 + 1 := by rw [hpN_hpA]; omega
          have e2 : hpS (hpA h (sN, x.toNat)) - s0 = hpS h - s0 + x.toNat := by rw [hpS_hpA]; simp only; omega
          rw [e1, e2] at hroom
          refine sh_newa C hG ht hh hS hk.1 hsh hk.2 hroom.1 hroom.2 hd (fun H' a1 a2 => ?_)
          have k := k H' locs a1 a2 (NS.cv (by simp) hn.tl)
          rw [e1, e2] at k
          exact k
        · cases hp
      · cases hp
    · cases hp
  case anewarray c0 =>
    unfold chk1 at hc
    dsimp only at hc
    split at hc <;> simp only [Bool.and_eq_true, decide_eq_true_eq, Bool.false_eq_true] at hc
    obtain ⟨rfl, hcl, hov⟩ := hc
    split at hp
    · rename_i x q
      split at hp
      · rename_i hk
        cases hp
        have e1 : hpN (hpA h (24 + c0, x.toNat)) - n0 = hpN h - n0 + 1 := by rw [hpN_hpA]; omega
        have e2 : hpS (hpA h (24 + c0, x.toNat)) - s0 = hpS h - s0 + x.toNat := by rw [hpS_hpA]; simp only; omega
        rw [e1, e2] at hroom
        refine sh_anew C hSP hG ht hh hS hk.1 hcl (fun z hz => by rw [hz] at hov; exact of_decide_eq_true hov) hk.2.1 hroom.1 hroom.2 hd (fun H' a1 a2 => ?_)
        have k := k H' locs a1 a2 (NS.cv (by simp) hn.tl)
        rw [e1, e2] at k
        exact k
      · cases hp
    · cases hp
end S9
