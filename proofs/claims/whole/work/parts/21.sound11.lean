theorem tys9 : ∀ mi, mi < nM → ∀ t ∈ (mtb mi).1, t < 9 := by decide +kernel
theorem nar_by {x : Int} (h : inA (x + 128) 256 = true) : narrow .byte (.int (Int32.ofInt x)) = .int (Int32.ofInt x) := by
  obtain ⟨h1, h2⟩ := inA_iff.mp h
  rw [nar_byte]
  congr 1
  rw [← Int32.toInt_inj, Int8.toInt_toInt32, Int32.toInt_toInt8, to_oi ⟨by omega, by omega⟩]
  rw [Int.bmod_eq_of_le (by omega) (by omega)]
theorem rt_at {mi : Nat} (hm : mi < nM) : ((mtb mi).2.1 = 0 → rty mi = some .int) ∧ ((mtb mi).2.1 = 1 → rty mi = some .long) ∧ ((mtb mi).2.1 = 2 → ∃ q, rty mi = some (.object q)) ∧ ((mtb mi).2.1 = 3 → rty mi = none) ∧ ((mtb mi).2.1 = 4 → rty mi = some .boolean) ∧ ((mtb mi).2.1 = 5 → rty mi = some .byte) := by
  have h := rt_ok mi hm
  unfold rtOK at h
  generalize (mtb mi).2.1 = t at h ⊢
  generalize rty mi = q at h ⊢
  split at h
  · exact ⟨fun _ => rfl, by omega, by omega, by omega, by omega, by omega⟩
  · exact ⟨by omega, fun _ => rfl, by omega, by omega, by omega, by omega⟩
  · exact ⟨by omega, by omega, fun _ => ⟨_, rfl⟩, by omega, by omega, by omega⟩
  · exact ⟨by omega, by omega, by omega, fun _ => rfl, by omega, by omega⟩
  · exact ⟨by omega, by omega, by omega, by omega, fun _ => rfl, by omega⟩
  · exact ⟨by omega, by omega, by omega, by omega, by omega, fun _ => rfl⟩
  · cases h
section S12
variable {p : Program} {l : Launch} {e : Env} {R : Room} {s : State} {m : MethodId} {args : Array Value} {below : List Frame} {meth : Method} {c : Code} {H : Heap} {locs : List Loc} {pc mi : Nat} {rl : Array Slot} {tr : Nat → Nat} {i : Instr} {r : Option AV} {cells slots : Nat}
theorem sp_ret (hm : mi < nM) (C : p.tables.exec = Jvm.exec ∧ c.code = byt mi) (hr : meth.sig.returnType = rty mi) (hlocks : meth.locks = false) (hd : decode (byt mi) pc = .ok (i, 1)) (hra : retA (mtb mi).2.1 i (opt2 r []) = some r) {Qc : Array Value → State → Outcome → State → Prop} {free : Addr → Prop}
    (hq : ∀ t : State, t.heap = H → s.WarmedH t.vm → Qc args s (.returned (r.map (tvA tr))) t) (hf : ∀ q ∈ locs, free q.base) : W p l e R s m args below meth c H locs cells slots (MQ below Qc args s cells slots free) (F0 m pc rl ((opt2 r []).map (tvA tr))) := by
  obtain ⟨t0, t1, t2, t3, t4, t5⟩ := rt_at hm
  cases i <;> simp only [retA, reduceCtorEq] at hra
  case ireturn =>
    rcases r with _ | (x | x | x | x) <;> simp only [opt2, reduceCtorEq] at hra
    split at hra
    · rename_i hc
      rcases hc with h0 | ⟨h4, hz⟩ | ⟨h5, hb⟩
      · exact W.iret C.1 C.2 (by rw [hr, t0 h0]) hq hf hd hlocks
      · exact W.zret C.1 C.2 (by rw [hr, t4 h4]) (nar_bool hz) hq hf hd hlocks
      · exact W.zret C.1 C.2 (by rw [hr, t5 h5]) (nar_by hb) hq hf hd hlocks
    · cases hra
  case lreturn =>
    rcases r with _ | (x | x | x | x) <;> simp only [opt2, reduceCtorEq] at hra
    split at hra
    · rename_i hc
      exact W.lret C.1 C.2 (by rw [hr, t1 hc]) hq hf hd hlocks
    · cases hra
  case areturn =>
    rcases r with _ | (x | x | x | x) <;> simp only [opt2, reduceCtorEq] at hra
    split at hra
    · rename_i hc
      obtain ⟨q, hq0⟩ := t2 hc
      refine W.aret C.1 C.2 (by rw [hr, hq0]) (Or.inl ⟨q, rfl⟩) ?_ hq hf hd hlocks
      cases x
      · exact Or.inl rfl
      · exact Or.inr ⟨_, rfl⟩
    · cases hra
  case return_ =>
    rcases r with _ | (x | x | x | x) <;> simp only [opt2, reduceCtorEq] at hra
    split at hra
    · rename_i hc
      exact W.vret C.1 C.2 (by rw [hr, t3 hc]) hq hf hd hlocks
    · cases hra
end S12
theorem chkB_cons {o : Nat} {ini : Bool} {lo : List Nat} {nL : Nat} {cc : ByteArray} {pc : Nat} {i : Instr} {is : List Instr} (h : ∀ t, i ≠ .goto_w t) : chkB o ini lo nL cc pc (i :: is) = (match decode cc pc with
    | .ok (r, len) => okN nL i && (chk1 o ini lo pc r len i && chkB o ini lo nL cc (pc + len) is)
    | _ => false) := by
  cases i <;> first | rfl | exact absurd rfl (h _)
theorem loc_len {i : Instr} {ls ls' st st' : List AV} (h : locOp i ls st = some (ls', st')) : ls'.length = ls.length := by
  cases i <;> simp only [locOp, reduceCtorEq] at h
  all_goals (repeat' split at h) <;> first
    | (cases h; first | rfl | simp)
    | cases h
theorem ret_len {o : Nat} {ini : Bool} {lo : List Nat} {pc len : Nat} {r i : Instr} {t : Nat} {st : List AV} {q : Option AV} (hc : chk1 o ini lo pc r len i = true) (h : retA t i st = some q) : r = i ∧ len = 1 := by
  cases i <;> simp only [retA, reduceCtorEq] at h
  all_goals (unfold chk1 at hc; simp only [Bool.and_eq_true, decide_eq_true_eq] at hc; exact hc)
theorem const_in {o : Nat} {ini : Bool} {lo : List Nat} {pc len : Nat} {r i : Instr} (hc : chk1 o ini lo pc r len i = true) : ∀ n, i = .iconst n → inr n := by
  intro n hn
  subst hn
  unfold chk1 at hc
  simp only [Bool.and_eq_true, decide_eq_true_eq] at hc
  exact ⟨hc.1, hc.2.1⟩
set_option maxHeartbeats 1000000 in
theorem sound (l : Launch) {G : GB} {tr : Nat → Nat} {D : va_G} {B : Nat} {H0 : Heap} (hG : gOK G) (ht : trOK tr B) :
    ∀ (n L mi : Nat) (is : List Instr) (ls st : List AV) (h : AH) (r : Option AV) (hF : AH), exec sysS G n L mi is ls st h = some (r, hF) → mi < nM →
    ∀ (p : Program) (e : Env) (R : Room) (s : State) (m : MethodId) (args : Array Value) (below : List Frame) (meth : Method) (c : Code) (H : Heap) (locs : List Loc) (rl : Array Slot) (pc n0 s0 : Nat) (Q : State → Prop),
      Cg p s m args c (byt mi) (ownS (omi mi)) → c.maxLocals = (mtb mi).2.2.1 → (inB mi = true → meth.name = "<init>") → SP tr D B H0 s → (∀ q, q < B → s.heap[q]? = H0[q]?) → HR G tr D B H0 s h H → va_S (fun q => B ≤ q) s.heap H locs → LR tr (los mi) (mtb mi).2.2.1 rl ls → NS st → chkB (omi mi) (inB mi) (los mi) (mtb mi).2.2.1 (byt mi) pc is = true →
      (L + 2 ≤ R.frames ∧ 48 * L + 48 ≤ R.locals) → n0 ≤ hpN h → s0 ≤ hpS h → (hpN hF - n0 ≤ R.cells ∧ hpS hF - s0 ≤ R.slots) →
      (∀ H' locs' rl' pc' i', decode (byt mi) pc' = .ok (i', 1) → retA (mtb mi).2.1 i' (opt2 r []) = some r → NS (opt2 r []) → HR G tr D B H0 s hF H' → va_S (fun q => B ≤ q) s.heap H' locs' → W p l e R s m args below meth c H' locs' (hpN hF - n0) (hpS hF - s0) Q (F0 m pc' rl' ((opt2 r []).map (tvA tr)))) →
      W p l e R s m args below meth c H locs (hpN h - n0) (hpS h - s0) Q (F0 m pc rl (st.map (tvA tr))) := by
  intro n
  induction n with
  | zero => intro L mi is ls st h r hF hx; simp [exec] at hx
  | succ n ih =>
    have met : ∀ (L k : Nat) (as : List AV) (h : AH) (r1 : Option AV) (h1 : AH), exec sysS G n L k (sysS.2.1 k 0) (lay0 (sysS.1 k).2.2.1 as) [] h = some (r1, h1) → k < nM → k ≠ m_law_law → as.map tyA = (mtb k).1.reverse → NS as → MetM l G tr D B H0 L k as h r1 h1 := by
      intro L k as h r1 h1 hx hk hlaw hty hns
      have hM := mth_ok k hk hlaw
      have h9 : ∀ v ∈ as, tyA v < 9 := by
        intro v hv
        have : tyA v ∈ (mtb k).1.reverse := by rw [← hty]; exact List.mem_map_of_mem hv
        exact tys9 k hk _ (List.mem_reverse.mp this)
      refine Met.ofWF (cc := byt k) (maxL := (mtb k).2.2.1) (ret := rty k) hM.1 rfl ?_
      intro p e s m args below meth c s₁ Bd hml hv
      obtain ⟨rfl, hH, hSP⟩ := hv
      have hts := atoms_spec (ws := wsM k) Bd.pre
      have hown : s.vm.findClass (ownS (omi k)) = some m.cls := by
        rw [hM.2.2.2.2.1]
        exact findClass_of_methodNamed Bd.named
      have C : Cg p s m (as.map (tvA tr)).toArray c (byt k) (ownS (omi k)) := ⟨Bd.exec, Bd.bytes, hown, fun w hw => hts w (List.mem_cons_of_mem _ hw)⟩
      have hini : inB k = true → meth.name = "<init>" := by
        intro q
        have hk2 : (mtb k).2.2.2.1 = 2 := of_decide_eq_true q
        have hM2 := hM.2.2.2.2.2
        rw [hk2] at hM2
        rw [(name_of_methodNamed Bd.named Bd.method).1]
        exact hM2.2.1
      obtain ⟨hlen, hLR⟩ := LR_entry (tr := tr) hk hty h9 hns
      rw [lg_entry_eq]
      have hg := exec_grow _ _ _ _ _ _ _ _ _ hx
      have K := ih L k _ _ [] h r1 h1 hx hk p e (headSpec (wsM k) (rmM L (hpN h1 - hpN h) (hpS h1 - hpS h))).room s m (as.map (tvA tr)).toArray below meth c s.heap [] _ 0 (hpN h) (hpS h) (MQ below (QcM G tr D B H0 r1 h1) (as.map (tvA tr)).toArray s (hpN h1 - hpN h) (hpS h1 - hpS h) (fun q => B ≤ q)) C hml hini hSP hH.2.2.2.2.2.1 hH va_S.rf hLR (fun x hx => by cases hx) (blk_ok hk 0) ⟨Nat.le_refl _, Nat.le_refl _⟩ (Nat.le_refl _) (Nat.le_refl _) ⟨Nat.le_refl _, Nat.le_refl _⟩ (fun H' locs' rl' pc' i' hd hra hNS hH' hS' => sp_ret hk ⟨Bd.exec, Bd.bytes⟩ Bd.returns Bd.notSynchronized hd hra (fun t htH hW => ⟨rfl, by rw [htH]; exact hH'.moved hW.alike, hS'.F htH, hNS⟩) hS'.2.2)
      rw [Nat.sub_self, Nat.sub_self] at K
      exact K
    intro L mi is ls st h r hF hx hmi p e R s m args below meth c H locs rl pc n0 s0 Q C hml hini hSP hsB hh hS hL hn hc hR hn0 hs0 hroom hret
    have C2 : p.tables.exec = Jvm.exec ∧ c.code = byt mi := ⟨C.1, C.2.1⟩
    have hrl : rl.size = c.maxLocals := by rw [hml]; exact hL.2.1.1
    cases is with
    | nil => simp [exec] at hx
    | cons i is =>
      have hg0 := exec_grow _ _ _ _ _ _ _ _ _ hx
      rw [exec_cons] at hx
      by_cases hgw : ∃ t, i = .goto_w t
      · obtain ⟨t, rfl⟩ := hgw
        have hpc : (pc : Int) = t := of_decide_eq_true hc
        have hx' : exec sysS G n L mi (sysS.2.1 mi t.toNat) ls st h = some (r, hF) := hx
        have et : t.toNat = pc := by omega
        rw [et] at hx'
        exact ih L mi _ ls st h r hF hx' hmi p e R s m args below meth c H locs rl pc n0 s0 Q C hml hini hSP hsB hh hS hL hn (blk_ok hmi pc) hR hn0 hs0 hroom hret
      · have hgw' : ∀ t, i ≠ .goto_w t := fun t ht => hgw ⟨t, ht⟩
        rw [chkB_cons hgw'] at hc
        cases hdc : decode (byt mi) pc with
        | error er => rw [hdc] at hc; cases hc
        | ok q =>
          obtain ⟨ri, len⟩ := q
          rw [hdc] at hc
          simp only [Bool.and_eq_true] at hc
          obtain ⟨hN, hc1, hc2⟩ := hc
          cases h1 : pureOp i st with
          | some st' =>
            rw [h1] at hx
            dsimp only at hx
            have K := ih L mi is ls st' h r hF hx hmi p e R s m args below meth c H locs rl (pc + len) n0 s0 Q C hml hini hSP hsB hh hS hL (ns_pure hn h1 (const_in hc1)) hc2 hR hn0 hs0 hroom hret
            by_cases e1 : ∃ n, i = .ldc n
            · obtain ⟨n1, rfl⟩ := e1
              cases h1
              exact sp_ldc C hSP hc1 hdc K
            · by_cases e2 : ∃ n, i = .getstatic n
              · obtain ⟨n1, rfl⟩ := e2
                exact sp_gets C hSP hS hsB h1 hc1 hdc K
              · exact sp_pure C hrl ⟨by omega, by omega⟩ hn h1 hc1 hdc ⟨fun n1 z => e1 ⟨n1, z⟩, fun n1 z => e2 ⟨n1, z⟩⟩ K
          | none =>
            rw [h1] at hx
            dsimp only at hx
            cases h2 : locOp i ls st with
            | some q =>
              obtain ⟨ls', st'⟩ := q
              rw [h2] at hx
              dsimp only at hx
              exact sp_loc C2 hL hn h2 ((loc_len h2).trans hL.1) hc1 hdc (fun rl' hL' hn' => ih L mi is ls' st' h r hF hx hmi p e R s m args below meth c H locs rl' (pc + len) n0 s0 Q C hml hini hSP hsB hh hS hL' hn' hc2 hR hn0 hs0 hroom hret) hN
            | none =>
              rw [h2] at hx
              dsimp only at hx
              cases h3 : heapOp sysS.2.2 G i st h with
              | some q =>
                obtain ⟨st', h'⟩ := q
                rw [h3] at hx
                dsimp only at hx
                have g1 := heapOp_grow h3
                have g2 := exec_grow _ _ _ _ _ _ _ _ _ hx
                exact sp_heap C hSP hG ht hh hS hn hini hn0 hs0 h3 ⟨by omega, by omega⟩ hc1 hdc (fun H' locs' a1 a2 a3 => ih L mi is ls st' h' r hF hx hmi p e R s m args below meth c H' locs' rl (pc + len) n0 s0 Q C hml hini hSP hsB a1 a2 hL a3 hc2 hR (by omega) (by omega) hroom hret)
              | none =>
                rw [h3] at hx
                dsimp only at hx
                cases h4 : jmpA i st with
                | some q =>
                  obtain ⟨t, st'⟩ := q
                  rw [h4] at hx
                  have hn' := ns_jmp hn h4
                  cases t with
                  | some t =>
                    dsimp only at hx
                    exact sp_jmp C2 hn h4 hc1 hdc (fun t' et => by cases et; exact ih L mi _ ls st' h r hF hx hmi p e R s m args below meth c H locs rl t n0 s0 Q C hml hini hSP hsB hh hS hL hn' (blk_ok hmi t) hR hn0 hs0 hroom hret) (fun et => by cases et)
                  | none =>
                    dsimp only at hx
                    exact sp_jmp C2 hn h4 hc1 hdc (fun t' et => by cases et) (fun _ => ih L mi is ls st' h r hF hx hmi p e R s m args below meth c H locs rl (pc + len) n0 s0 Q C hml hini hSP hsB hh hS hL hn' hc2 hR hn0 hs0 hroom hret)
                | none =>
                  rw [h4] at hx
                  dsimp only at hx
                  cases h5 : retA (sysS.1 mi).2.1 i st with
                  | some r' =>
                    rw [h5] at hx
                    cases hx
                    obtain ⟨rfl, rfl⟩ := ret_len hc1 h5
                    have hst := retA_spec h5
                    rw [hst]
                    exact hret H locs rl pc _ hdc (by rw [← hst]; exact h5) (by rw [← hst]; exact hn) hh hS
                  | none =>
                    rw [h5] at hx
                    dsimp only at hx
                    cases h6 : invA sysS G i st h with
                    | none => rw [h6] at hx; simp at hx
                    | some q =>
                      obtain ⟨k, as, rest⟩ := q
                      cases L with
                      | zero => rw [h6] at hx; simp at hx
                      | succ L =>
                        rw [h6] at hx
                        dsimp only at hx
                        cases h7 : exec sysS G n L k (sysS.2.1 k 0) (lay0 (sysS.1 k).2.2.1 as) [] h with
                        | none => rw [h7] at hx; simp at hx
                        | some y =>
                          obtain ⟨r1, h1'⟩ := y
                          rw [h7] at hx
                          dsimp only at hx
                          have g1 := exec_grow _ _ _ _ _ _ _ _ _ h7
                          have g2 := exec_grow _ _ _ _ _ _ _ _ _ hx
                          have hmem := inv_mem h6
                          refine sp_call C hrl hSP hh hS h6 hc1 hdc hR (fun hk hlaw hty => met L k as h r1 h1' h7 hk hlaw hty (fun x hx => hn x (hmem.1 _ hx))) ⟨by omega, by omega⟩ (fun H1 locs1 a0 a1 a2 => ?_)
                          have hnr : NS (opt2 r1 rest) := ns_opt a0 (fun x hx => hn x (hmem.2 _ hx))
                          have K := ih (L + 1) mi is ls (opt2 r1 rest) h1' r hF hx hmi p e R s m args below meth c H1 locs1 rl (pc + len) n0 s0 Q C hml hini hSP hsB a1 a2 hL hnr hc2 hR (by omega) (by omega) hroom hret
                          rw [show hpN h - n0 + (hpN h1' - hpN h) = hpN h1' - n0 by omega, show hpS h - s0 + (hpS h1' - hpS h) = hpS h1' - s0 by omega]
                          exact K
