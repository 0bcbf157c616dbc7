/-! THE CLAIM OUT OF ONE WALK OF THE LAW'S BODY. Your part is whole_start (and what it stands on); all else here is the same for every law, but numbers. -/
def R_law : String := "RuleBroadcastLaw"
def lw_P (b : Addr) (xs : List Int32) (args : Array Value) (s : State) : Prop := args = #[.ref b] ∧ s.IntsAt b xs ∧ xs.length ≤ 4096 ∧ (Jvm.Cond.and given_1 narrow_1).before args s = true
def lw_Q (_ : Array Value) (s : State) (o : Outcome) (t : State) : Prop := o = .returned (some (.int 1)) ∧ Framed s o t [] 600000 7302250
def lw_Z (below : List Frame) (a : Array Value) (s : State) : State → Prop := fun t => ∃ o, t.status = .running ∧ Ended t below o ∧ lw_Q a s o t
/-- the law's own end, with 1 on the stack, nothing written that was there before, its room as the claim has it -/
theorem lw_ret {p : Program} {l : Launch} {e : Env} {s : State} {m : MethodId} {below : List Frame} {meth : Method} {c : Code} {b : Nat} (hx : p.tables.exec = Jvm.exec) (hb : c.code = code) (hr : meth.sig.returnType = ret) (hlocks : meth.locks = false) {pc : Nat} {H : Heap} {ls : Array Slot} (hdg : decode code pc = .ok (.ireturn, 1)) : W p l e room_1 s m #[Value.ref b] below meth c H [] 600000 7302250 (lw_Z below #[Value.ref b] s) (F0 m pc ls [.int 1]) := by
  intro T hT X
  obtain ⟨fs, hret, hrun, hended, hW, hframe⟩ := X.leave (v := some (.int 1)) (hlocks := hlocks) (fun h => by rw [hr] at h; cases h)
  have hmeth' : T.vm.method? m = some meth := X.method'
  refine ⟨T.setFrames fs, ?_, .returned (some (.int 1)), hrun, hended, rfl, ⟨_, rfl⟩, hW, hframe⟩
  jvm_step X.here [X.here.top, hx, hb, hdg, hmeth', hr, ret, narrow_b1]
  (try refine ⟨rfl, ?_⟩); (try refine ⟨rfl, ?_⟩)
  first | (intro acts; rw [hret _ acts rfl rfl rfl]) | rw [hret _ _ rfl rfl rfl]
  exact Steps.refl _
/-- what holds at the law's entry: the machine, the code, the tables' words (any of lw_tbl by 'hts w (by decide +kernel)'), the script of L ints xs at the cell b, what the Statement gives of the start (any of its parts by flat_of_before) -/
def lw_At (p : Program) (s : State) (m : MethodId) (meth : Method) (c : Code) (b L : Nat) (xs : Nat → Int32) : Prop :=
  p.tables.exec = Jvm.exec ∧ c.code = code ∧ meth.sig.returnType = ret ∧ c.maxLocals = 4 ∧ s.vm.findClass R_law = some m.cls ∧ (∀ w ∈ lw_tbl, w.before #[Value.ref b] s = true) ∧ va_X b L xs s s.heap ∧ b < s.heap.size ∧ meth.locks = false ∧ (Jvm.Cond.and given_1 narrow_1).before #[Value.ref b] s = true

/-! FROM A RUN OF MY MACHINE TO THE LAW ITSELF -/
def kwL : List Int := [25209, 26982, 7304564, 28530, 6385252, 7237492, 1885954923, 107, 116, 118, 110]
def sgL : List Int := [40, 41, 91, 93, 43, 45, 42, 47, 37, 44, 58, 60, 62, 61, 35]
/-- the heap at the law's start: the script, the key words, the text of signs, its bytes -/
def h00 (n : Nat) (xs : Nat → Int32) : AH := (fun a k => if a = 0 then (xs k).toInt else if a = 1 then kwL.getD k 0 else if a = 3 then sgL.getD k 0 else 0, fun _ _ => 0, fun a k => if a = 2 ∧ k = 0 then some 3 else none, fun a => if a = 0 then (20, n) else if a = 1 then (20, 11) else if a = 2 then (12, 2) else if a = 3 then (22, 15) else (99, 0), 4, 0)
def LawRun : Prop := ∀ (L : Nat) (xs : Nat → Int32), L ≤ 4096 → Run sysS G0 1000 m_law_law (sysS.2.1 m_law_law 0) [vR (some 0), vU, vU, vU] [] (h00 L xs) (fun r h => r = some (vI 1) ∧ hpN h ≤ 600004 ∧ hpS h ≤ 7302250)
def trL (b k1 k2 k3 B : Nat) : Nat → Nat
  | 0 => b
  | 1 => k1
  | 2 => k2
  | 3 => k3
  | k + 4 => B + k
theorem g0_ok : gOK G0 := ⟨fun a h => of_decide_eq_true h, fun _ _ _ => rfl⟩
theorem knd_00 (n : Nat) (xs : Nat → Int32) (a : Nat) : knd G0 (h00 n xs) a = if a = 0 then (20, n) else if a = 1 then (20, 11) else if a = 2 then (12, 2) else if a = 3 then (22, 15) else (99, 0) := rfl
theorem in_00 (n : Nat) (xs : Nat → Int32) (a k : Nat) : inr (rdI (h00 n xs) a k) := by
  show inr (if a = 0 then (xs k).toInt else if a = 1 then kwL.getD k 0 else if a = 3 then sgL.getD k 0 else 0)
  have getD_in : ∀ (l : List Int) (k : Nat), (∀ x ∈ l, inr x) → inr (l.getD k 0) := by
    intro l k h
    by_cases hk : k < l.length
    · have : l.getD k 0 = l[k] := by simp [hk]
      rw [this]
      exact h _ (List.getElem_mem hk)
    · have : l.getD k 0 = 0 := by simp [hk]
      rw [this]
      exact inr0
  split
  · exact inr_to _
  · split
    · exact getD_in _ _ (by unfold kwL inr; decide)
    · split
      · exact getD_in _ _ (by unfold sgL inr; decide)
      · exact inr0
set_option maxRecDepth 100000 in
set_option maxHeartbeats 4000000 in
theorem whole_of_run (hrun : LawRun) {p : Program} {e : Env} {s : State} {m : MethodId} {below : List Frame} {meth : Method} {c : Code} (l : Launch) {b L : Nat} {xs : Nat → Int32} (hL : L ≤ 4096) (C0 : lw_At p s m meth c b L xs) : W p l e room_1 s m #[Value.ref b] below meth c s.heap [] 0 0 (lw_Z below #[Value.ref b] s) (entryFrame m ([Value.ref b] : List Value).toArray 4) := by
  obtain ⟨hx, hb, hr, hml, hown, hts, hX, hbl, hlocks, hgv⟩ := id C0
  have hs := flat_of_before _ hgv
  have hA : ∀ a : Nat, a < s.heap.size → ¬ (fun q => s.heap.size ≤ q) a := fun a h q => by
    have q : s.heap.size ≤ a := q
    omega
  -- the classes
  have hKn : ∀ ci : Nat, ∃ q : ClassId × (Nat → Nat), ∀ r : vw_C, clsS[ci]? = some r → u_Kn s r.1 r.2.1 r.2.2 q.1 q.2 := by
    intro ci
    cases hc : clsS[ci]? with
    | none => exact ⟨(0, fun _ => 0), fun r h => by cases h⟩
    | some r =>
      obtain ⟨u1, u2, u3, u4, u5⟩ := cls_ok _ _ hc
      obtain ⟨cC, iS, hk⟩ := u_known (C := r.1) (T := r.2.1) (N := r.2.2) (n := r.2.2) hts u1 (hts _ u4)
      exact ⟨(cC, iS), fun r' h => by cases h; exact hk⟩
  obtain ⟨dD, hdD⟩ := Classical.axiomOfChoice hKn
  have hK : va_K (fun c => (dD c).1, fun c => (dD c).2) clsS [] s := ⟨fun ci r h => hdD ci r h, fun k q h => by simp at h⟩
  -- the key words
  obtain ⟨k1, hk1, hT1⟩ := va_Tof (args := #[Value.ref b]) (s := s) (tm := .static "RuleBroadcast$Tokens" "KEY_WORDS" "[I") (ty := .int) (N := 11) (f := fun j => .int (Int32.ofInt (kwL.getD j 0))) (A := fun q => s.heap.size ≤ q) (by decide) (hs _ (by decide +kernel)) (va_eqt (hs _ (by decide +kernel)))
    (fun j hj => by
      have hj' : j = 0 ∨ j = 1 ∨ j = 2 ∨ j = 3 ∨ j = 4 ∨ j = 5 ∨ j = 6 ∨ j = 7 ∨ j = 8 ∨ j = 9 ∨ j = 10 := by omega
      rcases hj' with rfl | rfl | rfl | rfl | rfl | rfl | rfl | rfl | rfl | rfl | rfl <;> exact va_eqt (hs _ (by decide +kernel))) hA
  have hZ1 : va_Z "RuleBroadcast$Tokens" "KEY_WORDS" "[I" (.ref k1) (fun q => s.heap.size ≤ q) s s.heap := va_Zof (hts _ (by decide +kernel)) (hts _ (by decide +kernel)) hk1 hA
  have hZ2 : va_Z "java/lang/String" "COMPACT_STRINGS" "Z" (.int 1) (fun q => s.heap.size ≤ q) s s.heap := va_Zof (hts _ (by decide +kernel)) (hts _ (by decide +kernel)) (va_eqt (hs _ (by decide +kernel))) hA
  -- the text of signs
  obtain ⟨adK, adV, hSt, hev⟩ := vk_Sof (args := #[Value.ref b]) (s := s) (N := 1) (tm := fun _ => .string "RuleBroadcast$Tokens" 72) (len := [15]) (byt := [sgL.map Int32.ofInt]) (A := fun q => s.heap.size ≤ q)
    (fun i hi => by have : i = 0 := by omega
                    subst this; decide)
    (fun i hi => hs _ (by decide +kernel)) (fun i hi => hs _ (by decide +kernel)) (fun i hi => hs _ (by decide +kernel))
    (fun i hi => by have : i = 0 := by omega
                    subst this; exact hs _ (by decide +kernel))
    (fun i hi j hj => by
      have : i = 0 := by omega
      subst this
      have hj : j < 15 := hj
      have hj' : j = 0 ∨ j = 1 ∨ j = 2 ∨ j = 3 ∨ j = 4 ∨ j = 5 ∨ j = 6 ∨ j = 7 ∨ j = 8 ∨ j = 9 ∨ j = 10 ∨ j = 11 ∨ j = 12 ∨ j = 13 ∨ j = 14 := by omega
      rcases hj' with rfl | rfl | rfl | rfl | rfl | rfl | rfl | rfl | rfl | rfl | rfl | rfl | rfl | rfl | rfl <;> exact hs _ (by decide +kernel))
    (fun i j hi hj hij => by omega) hA
  obtain ⟨hO, hOc, hOv, hTv⟩ := hSt.1 0 (by omega)
  have hR : vk_R "RuleBroadcast$Tokens" 72 "()[]+-*/%,:<>=#" (adK 0) s := vk_R.of (A := #[Value.ref b]) (hts _ (by decide +kernel)) (hev 0 (by omega))
  have lt_of : ∀ {ty : FieldType} {t N : Nat} {f : Nat → Value}, va_T ty t N f (fun q => s.heap.size ≤ q) s s.heap → t < s.heap.size := fun h => by
    obtain ⟨cell, h1, -⟩ := h
    exact (Array.getElem?_eq_some_iff.mp h1).1
  have ht : trOK (trL b k1 (adK 0) (adV 0) s.heap.size) s.heap.size := by
    refine ⟨fun k hk => ?_, fun k => rfl⟩
    have hk' : k = 0 ∨ k = 1 ∨ k = 2 ∨ k = 3 := by omega
    rcases hk' with rfl | rfl | rfl | rfl
    · exact hbl
    · exact lt_of hT1
    · obtain ⟨cell, h1, -⟩ := hO
      exact (Array.getElem?_eq_some_iff.mp h1).1
    · exact lt_of hTv
  have hSP : SP (trL b k1 (adK 0) (adV 0) s.heap.size) (fun c => (dD c).1, fun c => (dD c).2) s.heap.size s.heap s := ⟨hK, hR, hZ1, hZ2, hO, hOv, hOc, fun C hC => va_AO.of (hts _ hC)⟩
  have hHR : HR G0 (trL b k1 (adK 0) (adV 0) s.heap.size) (fun c => (dD c).1, fun c => (dD c).2) s.heap.size s.heap s (h00 L xs) s.heap := by
    refine ⟨⟨rfl, Nat.le_refl 4⟩, fun a ha => ?_, fun a ha => ?_, fun a ha => ?_, fun a ha ha2 => ?_, fun q _ => rfl, in_00 L xs⟩
    · rw [knd_00] at ha
      show a < 4
      by_cases h4 : a < 4
      · exact h4
      · rw [if_neg (by omega), if_neg (by omega), if_neg (by omega), if_neg (by omega)] at ha
        simp at ha
    · rw [knd_00] at ha
      repeat' split at ha
      all_goals simp at ha
    · rw [knd_00] at ha
      refine ⟨?_, rfl, rfl⟩
      by_cases h2 : a = 2
      · exact h2
      · repeat' split at ha
        all_goals first | simp at ha | contradiction
    · by_cases e0 : a = 0
      · subst e0
        obtain ⟨scr, x1, x2, x3, x4, x5⟩ := hX
        refine ⟨scr, x1, x2, x3, Nat.le_of_eq x4.symm, by rw [x4]; rfl, by rw [knd_00]; simp; omega, fun j hj => ?_, fun q => by rw [knd_00] at q; simp at q⟩
        have hj : j < L := hj
        rw [x5 j hj]
        show _ = some (Value.int (Int32.ofInt (xs j).toInt))
        rw [oi_to]
      · by_cases e1 : a = 1
        · subst e1
          obtain ⟨cell, x1, x2, x3, x4, x5, x6, -⟩ := hT1
          exact ⟨cell, x1, x2, x3, x4, x5, by rw [knd_00]; simp, fun j hj => x6 j hj, fun q => by rw [knd_00] at q; simp at q⟩
        · by_cases e3 : a = 3
          · subst e3
            obtain ⟨cell, x1, x2, x3, x4, x5, x6, -⟩ := hTv
            refine ⟨cell, x1, x2, x3, x4, x5, by rw [knd_00]; simp, fun j hj => ?_, fun q => by rw [knd_00] at q; simp at q⟩
            have hj : j < 15 := hj
            rw [x6 j hj]
            have hj' : j = 0 ∨ j = 1 ∨ j = 2 ∨ j = 3 ∨ j = 4 ∨ j = 5 ∨ j = 6 ∨ j = 7 ∨ j = 8 ∨ j = 9 ∨ j = 10 ∨ j = 11 ∨ j = 12 ∨ j = 13 ∨ j = 14 := by omega
            rcases hj' with rfl | rfl | rfl | rfl | rfl | rfl | rfl | rfl | rfl | rfl | rfl | rfl | rfl | rfl | rfl <;> rfl
          · exfalso
            rw [knd_00, if_neg e0, if_neg e1] at ha ha2
            by_cases e2 : a = 2
            · rw [if_pos e2] at ha; simp at ha
            · rw [if_neg e2, if_neg e3] at ha2; simp at ha2
  obtain ⟨n, r, hF, hex, rfl, hN, hSl⟩ := hrun L xs hL
  have C : Cg p s m #[Value.ref b] c (byt m_law_law) (ownS (omi m_law_law)) := ⟨hx, hb, hown, fun w hw => hts w (List.mem_filter.mp hw).1⟩
  have hLR := LR_entry (tr := trL b k1 (adK 0) (adV 0) s.heap.size) (mi := m_law_law) (as := [vR (some 0)]) (by decide) (by decide +kernel) (fun v hv => by simp at hv; subst hv; decide) (fun x hx => by simp at hx)
  rw [lg_entry_eq]
  have K := sound l g0_ok ht n 1000 m_law_law _ _ [] _ _ _ hex (by decide) p e room_1 s m #[Value.ref b] below meth c s.heap [] _ 0 4 0 (lw_Z below #[Value.ref b] s) C hml (fun q => by cases q) hSP (fun q _ => rfl) hHR va_S.rf hLR.2 (fun x hx => by cases hx) (blk_ok (by decide) 0) ⟨by decide, by decide⟩ (Nat.le_refl 4) (Nat.zero_le _) ⟨by show hpN hF - 4 ≤ 600000; omega, by show hpS hF - 0 ≤ 7302250; omega⟩
    (fun H' locs' rl' pc' i' hd hra _ hH' hS' => by
      have hi : i' = .ireturn := by
        cases i' <;> simp only [retA, reduceCtorEq, opt2] at hra
        rfl
      subst hi
      refine va_forget (fun q hq => hS'.2.2 q hq) ?_
      exact W.widen (k := 600000) (n := 7302250) (by omega) (by omega) (lw_ret hx hb hr hlocks hd))
  exact K
