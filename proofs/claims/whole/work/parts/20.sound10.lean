/-! MY MACHINE IS THE REAL ONE -/
theorem gs_words : Cond.fieldLink "RuleBroadcast$Tokens" 79 "RuleBroadcast$Tokens" "KEY_WORDS" "[I" ∈ lw_g ∧ Cond.fieldLink "java/lang/String" 38 "java/lang/String" "COMPACT_STRINGS" "Z" ∈ lw_g := ⟨in_g (List.mem_of_getElem? (i := 473) (by decide +kernel)) rfl, in_g (List.mem_of_getElem? (i := 500) (by decide +kernel)) rfl⟩
def rtOK (mi : Nat) : Bool := match (mtb mi).2.1, rty mi with
  | 0, some .int => true
  | 1, some .long => true
  | 2, some (.object _) => true
  | 3, none => true
  | 4, some .boolean => true
  | 5, some .byte => true
  | _, _ => false
theorem rt_ok : ∀ mi, mi < nM → rtOK mi = true := by decide +kernel
theorem cls13 : ∀ mi, mi < nM → (mtb mi).2.2.2.1 = 1 → (mtb mi).2.2.2.2 < 13 := by decide +kernel
theorem rt_init : ∀ mi, mi < nM → (mtb mi).2.2.2.1 = 2 → rty mi = none := by decide +kernel
theorem ml_nl : mltab.all (fun q => decide (q.2.2.1 ≠ m_law_law)) = true := by decide +kernel
theorem mlA_nl {o idx k : Nat} (h : mlA o idx k = true) : k ≠ m_law_law := by
  obtain ⟨p, hp⟩ := any3 ml_nl h
  exact of_decide_eq_true hp
section S10
variable {p : Program} {l : Launch} {e : Env} {R : Room} {s : State} {m : MethodId} {args : Array Value} {below : List Frame} {meth : Method} {c : Code} {H : Heap} {locs : List Loc} {cells slots : Nat} {Q : State → Prop}
variable {cc : ByteArray} {pc o len : Nat} {ini : Bool} {lo : List Nat} {rl : Array Slot} {rest : List Value} {tr : Nat → Nat} {i r : Instr} {G : GB} {D : va_G} {B : Nat} {H0 : Heap} {h h' : AH} {st st' : List AV}
theorem sp_ldc (C : Cg p s m args c cc (ownS o)) (hSP : SP tr D B H0 s) {n : Nat} (hc : chk1 o ini lo pc r len (.ldc n) = true) (hd : decode cc pc = .ok (r, len))
    (k : W p l e R s m args below meth c H locs cells slots Q (F0 m (pc + len) rl (.ref (tr 2) :: rest))) : W p l e R s m args below meth c H locs cells slots Q (F0 m pc rl rest) := by
  unfold chk1 at hc
  dsimp only at hc
  split at hc <;> simp only [Bool.and_eq_true, decide_eq_true_eq, Bool.false_eq_true] at hc
  obtain ⟨rfl, ho, rfl⟩ := hc
  exact va_ldcS C.1 C.2.1 C.2.2.1 (by rw [ho]; exact hSP.2.1) hd k
theorem sp_gets (C : Cg p s m args c cc (ownS o)) (hSP : SP tr D B H0 s) (hS : va_S (fun q => B ≤ q) s.heap H locs) (hsB : ∀ q, q < B → s.heap[q]? = H0[q]?) {n : Nat} (hp : pureOp (.getstatic n) st = some st') (hc : chk1 o ini lo pc r len (.getstatic n) = true) (hd : decode cc pc = .ok (r, len))
    (k : W p l e R s m args below meth c H locs cells slots Q (F0 m (pc + len) rl (st'.map (tvA tr)))) : W p l e R s m args below meth c H locs cells slots Q (F0 m pc rl (st.map (tvA tr))) := by
  have hq : ∀ a : Nat, a < H0.size → ¬ B ≤ a → s.heap[a]? = H0[a]? := fun a _ h2 => hsB a (by omega)
  unfold chk1 at hc
  dsimp only at hc
  split at hc <;> simp only [Bool.and_eq_true, decide_eq_true_eq, Bool.false_eq_true] at hc
  obtain ⟨rfl, hc⟩ := hc
  cases n with
  | zero =>
    simp only [Bool.and_eq_true, decide_eq_true_eq] at hc
    obtain ⟨ho, rfl⟩ := hc
    cases hp
    exact va_gets C.1 C.2.1 (hSP.2.2.1.kept hq) hS C.2.2.1 (ref := "RuleBroadcast$Tokens") (C.2.2.2 _ (by rw [ho]; exact gs_words.1)) (fun _ z => z) hd k
  | succ n =>
    simp only [Bool.and_eq_true, decide_eq_true_eq] at hc
    obtain ⟨hn, ho, rfl⟩ := hc
    cases hp
    exact va_gets C.1 C.2.1 (hSP.2.2.2.1.kept hq) hS C.2.2.1 (ref := "java/lang/String") (C.2.2.2 _ (by rw [ho]; exact gs_words.2)) (fun _ z => z) hd k
end S10
theorem Met.ofWF {l : Launch} {y : MethodName} {ws ws' : List Cond} {rm : Room} {Pc : Array Value → State → Prop} {Qc : Array Value → State → Outcome → State → Prop} {mc ms : Nat} {free : Addr → Prop} {cc : ByteArray} {maxL : Nat} {ret : Option FieldType}
    (hy : plainFor y = true) (hw : ws = Cond.code y cc maxL ret :: ws')
    (body : ∀ p e s m args below meth c s₁, BodyLoose p l y (headSpec ws rm) cc maxL ret e s m args below meth c s₁ → c.maxLocals = maxL → Pc args s →
      W p l e (headSpec ws rm).room s m args below meth c s.heap [] 0 0 (MQ below Qc args s mc ms free) (entryFrame m args maxL)) : Met l y ws rm Pc Qc mc ms free := by
  refine MetFree.of_bodySF (code := cc) (maxLocals := maxL) (ret := ret) hy ?_ ?_
  · intro args s m h hn
    obtain ⟨meth, c, h1, h2, h3, h4, h5, h6, -, -⟩ := Cond.code_spec hn (atoms_spec (ws := ws) h _ (by rw [hw]; exact List.mem_cons_self))
    exact ⟨meth, c, h1, h2, h3, h4, h5, h6⟩
  · intro p e s m args below meth c s₁ Bd hml hP _
    have hh0 : s₁.heap = s.heap := by rw [Bd.state]; rfl
    obtain ⟨t, a1, o, b1, b2, b3⟩ := body p e s m args below meth c s₁ Bd hml hP s₁ hh0 (Stand.of_body Bd)
    exact ⟨t, o, a1, b1, b2, ⟨b3.1, b3.2⟩⟩
theorem SP.warm {tr : Nat → Nat} {D : va_G} {B : Nat} {H0 : Heap} {s U : State} (hW : s.WarmedH U.vm) (h : SP tr D B H0 s) : SP tr D B H0 U := by
  obtain ⟨h1, h2, h3, h4, h5, h6, h7, h8⟩ := h
  exact ⟨va_K.moved hW.alike h1, h2.warm hW, va_Z.moved hW.alike h3, va_Z.moved hW.alike h4, va_O.moved hW.alike h5, va_OF.moved hW.alike h6, va_OF.moved hW.alike h7, fun C hC => (h8 C hC).moved hW.alike⟩
theorem SP.same {tr : Nat → Nat} {D : va_G} {B : Nat} {H0 : Heap} {s U : State} (hv : U.vm = s.vm) (h : SP tr D B H0 s) : SP tr D B H0 U := by
  obtain ⟨h1, h2, h3, h4, h5, h6, h7, h8⟩ := h
  have hA : s.vm.Alike U.vm := by rw [hv]; exact Vm.Alike.refl _
  exact ⟨va_K.moved hA h1, h2.same hv, va_Z.moved hA h3, va_Z.moved hA h4, va_O.moved hA h5, va_OF.moved hA h6, va_OF.moved hA h7, fun C hC => (h8 C hC).moved hA⟩
/-- a method's contract, as my machine tells it -/
def PcM (G : GB) (tr : Nat → Nat) (D : va_G) (B : Nat) (H0 : Heap) (as : List AV) (h : AH) : Array Value → State → Prop := va_Pc (as.map (tvA tr)) (fun U => HR G tr D B H0 U h U.heap ∧ SP tr D B H0 U)
def QcM (G : GB) (tr : Nat → Nat) (D : va_G) (B : Nat) (H0 : Heap) (r : Option AV) (h1 : AH) : Array Value → State → Outcome → State → Prop := fun _ st oc t => oc = .returned (r.map (tvA tr)) ∧ HR G tr D B H0 t h1 t.heap ∧ va_F (fun q => B ≤ q) st t ∧ NS (opt2 r [])
def wsM (k : Nat) : List Cond := Cond.code (ynm k) (byt k) (mtb k).2.2.1 (rty k) :: lw_g
def rmM (L mc ms : Nat) : Room := { frames := L + 2, cells := mc, slots := ms, locals := 48 * L + 48 }
def MetM (l : Launch) (G : GB) (tr : Nat → Nat) (D : va_G) (B : Nat) (H0 : Heap) (L k : Nat) (as : List AV) (h : AH) (r : Option AV) (h1 : AH) : Prop :=
  Met l (ynm k) (wsM k) (rmM L (hpN h1 - hpN h) (hpS h1 - hpS h)) (PcM G tr D B H0 as h) (QcM G tr D B H0 r h1) (hpN h1 - hpN h) (hpS h1 - hpS h) (fun q => B ≤ q)
theorem PcM_blind {G : GB} {tr : Nat → Nat} {D : va_G} {B : Nat} {H0 : Heap} {as : List AV} {h : AH} : FrameBlind (PcM G tr D B H0 as h) := by
  intro a U g mk hP
  obtain ⟨h1, h2, h3⟩ := hP
  exact ⟨h1, h2.moved (Vm.Alike.refl _), h3.same rfl⟩
section S11
variable {p : Program} {l : Launch} {e : Env} {R : Room} {s : State} {m : MethodId} {args : Array Value} {below : List Frame} {meth : Method} {c : Code} {H : Heap} {locs : List Loc} {Q : State → Prop}
variable {cc : ByteArray} {pc o len : Nat} {ini : Bool} {lo : List Nat} {rl : Array Slot} {tr : Nat → Nat} {i ri : Instr} {G : GB} {D : va_G} {B : Nat} {H0 : Heap} {h h1 : AH} {st st' rest as : List AV} {r : Option AV} {cells slots mc ms : Nat}
theorem opt_map (tr : Nat → Nat) (r : Option AV) (rest : List AV) : (r.map (tvA tr)).toList ++ rest.map (tvA tr) = (opt2 r rest).map (tvA tr) := by
  cases r <;> rfl
/-- behind a call -/
theorem sp_back (hS : va_S (fun q => B ≤ q) s.heap H locs) {av : Array Value} (hr : va_Run p l e R s m args below meth c H locs cells slots mc ms (F0 m pc rl (st.map (tvA tr))) (rest.map (tvA tr)) (QcM G tr D B H0 r h1 av) (fun q => B ≤ q))
    (k : ∀ H1 locs1, NS (opt2 r []) → HR G tr D B H0 s h1 H1 → va_S (fun q => B ≤ q) s.heap H1 locs1 → W p l e R s m args below meth c H1 locs1 (cells + mc) (slots + ms) Q (F0 m (pc + 3) rl ((opt2 r rest).map (tvA tr)))) : W p l e R s m args below meth c H locs cells slots Q (F0 m pc rl (st.map (tvA tr))) := by
  intro T hT X
  obtain ⟨v, st₀, t, T', L, h0, X', hL, e1, e2, ⟨hv, hH, ⟨hz, hk⟩, hNS⟩, go⟩ := hr T hT X
  cases hv
  rw [h0] at hz hk
  have hAl : t.vm.Alike s.vm := by rw [← e2]; exact X'.warmed.alike.symm
  have k := k T'.heap (locs ++ L) hNS (by rw [e1]; exact hH.moved hAl)
    ⟨Nat.le_trans hS.1 (by rw [e1]; exact hz), fun q q1 q2 => by rw [e1, hk q (Nat.lt_of_lt_of_le q1 hS.1) q2]; exact hS.2.1 q q1 q2, fun q hq => by
      rcases List.mem_append.mp hq with z | z
      · exact hS.2.2 q z
      · exact hL q z⟩
  rw [← opt_map] at k
  obtain ⟨t2, a1, b1⟩ := k T' rfl X'
  exact ⟨t2, go t2 a1, b1⟩
theorem ns_opt {r : Option AV} {rest : List AV} (h1 : NS (opt2 r [])) (h2 : NS rest) : NS (opt2 r rest) := by
  cases r with
  | none => exact h2
  | some v => exact NS.c (w := v) h1 h2
theorem inv_mem {i : Instr} {st : List AV} {h : AH} {k : Nat} {as rest : List AV} (hi : invA sysS G i st h = some (k, as, rest)) : (∀ v ∈ as, v ∈ st) ∧ ∀ v ∈ rest, v ∈ st := by
  have key : ∀ {ts : List Nat} {as rest : List AV}, popA ts [] st = some (as, rest) → (∀ v ∈ as, v ∈ st) ∧ ∀ v ∈ rest, v ∈ st := by
    intro ts as rest hp
    obtain ⟨xs, e1, e2, -⟩ := popA_spec _ _ _ _ _ hp
    rw [e1, e2]
    exact ⟨fun v hv => by simp at hv ⊢; exact Or.inl hv, fun v hv => by simp; exact Or.inr hv⟩
  cases i <;> simp only [invA, reduceCtorEq] at hi
  all_goals
    split at hi
    · rename_i hp
      split at hi
      · cases hi; exact key hp
      · cases hi
    · cases hi
theorem good_ws (k : Nat) (hk : Cond.code (ynm k) (byt k) (mtb k).2.2.1 (rty k) ∈ lw_g) : GoodIn lw_g (wsM k) := by
  have hg : ∀ w ∈ lw_g, w ∈ lw_g ∧ ((w.onTables && w.keeps) = true ∨ ∃ ty, w = .arrayClass ty) := fun w hw => ⟨hw, good_of_word (List.mem_filter.mp hw).2⟩
  intro w hw
  rcases List.mem_cons.mp hw with rfl | hw
  · exact hg _ hk
  · exact hg w hw
theorem sp_callB (C : Cg p s m args c cc (ownS o)) {k L idx n : Nat} (hM : mthOK k) (hm20 : (mtb k).2.2.1 ≤ 20) (hl : mlA o idx k = true) (hn : (match (mtb k).2.2.2.1 with | 0 => (mtb k).1.length | _ => (mtb k).1.length - 1) = n) (hR : L + 1 + 2 ≤ R.frames ∧ 48 * (L + 1) + 48 ≤ R.locals) :
    CallB R s args (ownS o) idx (ynm k) (byt k) (mtb k).2.2.1 (rty k) (wsM k) (rmM L mc ms) mc ms n := by
  obtain ⟨-, ⟨a1, a2, a3⟩, a4, a5, -, -⟩ := hM
  refine callB_of n C.2.2.2 (good_ws k (in_g a4 rfl)) rfl rfl rfl (C.2.2.2 _ (in_g a5 rfl)) (C.2.2.2 _ (mlA_in hl)) ⟨a1, a2, ?_⟩ ⟨?_, ?_⟩
  · rw [a3]; exact congrArg some hn
  · show L + 2 + 1 ≤ R.frames
    omega
  · show 8 + ((mtb k).2.2.1 + 11) + (48 * L + 48) ≤ R.locals
    omega
/-- a call with more on the stack below it -/
theorem sp_runV {y : MethodName} {bytes : ByteArray} {maxL nL n index : Nat} {ret : Option FieldType} {ws : List Cond} {rm : Room} {Pc : Array Value → State → Prop} {Qc : Array Value → State → Outcome → State → Prop} {free : Addr → Prop} {Ts : List Cond} {own C : String} {b : Addr} {As rs : List Value} {g : JFrame}
    (S : CallFix p m c cc nL s args Ts own) (hM : Met l y ws rm Pc Qc mc ms free) (cw : CallW R s args own C index y bytes maxL ret ws rm mc ms n) (h16 : 16 + (maxL + 11) + rm.locals ≤ R.locals) (hp : PreV s H C b Pc As)
    (hg : g.method = m) (hn : As.length = n) (hsize : g.locals.size = nL) (hstack : g.stack = As.reverse ++ .ref b :: rs) (hW : 2 * g.monitorRoom + (rs.map fun v => v.category).sum ≤ 16) (hdg : decode cc g.pc = .ok (.invokevirtual index, 3)) (hf : cells + mc ≤ R.cells ∧ slots + ms ≤ R.slots) :
    va_Run p l e R s m args below meth c H locs cells slots mc ms g rs (Qc (Value.ref b :: As).toArray) free := by
  obtain ⟨⟨hrc, hrs, hfr, -, hws, hcw, hcode, hini, hy, hlen, hl⟩, hin, hse⟩ := cw
  obtain ⟨hx, hb, hml, ho, -⟩ := S
  obtain ⟨hbl, ⟨cellB, hcB, hoB, hclB⟩, hPc⟩ := hp
  intro T hT X
  obtain ⟨v, vm₁, g', mk, t, T', L, X', hL, e1, e2, hq, st⟩ := callVK X hx (W := 16) (C := C) hM hbl hrc hrs hfr h16 hws hcw ho hl hin hse hcode hini hy (by rw [hT]; exact hcB) hoB hclB hg (hsize.trans hml.symm) (argsL := As) (rest := rs) (fun sig h => hn.trans (hlen sig h)) hstack hW (by rw [hb]; exact hdg) hf.1 hf.2 (fun vm₁ hW₁ => hPc (T.setVm vm₁) hT hW₁)
  exact ⟨v, (T.setVm vm₁).calling g' mk (Value.ref b :: As).toArray, t, T', L, hT, X', hL, e1, e2, hq, st⟩
theorem rcvA_spec {M : MInf} (hM : M.2.2.2.1 ≠ 0) (hr : rcvA G h M as = true) : ∃ a as2, as = vR (some a) :: as2 ∧ (knd G h a).1 = M.2.2.2.2 := by
  unfold rcvA at hr
  split at hr
  · rename_i e; exact absurd e hM
  · split at hr
    · exact ⟨_, _, rfl, of_decide_eq_true hr⟩
    · cases hr
theorem PcM_at (hSP : SP tr D B H0 s) (hh : HR G tr D B H0 s h H) : ∀ U : State, U.heap = H → s.WarmedH U.vm → PcM G tr D B H0 as h (as.map (tvA tr)).toArray U := fun U hU hW => ⟨rfl, by rw [hU]; exact hh.moved hW.alike, hSP.warm hW⟩
theorem sp_recv (hSP : SP tr D B H0 s) (hh : HR G tr D B H0 s h H) {a ci : Nat} (hk : (knd G h a).1 = ci) (hci : ci < 13) : ∃ cell : Cell, H[tr a]? = some cell ∧ cell.vm.isStatics = false ∧ s.vm.findClass (ownS ci) = some cell.cls := by
  by_cases e12 : ci = 12
  · subst e12
    obtain ⟨rfl, -, -⟩ := hh.2.2.2.1 a hk
    obtain ⟨cell, g1, g2, g3, -⟩ := hSP.2.2.2.2.1.kept hh.old
    exact ⟨cell, g1, g2, g3⟩
  · obtain ⟨q, f1, cell, f2, f3, f4, -⟩ := hh.2.2.1 a (by omega)
    rw [hk] at f1 f3
    refine ⟨cell, f2, by rw [f4]; rfl, ?_⟩
    rw [clsS_own f1, f3]
    exact (hSP.1.1 _ _ f1).2.1
theorem sp_call (C : Cg p s m args c cc (ownS o)) (hml : rl.size = c.maxLocals) (hSP : SP tr D B H0 s) (hh : HR G tr D B H0 s h H) (hS : va_S (fun q => B ≤ q) s.heap H locs) {k L : Nat} (hi : invA sysS G i st h = some (k, as, rest)) (hc : chk1 o ini lo pc ri len i = true) (hd : decode cc pc = .ok (ri, len)) (hR : L + 1 + 2 ≤ R.frames ∧ 48 * (L + 1) + 48 ≤ R.locals)
    (hmet : k < nM → k ≠ m_law_law → as.map tyA = (mtb k).1.reverse → MetM l G tr D B H0 L k as h r h1) (hf : cells + (hpN h1 - hpN h) ≤ R.cells ∧ slots + (hpS h1 - hpS h) ≤ R.slots)
    (kk : ∀ H1 locs1, NS (opt2 r []) → HR G tr D B H0 s h1 H1 → va_S (fun q => B ≤ q) s.heap H1 locs1 → W p l e R s m args below meth c H1 locs1 (cells + (hpN h1 - hpN h)) (slots + (hpS h1 - hpS h)) Q (F0 m (pc + len) rl ((opt2 r rest).map (tvA tr)))) : W p l e R s m args below meth c H locs cells slots Q (F0 m pc rl (st.map (tvA tr))) := by
  have fin : ∀ {ts : List Nat} {xs : List AV}, xs.map tyA = ts → (xs.reverse ++ ([] : List AV)).map tyA = ts.reverse := by
    intro ts xs h
    rw [List.append_nil, List.map_reverse, h]
  have hmon : (F0 m pc rl (st.map (tvA tr))).monitorRoom = 0 := rfl
  cases i <;> simp only [invA, reduceCtorEq] at hi
  case invokevirtual k0 =>
    unfold chk1 at hc
    dsimp only at hc
    split at hc <;> simp only [Bool.and_eq_true, decide_eq_true_eq, Bool.false_eq_true] at hc
    obtain ⟨rfl, hl, hk⟩ := hc
    split at hi
    · rename_i as' r' hpop
      split at hi
      · rename_i hcond
        cases hi
        obtain ⟨xs, e1, e2, e3⟩ := popA_spec _ _ _ _ _ hpop
        have hM := mth_ok k hk (mlA_nl hl)
        have hlay := lay_ok k hk
        unfold layOK at hlay
        simp only [Bool.and_eq_true, decide_eq_true_eq] at hlay
        obtain ⟨c1, c2, c3⟩ := hcond
        have hkind : (mtb k).2.2.2.1 = 1 := c1
        have hmet := hmet hk (mlA_nl hl) (by rw [e2]; exact fin e3)
        obtain ⟨a, as2, has, hka⟩ := rcvA_spec (by rw [show (sysS.1 k).2.2.2.1 = 1 from hkind]; decide) c2
        have hM2 := hM.2.2.2.2.2
        rw [hkind] at hM2
        obtain ⟨w1, w2, w3⟩ := hM2
        have hci : (sysS.1 k).2.2.2.2 < 13 := cls13 k hk hkind
        have hrec := sp_recv hSP hh hka hci
        have w4 : ownS (sysS.1 k).2.2.2.2 = (ynm k).cls := w3
        rw [w4] at hrec
        have hxs : xs.reverse = vR (some a) :: as2 := by rw [← has, e2]; simp
        have hlen : (mtb k).1.length = as2.length + 1 := by
          have := congrArg List.length e3
          have h2 := congrArg List.length hxs
          simp only [List.length_map, List.length_reverse, List.length_cons] at this h2
          have e4 : (sysS.1 k).1 = (mtb k).1 := rfl
          rw [e4] at this
          omega
        have hst : st.map (tvA tr) = (as2.map (tvA tr)).reverse ++ .ref (tr a) :: rest.map (tvA tr) := by
          rw [e1]
          have h3 : xs = as2.reverse ++ [vR (some a)] := by
            have := congrArg List.reverse hxs
            simpa using this
          rw [h3]
          simp [List.map_append, List.map_reverse, tvA]
        refine sp_back hS (sp_runV (As := as2.map (tvA tr)) (n := as2.length) ⟨C.1, C.2.1, hml.symm, C.2.2.1, C.2.2.2⟩ hmet ⟨sp_callB C hM hlay.2.2.2 hl (by rw [hkind]; show (mtb k).1.length - 1 = _; omega) hR, C.2.2.2 _ (in_g w1 rfl), C.2.2.2 _ (in_g w2 rfl)⟩ (by have := hlay.2.2.2; show 16 + ((mtb k).2.2.1 + 11) + (48 * L + 48) ≤ R.locals; omega) ⟨PcM_blind, hrec, fun U hU hW => by have := PcM_at (as := as) hSP hh U hU hW; rw [has] at this ⊢; exact this⟩ rfl (by simp) rfl hst ?_ hd hf) kk
        rw [hmon, cats_tv]
        omega
      · cases hi
    · cases hi
  case invokespecial k0 =>
    unfold chk1 at hc
    dsimp only at hc
    split at hc <;> simp only [Bool.and_eq_true, decide_eq_true_eq, Bool.false_eq_true] at hc
    obtain ⟨rfl, hl, hk⟩ := hc
    split at hi
    · rename_i as' r' hpop
      split at hi
      · rename_i hcond
        cases hi
        obtain ⟨xs, e1, e2, e3⟩ := popA_spec _ _ _ _ _ hpop
        have hM := mth_ok k hk (mlA_nl hl)
        have hlay := lay_ok k hk
        unfold layOK at hlay
        simp only [Bool.and_eq_true, decide_eq_true_eq] at hlay
        obtain ⟨c1, c2, c3⟩ := hcond
        have hkind : (mtb k).2.2.2.1 = 2 := c1
        have hmet := hmet hk (mlA_nl hl) (by rw [e2]; exact fin e3)
        have hrt := rt_init k hk hkind
        obtain ⟨a, as2, has, hka⟩ := rcvA_spec (by rw [show (sysS.1 k).2.2.2.1 = 2 from hkind]; decide) c2
        have hM2 := hM.2.2.2.2.2
        rw [hkind] at hM2
        obtain ⟨w1, w2, w3⟩ := hM2
        have hxs : xs.reverse = vR (some a) :: as2 := by rw [← has, e2]; simp
        have hlen : (mtb k).1.length = as2.length + 1 := by
          have := congrArg List.length e3
          have h2 := congrArg List.length hxs
          simp only [List.length_map, List.length_reverse, List.length_cons] at this h2
          have e4 : (sysS.1 k).1 = (mtb k).1 := rfl
          rw [e4] at this
          omega
        have hst : st.map (tvA tr) = (as2.map (tvA tr)).reverse ++ .ref (tr a) :: rest.map (tvA tr) := by
          rw [e1]
          have h3 : xs = as2.reverse ++ [vR (some a)] := by
            have := congrArg List.reverse hxs
            simpa using this
          rw [h3]
          simp [List.map_append, List.map_reverse, tvA]
        have hB := sp_callB (R := R) (mc := hpN h1 - hpN h) (ms := hpS h1 - hpS h) (n := as2.length) C hM hlay.2.2.2 hl (by rw [hkind]; show (mtb k).1.length - 1 = _; omega) hR
        rw [hrt] at hB
        refine sp_back hS (va_runI (As := as2.map (tvA tr)) (n := as2.length) ⟨C.1, C.2.1, hml.symm, C.2.2.1, C.2.2.2⟩ hmet ⟨hB, w2, C.2.2.2 _ (in_g w1 rfl)⟩ ⟨PcM_blind, fun U hU hW => by have := PcM_at (as := as) hSP hh U hU hW; rw [has] at this ⊢; exact this⟩ rfl (by simp) rfl hst ?_ hd hf) kk
        rw [hmon, cats_tv]
        omega
      · cases hi
    · cases hi
  case invokestatic k0 =>
    unfold chk1 at hc
    dsimp only at hc
    split at hc <;> simp only [Bool.and_eq_true, decide_eq_true_eq, Bool.false_eq_true] at hc
    obtain ⟨rfl, hl, hk⟩ := hc
    split at hi
    · rename_i as' r' hpop
      split at hi
      · rename_i hcond
        cases hi
        obtain ⟨xs, e1, e2, e3⟩ := popA_spec _ _ _ _ _ hpop
        have hM := mth_ok k hk (mlA_nl hl)
        have hlay := lay_ok k hk
        unfold layOK at hlay
        simp only [Bool.and_eq_true, decide_eq_true_eq] at hlay
        obtain ⟨c1, c3⟩ := hcond
        have hkind : (mtb k).2.2.2.1 = 0 := c1
        have hmet := hmet hk (mlA_nl hl) (by rw [e2]; exact fin e3)
        have hM2 := hM.2.2.2.2.2
        rw [hkind] at hM2
        have hxs : as = xs.reverse := by rw [e2]; simp
        have hlen : (mtb k).1.length = as.length := by
          have := congrArg List.length e3
          rw [hxs, List.length_reverse]
          rw [List.length_map] at this
          exact this.symm
        have hst : st.map (tvA tr) = (as.map (tvA tr)).reverse ++ rest.map (tvA tr) := by
          rw [e1, hxs]
          simp [List.map_append, List.map_reverse]
        refine sp_back hS (va_runS (As := as.map (tvA tr)) (n := as.length) ⟨C.1, C.2.1, hml.symm, C.2.2.1, C.2.2.2⟩ hmet ⟨sp_callB C hM hlay.2.2.2 hl (by rw [hkind]; show (mtb k).1.length = _; omega) hR, C.2.2.2 _ (in_g hM2 rfl)⟩ ⟨PcM_blind, fun U hU hW => PcM_at hSP hh U hU hW⟩ rfl (by simp) rfl hst ?_ hd hf) kk
        rw [hmon, cats_tv]
        omega
      · cases hi
    · cases hi
end S11
