/-! the code, held against the real bytes; jumps; locals -/
def lw_g : List Cond := lw_tbl.filter goodWord
theorem in_g {w : Cond} (h : w ∈ lw_tbl) (hg : goodWord w = true) : w ∈ lw_g := List.mem_filter.mpr ⟨h, hg⟩
def flA (o idx c : Nat) : Bool := fltab.any (fun q => decide (q.1 = o) && (decide (q.2.1 = idx) && decide (q.2.2.1 = c)))
def mlA (o idx c : Nat) : Bool := mltab.any (fun q => decide (q.1 = o) && (decide (q.2.1 = idx) && decide (q.2.2.1 = c)))
def clA (o idx c : Nat) : Bool := cltab.any (fun q => decide (q.1 = o) && (decide (q.2.1 = idx) && decide (q.2.2.1 = c)))
def kA (o idx : Nat) (c : Int) : Bool := ktab.any (fun q => decide (q.1 = o) && (decide (q.2.1 = idx) && decide (q.2.2.1 = c)))
def k2A (o idx : Nat) (c : Int) : Bool := k2tab.any (fun q => decide (q.1 = o) && (decide (q.2.1 = idx) && decide (q.2.2.1 = c)))
def oiA (o idx : Nat) : Bool := oitab.any (fun q => decide (q.1 = o) && decide (q.2.1 = idx))
theorem any3 {α : Type} [DecidableEq α] {T : List (Nat × Nat × α × Nat)} {f : Nat × Nat × α × Nat → Bool} (hT : T.all f = true) {o idx : Nat} {c : α} (h : T.any (fun q => decide (q.1 = o) && (decide (q.2.1 = idx) && decide (q.2.2.1 = c))) = true) : ∃ p : Nat, f (o, idx, c, p) = true := by
  obtain ⟨q, hq, he⟩ := List.any_eq_true.mp h
  simp only [Bool.and_eq_true, decide_eq_true_eq] at he
  obtain ⟨h1, h2, h3⟩ := he
  subst h1; subst h2; subst h3
  exact ⟨q.2.2.2, List.all_eq_true.mp hT q hq⟩
theorem kA_in {o idx : Nat} {c : Int} (h : kA o idx c = true) : Cond.constant (ownS o) idx (Int32.ofInt c) ∈ lw_g := by
  obtain ⟨p, hp⟩ := any3 kt_ok h
  exact in_g (List.mem_of_getElem? (of_decide_eq_true hp)) rfl
theorem k2A_in {o idx : Nat} {c : Int} (h : k2A o idx c = true) : Cond.constantLong (ownS o) idx (Int64.ofInt c) ∈ lw_g := by
  obtain ⟨p, hp⟩ := any3 k2_ok h
  exact in_g (List.mem_of_getElem? (of_decide_eq_true hp)) rfl
theorem mlA_in {o idx c : Nat} (h : mlA o idx c = true) : Cond.methodLink (ownS o) idx (ynm c) ∈ lw_g := by
  obtain ⟨p, hp⟩ := any3 ml_ok h
  exact in_g (List.mem_of_getElem? (of_decide_eq_true hp)) rfl
theorem clA_in {o idx c : Nat} (h : clA o idx c = true) : ∃ r, clsS[c]? = some r ∧ Cond.classLink (ownS o) idx r.1 ∈ lw_g := by
  obtain ⟨p, hp⟩ := any3 cl_ok h
  unfold cchk at hp
  dsimp only at hp
  cases hr : clsS[c]? with
  | none => rw [hr] at hp; cases hp
  | some r => rw [hr] at hp; exact ⟨r, rfl, in_g (List.mem_of_getElem? (of_decide_eq_true hp)) rfl⟩
theorem flA_in {o idx c : Nat} (h : flA o idx c = true) : ∃ r, clsS[c / 1000]? = some r ∧ c / 10 % 100 < r.2.2 ∧ (r.2.1 (c / 10 % 100)).1 = r.1 ∧ srtF (tyS (c / 1000) (c / 10 % 100)) = c % 10 ∧ Cond.fieldLink (ownS o) idx r.1 (r.2.1 (c / 10 % 100)).2.1 (r.2.1 (c / 10 % 100)).2.2.1 ∈ lw_g := by
  obtain ⟨p, hp⟩ := any3 fl_ok h
  unfold fchk at hp
  dsimp only at hp
  cases hr : clsS[c / 1000]? with
  | none => rw [hr] at hp; cases hp
  | some r =>
    rw [hr] at hp
    simp only [Bool.and_eq_true, decide_eq_true_eq] at hp
    exact ⟨r, rfl, hp.1.1.1, hp.1.1.2, hp.1.2, in_g (List.mem_of_getElem? hp.2) rfl⟩
theorem oiA_in {o idx : Nat} (h : oiA o idx = true) : Cond.methodLink (ownS o) idx Lib.objectInit ∈ lw_g := by
  obtain ⟨q, hq, he⟩ := List.any_eq_true.mp h
  simp only [Bool.and_eq_true, decide_eq_true_eq] at he
  have h1 := List.all_eq_true.mp oi_ok q hq
  obtain ⟨e1, e2⟩ := he
  subst e1; subst e2
  exact in_g (List.mem_of_getElem? (of_decide_eq_true h1)) rfl
/-- one of mine against the real one at its place (o: whose class; ini: is this a constructor; lo: which locals hold longs) -/
def chk1 (o : Nat) (ini : Bool) (lo : List Nat) (pc : Nat) (r : Instr) (len : Nat) (i : Instr) : Bool :=
  match i with
  | .iconst n => decide (-2147483648 ≤ n) && (decide (n < 2147483648) && (match r with
    | .iconst m => decide (m = n) && decide (len = 1)
    | .bipush m => decide (m = n) && (decide (len = 2) && (decide (-128 ≤ n) && decide (n < 128)))
    | .sipush m => decide (m = n) && (decide (len = 3) && (decide (-32768 ≤ n) && decide (n < 32768)))
    | .ldc idx => decide (len = 2) && kA o idx n
    | _ => false))
  | .jsr_w n => match r with
    | .lconst k => decide (len = 1) && decide ((k.val : Int) = n)
    | .ldc2_w idx => decide (len = 3) && k2A o idx n
    | _ => false
  | .ldc _ => match r with
    | .ldc idx => decide (len = 2) && (decide (ownS o = "RuleBroadcast$Tokens") && decide (idx = 72))
    | _ => false
  | .getstatic n => match r with
    | .getstatic idx => decide (len = 3) && (match n with
      | 0 => decide (ownS o = "RuleBroadcast$Tokens") && decide (idx = 79)
      | _ => decide (n = 1) && (decide (ownS o = "java/lang/String") && decide (idx = 38)))
    | _ => false
  | .monitorexit => match r with
    | .invokespecial idx => decide (len = 3) && oiA o idx
    | _ => false
  | .iload k => match r with
    | .iload j => decide (len = 2) && decide (j = k)
    | .iload_n j => decide (len = 1) && decide (j.val = k)
    | _ => false
  | .lload k => match r with
    | .lload j => decide (len = 2) && decide (j = k)
    | .lload_n j => decide (len = 1) && decide (j.val = k)
    | _ => false
  | .aload k => match r with
    | .aload j => decide (len = 2) && decide (j = k)
    | .aload_n j => decide (len = 1) && decide (j.val = k)
    | _ => false
  | .istore k => !lo.contains k && ((k == 0 || !lo.contains (k - 1)) && (match r with
    | .istore j => decide (len = 2) && decide (j = k)
    | .istore_n j => decide (len = 1) && decide (j.val = k)
    | _ => false))
  | .astore k => !lo.contains k && ((k == 0 || !lo.contains (k - 1)) && (match r with
    | .astore j => decide (len = 2) && decide (j = k)
    | .astore_n j => decide (len = 1) && decide (j.val = k)
    | _ => false))
  | .lstore k => lo.contains k && (!lo.contains (k + 1) && ((k == 0 || !lo.contains (k - 1)) && (match r with
    | .lstore j => decide (len = 2) && decide (j = k)
    | .lstore_n j => decide (len = 1) && decide (j.val = k)
    | _ => false)))
  | .iinc k n => !lo.contains k && ((k == 0 || !lo.contains (k - 1)) && (decide (r = .iinc k n) && decide (len = 3)))
  | .getfield c => match r with
    | .getfield idx => decide (len = 3) && (flA o idx c || (decide (ownS o = "java/lang/String") && ((decide (idx = 9) && decide (c = 12002)) || (decide (idx = 15) && decide (c = 12010)))))
    | _ => false
  | .putfield c => match r with
    | .putfield idx => decide (len = 3) && (flA o idx c && (match clsS[c / 1000]? with
      | some q => !(q.2.1 (c / 10 % 100)).2.2.2 || (ini && decide (q.1 = ownS o))
      | none => false))
    | _ => false
  | .new c => match r with
    | .new idx => decide (len = 3) && clA o idx c
    | _ => false
  | .anewarray c => match r with
    | .anewarray idx => decide (len = 3) && (clA o idx c && (match clsS[c]? with
      | some q => decide (Cond.arrayOver (.object q.1) ∈ lw_tbl)
      | none => false))
    | _ => false
  | .newarray t => decide (r = .newarray t) && decide (len = 2)
  | .goto t => match r with
    | .goto off => decide (len = 3) && (decide ((pc : Int) + off = t) && decide (0 ≤ t))
    | _ => false
  | .goto_w _ => false
  | .ifCond q t => match r with
    | .ifCond q' off => decide (q' = q) && (decide (len = 3) && (decide ((pc : Int) + off = t) && decide (0 ≤ t)))
    | _ => false
  | .if_icmp q t => match r with
    | .if_icmp q' off => decide (q' = q) && (decide (len = 3) && (decide ((pc : Int) + off = t) && decide (0 ≤ t)))
    | _ => false
  | .ifnull t => match r with
    | .ifnull off => decide (len = 3) && (decide ((pc : Int) + off = t) && decide (0 ≤ t))
    | _ => false
  | .ifnonnull t => match r with
    | .ifnonnull off => decide (len = 3) && (decide ((pc : Int) + off = t) && decide (0 ≤ t))
    | _ => false
  | .tableswitch d lo' hi os => match r with
    | .tableswitch d' lo2 hi2 os' => decide (lo2 = lo') && (decide (hi2 + 1 = lo' + os'.toList.length) && (decide ((pc : Int) + d' = d) && (decide (os.toList = os'.toList.map (fun z => (pc : Int) + z)) && (decide (0 ≤ d) && os.toList.all (fun z => decide (0 ≤ z))))))
    | _ => false
  | .lookupswitch d ps => match r with
    | .lookupswitch d' ps' => (ps'.toList.zip (ps'.toList.drop 1)).all (fun (a, next) => a.1 < next.1) && (decide ((pc : Int) + d' = d) && (decide (ps.toList = ps'.toList.map (fun z => (z.1, (pc : Int) + z.2))) && (decide (0 ≤ d) && ps.toList.all (fun z => decide (0 ≤ z.2)))))
    | _ => false
  | .invokevirtual k => match r with
    | .invokevirtual idx => decide (len = 3) && (mlA o idx k && decide (k < nM))
    | _ => false
  | .invokespecial k => match r with
    | .invokespecial idx => decide (len = 3) && (mlA o idx k && decide (k < nM))
    | _ => false
  | .invokestatic k => match r with
    | .invokestatic idx => decide (len = 3) && (mlA o idx k && decide (k < nM))
    | _ => false
  | .athrow => true
  | i => decide (r = i) && decide (len = 1)
/-- a row of mine from a place on -/
def okN (nL : Nat) : Instr → Bool
  | .istore k => decide (k < nL)
  | .astore k => decide (k < nL)
  | .iinc k _ => decide (k < nL)
  | .lstore k => decide (k + 1 < nL)
  | _ => true
def chkB (o : Nat) (ini : Bool) (lo : List Nat) (nL : Nat) (cc : ByteArray) : Nat → List Instr → Bool
  | _, [] => true
  | pc, .goto_w t :: _ => decide ((pc : Int) = t)
  | pc, i :: is => match decode cc pc with
    | .ok (r, len) => okN nL i && (chk1 o ini lo pc r len i && chkB o ini lo nL cc (pc + len) is)
    | _ => false
section S2
variable {p : Program} {l : Launch} {e : Env} {R : Room} {s : State} {m : MethodId} {args : Array Value} {below : List Frame} {meth : Method} {c : Code} {H : Heap} {locs : List Loc} {cells slots : Nat} {Q : State → Prop}
variable {cc : ByteArray} {pc o len : Nat} {ini : Bool} {lo : List Nat} {ls : Array Slot} {rest : List Value} {tr : Nat → Nat} {st st' : List AV} {i r : Instr}
abbrev Cg (p : Program) (s : State) (m : MethodId) (args : Array Value) (c : Code) (cc : ByteArray) (own : String) : Prop :=
  p.tables.exec = Jvm.exec ∧ c.code = cc ∧ s.vm.findClass own = some m.cls ∧ ∀ w ∈ lw_g, w.before args s = true
theorem cats_tv (tr : Nat → Nat) : ∀ st : List AV, ((st.map (tvA tr)).map fun v => v.category).sum = cats st
  | [] => rfl
  | v :: st => by
    simp only [List.map_cons, List.sum_cons, cats, tvA_cat]
    rw [cats_tv tr st]
theorem sp_const (C : Cg p s m args c cc (ownS o)) {n : Int} (hc : chk1 o ini lo pc r len (.iconst n) = true) (hd : decode cc pc = .ok (r, len))
    (k : W p l e R s m args below meth c H locs cells slots Q (F0 m (pc + len) ls (.int (Int32.ofInt n) :: rest))) : W p l e R s m args below meth c H locs cells slots Q (F0 m pc ls rest) := by
  unfold chk1 at hc
  simp only [Bool.and_eq_true, decide_eq_true_eq] at hc
  obtain ⟨h1, h2, hc⟩ := hc
  split at hc <;> simp only [Bool.and_eq_true, decide_eq_true_eq, Bool.false_eq_true] at hc
  · obtain ⟨rfl, rfl⟩ := hc
    exact lv_iconst C.1 C.2.1 hd rfl k
  · obtain ⟨rfl, rfl, h3, h4⟩ := hc
    exact lv_bipush C.1 C.2.1 hd (oi_bi h3 h4) k
  · obtain ⟨rfl, rfl, h3, h4⟩ := hc
    exact lv_sipush C.1 C.2.1 hd (oi_si h3 h4) k
  · obtain ⟨rfl, h3⟩ := hc
    exact W.ldc C.1 C.2.1 C.2.2.1 (C.2.2.2 _ (kA_in h3)) rfl hd k
theorem sp_lc (C : Cg p s m args c cc (ownS o)) {n : Int} (hc : chk1 o ini lo pc r len (.jsr_w n) = true) (hd : decode cc pc = .ok (r, len))
    (k : W p l e R s m args below meth c H locs cells slots Q (F0 m (pc + len) ls (.long (Int64.ofInt n) :: rest))) : W p l e R s m args below meth c H locs cells slots Q (F0 m pc ls rest) := by
  unfold chk1 at hc
  dsimp only at hc
  split at hc <;> simp only [Bool.and_eq_true, decide_eq_true_eq, Bool.false_eq_true] at hc
  · obtain ⟨rfl, rfl⟩ := hc
    exact lv_lconst C.1 C.2.1 hd rfl k
  · obtain ⟨rfl, h3⟩ := hc
    exact W.ldc2 C.1 C.2.1 C.2.2.1 (C.2.2.2 _ (k2A_in h3)) rfl hd k
theorem chk_same (hc : chk1 o ini lo pc r len i = true) (hp : plain1 i = true) : r = i ∧ len = 1 := by
  cases i <;> simp only [plain1, binI, binL, shL, unI, divI, divL, Option.isSome, Bool.or_self, Bool.false_eq_true, Bool.or_false, Bool.or_true, Bool.true_or, Bool.false_or] at hp <;> unfold chk1 at hc <;> simp only [Bool.and_eq_true, decide_eq_true_eq] at hc <;> exact hc
theorem ob_words : Cond.instanceMethod Lib.objectInit ∈ lw_g ∧ Cond.code Lib.objectInit ⟨#[0xb1]⟩ 1 none ∈ lw_g := ⟨in_g (List.mem_of_getElem? (i := 111) (by decide +kernel)) rfl, in_g (List.mem_of_getElem? (i := 112) rfl) rfl⟩
theorem sp_obj (C : Cg p s m args c cc (ownS o)) (hsz : ls.size = c.maxLocals) (hR : 1 ≤ R.frames ∧ 20 ≤ R.locals) {a : Nat} (hcat : (rest.map fun v => v.category).sum ≤ 8) (hc : chk1 o ini lo pc r len .monitorexit = true) (hd : decode cc pc = .ok (r, len))
    (k : W p l e R s m args below meth c H locs cells slots Q (F0 m (pc + len) ls rest)) : W p l e R s m args below meth c H locs cells slots Q (F0 m pc ls (.ref a :: rest)) := by
  unfold chk1 at hc
  dsimp only at hc
  split at hc <;> simp only [Bool.and_eq_true, decide_eq_true_eq, Bool.false_eq_true] at hc
  obtain ⟨rfl, h3⟩ := hc
  refine W.objInit C.1 C.2.1 C.2.2.1 (C.2.2.2 _ (oiA_in h3)) (C.2.2.2 _ ob_words.1) (C.2.2.2 _ ob_words.2) (g := F0 m pc ls (.ref a :: rest)) rfl hsz rfl hd hR.1 ?_ k
  have h0 : (F0 m pc ls (Value.ref a :: rest)).monitorRoom = 0 := rfl
  rw [h0]
  omega
theorem sp_pure (C : Cg p s m args c cc (ownS o)) (hsz : ls.size = c.maxLocals) (hR : 1 ≤ R.frames ∧ 20 ≤ R.locals) (hn : NS st) (hp : pureOp i st = some st') (hc : chk1 o ini lo pc r len i = true) (hd : decode cc pc = .ok (r, len)) (hne : (∀ n, i ≠ .ldc n) ∧ ∀ n, i ≠ .getstatic n)
    (k : W p l e R s m args below meth c H locs cells slots Q (F0 m (pc + len) ls (st'.map (tvA tr)))) : W p l e R s m args below meth c H locs cells slots Q (F0 m pc ls (st.map (tvA tr))) := by
  have Cx0 : p.tables.exec = Jvm.exec ∧ c.code = cc := ⟨C.1, C.2.1⟩
  by_cases hpl : plain1 i = true
  · obtain ⟨rfl, rfl⟩ := chk_same hc hpl
    unfold pureOp at hp
    split at hp
    case h_1 => cases hpl
    case h_2 => cases hpl
    case h_3 => cases hp; exact lv_null C.1 C.2.1 hd k
    case h_4 => cases hpl
    case h_5 => cases hpl
    case h_6 => cases hpl
    case h_7 =>
      split at hp
      · rename_i v q
        split at hp
        · rename_i hv
          cases hp
          exact lv_dup C.1 C.2.1 hd (by rw [tvA_cat]; exact hv) k
        · cases hp
      · cases hp
    case h_8 =>
      split at hp
      · rename_i v q
        split at hp
        · rename_i hv
          cases hp
          exact lv_pop C.1 C.2.1 hd (by rw [tvA_cat]; exact hv) k
        · cases hp
      · cases hp
    case h_9 =>
      split at hp
      · cases hp
        exact lv_dup2_2 C.1 C.2.1 hd rfl k
      · rename_i v w q hx
        split at hp
        · rename_i hv
          cases hp
          exact lv_dup2_11 C.1 C.2.1 hd (by rw [tvA_cat]; exact hv.1) (by rw [tvA_cat]; exact hv.2) k
        · cases hp
      · cases hp
    case h_10 =>
      split at hp
      · cases hp
        exact lv_pop2_2 C.1 C.2.1 hd rfl k
      · cases hp
    case h_11 =>
      split at hp
      · cases hp
        exact lv_i2l C.1 C.2.1 hd rfl k
      · cases hp
    case h_12 =>
      split at hp
      · cases hp
        simp only [List.map_cons, tvA, oi_to] at k
        exact lv_l2i C.1 C.2.1 hd rfl k
      · cases hp
    case h_13 =>
      split at hp
      · cases hp
        exact lv_lneg C.1 C.2.1 hd k
      · cases hp
    case h_14 =>
      split at hp
      · cases hp
        simp only [List.map_cons, tvA, lcmp_tv] at k
        exact W.lcmp C.1 C.2.1 hd k
      · cases hp
    case h_15 =>
      split at hp
      · rename_i f hf
        split at hp
        · cases hp; exact sp_binI Cx0 hf hd k
        · cases hp
      · split at hp
        · rename_i f hf
          split at hp
          · cases hp; exact sp_binL Cx0 hf hd k
          · cases hp
        · split at hp
          · rename_i f hf
            split at hp
            · cases hp; exact sp_shL Cx0 hf hd k
            · cases hp
          · split at hp
            · rename_i f hf
              split at hp
              · cases hp; exact sp_unI Cx0 hf hd k
              · cases hp
            · split at hp
              · rename_i f hf
                split at hp
                · split at hp
                  · cases hp
                  · rename_i hy
                    cases hp; exact sp_divI Cx0 hf hy hn.hd hd k
                · cases hp
              · split at hp
                · rename_i f hf
                  split at hp
                  · split at hp
                    · cases hp
                    · rename_i hy
                      cases hp; exact sp_divL Cx0 hf hy hd k
                  · cases hp
                · cases hp
  · unfold pureOp at hp
    split at hp
    case h_1 => cases hp; exact sp_const C hc hd k
    case h_2 => cases hp; exact sp_lc C hc hd k
    case h_4 n => exact absurd rfl (hne.1 _)
    case h_5 => exact absurd rfl (hne.2 _)
    case h_6 =>
      split at hp
      · split at hp
        · rename_i hcat
          cases hp
          exact sp_obj C hsz hR (by rw [cats_tv]; exact hcat) hc hd k
        · cases hp
      · cases hp
    case h_15 =>
      exfalso
      apply hpl
      unfold plain1
      split
      all_goals first
        | rfl
        | (split at hp
           · rename_i hf; simp [hf]
           · split at hp
             · rename_i hf; simp [hf]
             · split at hp
               · rename_i hf; simp [hf]
               · split at hp
                 · rename_i hf; simp [hf]
                 · split at hp
                   · rename_i hf; simp [hf]
                   · split at hp
                     · rename_i hf; simp [hf]
                     · cases hp)
    all_goals exact absurd rfl hpl
end S2
