/-! MY MACHINE AND THE REAL ONE: values, the stack's own instructions, locals -/
def tvA (tr : Nat → Nat) : AV → Value
  | .inl x => .int (Int32.ofInt x)
  | .inr (.inl u) => .long u
  | .inr (.inr (.inl none)) => .null
  | .inr (.inr (.inl (some a))) => .ref (tr a)
  | .inr (.inr (.inr _)) => .null
def inr (x : Int) : Prop := -2147483648 ≤ x ∧ x < 2147483648
def NS (st : List AV) : Prop := ∀ x : Int, Sum.inl x ∈ st → inr x
theorem inr_to (x : Int32) : inr x.toInt := ⟨Int32.le_toInt x, Int32.toInt_lt x⟩
theorem NS.tl {v : AV} {st : List AV} (h : NS (v :: st)) : NS st := fun x hx => h x (List.mem_cons_of_mem _ hx)
theorem NS.hd {x : Int} {st : List AV} (h : NS (vI x :: st)) : inr x := h x List.mem_cons_self
theorem NS.ci {x : Int} {st : List AV} (hx : inr x) (h : NS st) : NS (vI x :: st) := fun y hy => by
  rcases List.mem_cons.mp hy with e | e
  · cases e; exact hx
  · exact h y e
theorem NS.cv {v : AV} {st : List AV} (hv : ∀ x, v ≠ Sum.inl x) (h : NS st) : NS (v :: st) := fun y hy => by
  rcases List.mem_cons.mp hy with e | e
  · exact absurd e.symm (hv y)
  · exact h y e
theorem NS.c {v w : AV} {st st' : List AV} (h : NS (v :: st)) (h' : NS st') : NS (v :: st') := fun y hy => by
  rcases List.mem_cons.mp hy with e | e
  · exact h y (by rw [e]; exact List.mem_cons_self)
  · exact h' y e
theorem oi_to (x : Int32) : Int32.ofInt x.toInt = x := Int32.ofInt_toInt x
theorem oi_w32 (z : Int) : Int32.ofInt (w32 z) = Int32.ofInt z := Int32.ofInt_toInt _
theorem to_oi {x : Int} (h : inr x) : (Int32.ofInt x).toInt = x := Int32.toInt_ofInt_of_le h.1 h.2
theorem oi_lt {x y : Int} (hx : inr x) (hy : inr y) : Int32.ofInt x < Int32.ofInt y ↔ x < y := by rw [Int32.lt_iff_toInt_lt, to_oi hx, to_oi hy]
theorem oi_le {x y : Int} (hx : inr x) (hy : inr y) : Int32.ofInt x ≤ Int32.ofInt y ↔ x ≤ y := by rw [Int32.le_iff_toInt_le, to_oi hx, to_oi hy]
theorem oi_eq {x y : Int} (hx : inr x) (hy : inr y) : Int32.ofInt x = Int32.ofInt y ↔ x = y := by rw [← Int32.toInt_inj, to_oi hx, to_oi hy]
theorem inr0 : inr 0 := ⟨by decide, by decide⟩
theorem oi_bi {n : Int} (h1 : -128 ≤ n) (h2 : n < 128) : (Int8.ofInt n).toInt32 = Int32.ofInt n := by
  rw [← Int32.toInt_inj, Int8.toInt_toInt32, Int8.toInt_ofInt_of_le h1 h2, to_oi ⟨by omega, by omega⟩]
theorem oi_si {n : Int} (h1 : -32768 ≤ n) (h2 : n < 32768) : (Int16.ofInt n).toInt32 = Int32.ofInt n := by
  rw [← Int32.toInt_inj, Int16.toInt_toInt32, Int16.toInt_ofInt_of_le h1 h2, to_oi ⟨by omega, by omega⟩]
theorem tvA_cat (tr : Nat → Nat) (v : AV) : (tvA tr v).category = catA v := by
  rcases v with x | x | (_ | x) | x <;> rfl
section S1
variable {p : Program} {l : Launch} {e : Env} {R : Room} {s : State} {m : MethodId} {args : Array Value} {below : List Frame} {meth : Method} {c : Code} {H : Heap} {locs : List Loc} {cells slots : Nat} {Q : State → Prop}
variable {cc : ByteArray} {own : String} {pc : Nat} {ls : Array Slot} {rest : List Value} {tr : Nat → Nat} {st st' : List AV}
theorem sp_binI (C : p.tables.exec = Jvm.exec ∧ c.code = cc) {i : Instr} {f : Int → Int → Int} (hf : binI i = some f) {x y : Int} (hd : decode cc pc = .ok (i, 1))
    (k : W p l e R s m args below meth c H locs cells slots Q (F0 m (pc + 1) ls (.int (Int32.ofInt (f x y)) :: rest))) : W p l e R s m args below meth c H locs cells slots Q (F0 m pc ls (.int (Int32.ofInt y) :: .int (Int32.ofInt x) :: rest)) := by
  cases i <;> simp only [binI, reduceCtorEq, Option.some.injEq] at hf <;> subst hf
  case iadd => rw [oi_w32, Int32.ofInt_add] at k; exact lv_iadd C.1 C.2 hd k
  case isub => rw [oi_w32, Int32.ofInt_sub] at k; exact lv_isub C.1 C.2 hd k
  case imul => rw [oi_w32, Int32.ofInt_mul] at k; exact lv_imul C.1 C.2 hd k
  case iand => rw [oi_to] at k; exact lv_iand C.1 C.2 hd k
  case ior => rw [oi_to] at k; exact lv_ior C.1 C.2 hd k
  case ixor => rw [oi_to] at k; exact lv_ixor C.1 C.2 hd k
  case ishl => rw [oi_to] at k; exact lv_ishl C.1 C.2 hd k
  case ishr => rw [oi_to] at k; exact lv_ishr C.1 C.2 hd k
  case iushr => rw [oi_to] at k; exact lv_iushr C.1 C.2 hd rfl k
theorem sp_divI (C : p.tables.exec = Jvm.exec ∧ c.code = cc) {i : Instr} {f : Int → Int → Int} (hf : divI i = some f) {x y : Int} (hy : ¬ y = 0) (hr : inr y) (hd : decode cc pc = .ok (i, 1))
    (k : W p l e R s m args below meth c H locs cells slots Q (F0 m (pc + 1) ls (.int (Int32.ofInt (f x y)) :: rest))) : W p l e R s m args below meth c H locs cells slots Q (F0 m pc ls (.int (Int32.ofInt y) :: .int (Int32.ofInt x) :: rest)) := by
  have hne : ¬ Int32.ofInt y = 0 := fun h => hy ((oi_eq hr inr0).mp h)
  cases i <;> simp only [divI, reduceCtorEq, Option.some.injEq] at hf <;> subst hf
  case idiv => rw [oi_to] at k; exact lv_idiv C.1 C.2 hd hne k
  case irem => rw [oi_to] at k; exact lv_irem C.1 C.2 hd hne k
theorem sp_unI (C : p.tables.exec = Jvm.exec ∧ c.code = cc) {i : Instr} {f : Int → Int} (hf : unI i = some f) {x : Int} (hd : decode cc pc = .ok (i, 1))
    (k : W p l e R s m args below meth c H locs cells slots Q (F0 m (pc + 1) ls (.int (Int32.ofInt (f x)) :: rest))) : W p l e R s m args below meth c H locs cells slots Q (F0 m pc ls (.int (Int32.ofInt x) :: rest)) := by
  cases i <;> simp only [unI, reduceCtorEq, Option.some.injEq] at hf <;> subst hf
  case ineg => rw [oi_to] at k; exact lv_ineg C.1 C.2 hd k
  case i2b => rw [oi_to] at k; exact lv_i2b C.1 C.2 hd rfl k
  case i2c => rw [oi_to] at k; exact lv_i2c C.1 C.2 hd rfl k
theorem sp_binL (C : p.tables.exec = Jvm.exec ∧ c.code = cc) {i : Instr} {f : Int64 → Int64 → Int64} (hf : binL i = some f) {x y : Int64} (hd : decode cc pc = .ok (i, 1))
    (k : W p l e R s m args below meth c H locs cells slots Q (F0 m (pc + 1) ls (.long (f x y) :: rest))) : W p l e R s m args below meth c H locs cells slots Q (F0 m pc ls (.long y :: .long x :: rest)) := by
  cases i <;> simp only [binL, reduceCtorEq, Option.some.injEq] at hf <;> subst hf
  case ladd => exact lv_ladd C.1 C.2 hd k
  case lsub => exact lv_lsub C.1 C.2 hd k
  case lmul => exact lv_lmul C.1 C.2 hd k
  case land => exact lv_land C.1 C.2 hd k
  case lor => exact lv_lor C.1 C.2 hd k
  case lxor => exact lv_lxor C.1 C.2 hd k
theorem sp_divL (C : p.tables.exec = Jvm.exec ∧ c.code = cc) {i : Instr} {f : Int64 → Int64 → Int64} (hf : divL i = some f) {x y : Int64} (hy : ¬ y = 0) (hd : decode cc pc = .ok (i, 1))
    (k : W p l e R s m args below meth c H locs cells slots Q (F0 m (pc + 1) ls (.long (f x y) :: rest))) : W p l e R s m args below meth c H locs cells slots Q (F0 m pc ls (.long y :: .long x :: rest)) := by
  cases i <;> simp only [divL, reduceCtorEq, Option.some.injEq] at hf <;> subst hf
  case ldiv => exact lv_ldiv C.1 C.2 hd hy k
  case lrem => exact lv_lrem C.1 C.2 hd hy k
theorem sp_shL (C : p.tables.exec = Jvm.exec ∧ c.code = cc) {i : Instr} {f : Int64 → Int → Int64} (hf : shL i = some f) {x : Int64} {y : Int} (hd : decode cc pc = .ok (i, 1))
    (k : W p l e R s m args below meth c H locs cells slots Q (F0 m (pc + 1) ls (.long (f x y) :: rest))) : W p l e R s m args below meth c H locs cells slots Q (F0 m pc ls (.int (Int32.ofInt y) :: .long x :: rest)) := by
  cases i <;> simp only [shL, reduceCtorEq, Option.some.injEq] at hf <;> subst hf
  case lshl => exact lv_lshl C.1 C.2 hd rfl k
  case lushr => exact lv_lushr C.1 C.2 hd rfl k
end S1
theorem ns_binI {i : Instr} {f : Int → Int → Int} (hf : binI i = some f) (x y : Int) : inr (f x y) := by
  cases i <;> simp only [binI, reduceCtorEq, Option.some.injEq] at hf <;> subst hf <;> exact inr_to _
theorem ns_divI {i : Instr} {f : Int → Int → Int} (hf : divI i = some f) (x y : Int) : inr (f x y) := by
  cases i <;> simp only [divI, reduceCtorEq, Option.some.injEq] at hf <;> subst hf <;> exact inr_to _
theorem ns_unI {i : Instr} {f : Int → Int} (hf : unI i = some f) (x : Int) : inr (f x) := by
  cases i <;> simp only [unI, reduceCtorEq, Option.some.injEq] at hf <;> subst hf <;> exact inr_to _
/-- is this of my instructions one that stands in the code just as it is, of one byte, the stack's own? -/
def plain1 : Instr → Bool
  | .aconst_null | .dup | .pop | .dup2 | .pop2 | .i2l | .l2i | .lneg | .lcmp => true
  | i => (binI i).isSome || (binL i).isSome || (shL i).isSome || (unI i).isSome || (divI i).isSome || (divL i).isSome
theorem lcmp_tv (x y : Int64) : Int32.ofInt (lcmpA x y) = lg_cmp x y := by
  unfold lcmpA lg_cmp
  split
  · rfl
  · split <;> rfl
theorem lcmp_in (x y : Int64) : inr (lcmpA x y) := by
  unfold lcmpA
  split
  · exact ⟨by decide, by decide⟩
  · split <;> exact ⟨by decide, by decide⟩
theorem ns_pure {i : Instr} {st st' : List AV} (hn : NS st) (hp : pureOp i st = some st') (hk : ∀ n, i = .iconst n → inr n) : NS st' := by
  cases i <;> simp only [pureOp, binI, binL, shL, unI, divI, divL, reduceCtorEq] at hp
  case iconst n => cases hp; exact NS.ci (hk n rfl) hn
  case jsr_w n => cases hp; exact NS.cv (by simp) hn
  case aconst_null => cases hp; exact NS.cv (by simp) hn
  case ldc => cases hp; exact NS.cv (by simp) hn
  all_goals (repeat' split at hp) <;> (try (simp only [reduceCtorEq] at hp; done)) <;> (try simp only [Option.some.injEq] at hp) <;> (try subst hp) <;>
    first
    | exact hn.tl
    | exact hn.tl.tl
    | exact NS.ci (inr_to _) hn.tl
    | exact NS.ci (inr_to _) hn.tl.tl
    | exact NS.ci (lcmp_in _ _) hn.tl.tl
    | exact NS.ci ⟨by decide, by decide⟩ hn
    | exact NS.cv (by simp) hn.tl
    | exact NS.cv (by simp) hn.tl.tl
    | exact fun x hx => hn x (by simp only [List.mem_cons] at hx ⊢; grind)
    | exact NS.cv (by simp) hn
