section EX
variable {S : Sys} {G : GB}
theorem exec_cons (n L mi : Nat) (i : Instr) (is : List Instr) (ls st : List AV) (h : AH) : exec S G (n + 1) L mi (i :: is) ls st h =
    (match pureOp i st with
    | some st' => exec S G n L mi is ls st' h
    | none => match locOp i ls st with
      | some (ls', st') => exec S G n L mi is ls' st' h
      | none => match heapOp S.2.2 G i st h with
        | some (st', h') => exec S G n L mi is ls st' h'
        | none => match jmpA i st with
          | some (some t, st') => exec S G n L mi (S.2.1 mi t) ls st' h
          | some (none, st') => exec S G n L mi is ls st' h
          | none => match retA (S.1 mi).2.1 i st with
            | some r => some (r, h)
            | none => match invA S G i st h, L with
              | some (k, as, rest), L' + 1 => match exec S G n L' k (S.2.1 k 0) (lay0 (S.1 k).2.2.1 as) [] h with
                | some (r, h') => exec S G n (L' + 1) mi is ls (opt2 r rest) h'
                | none => none
              | _, _ => none) := by
  first | rfl | (rw [exec]; rfl) | (rw [exec]; cases L <;> rfl) | (conv => lhs; unfold exec)
theorem exec_mono : ∀ (n L mi : Nat) (is : List Instr) (ls st : List AV) (h : AH) (x : Option AV × AH), exec S G n L mi is ls st h = some x → exec S G (n + 1) L mi is ls st h = some x := by
  intro n
  induction n with
  | zero => intro L mi is ls st h x hx; simp [exec] at hx
  | succ n ih =>
    intro L mi is ls st h x hx
    cases is with
    | nil => simp [exec] at hx
    | cons i is =>
      rw [exec_cons] at hx ⊢
      cases h1 : pureOp i st with
      | some st' => rw [h1] at hx; exact ih _ _ _ _ _ _ _ hx
      | none =>
        rw [h1] at hx
        dsimp only at hx ⊢
        cases h2 : locOp i ls st with
        | some q => rw [h2] at hx; exact ih _ _ _ _ _ _ _ hx
        | none =>
          rw [h2] at hx
          dsimp only at hx ⊢
          cases h3 : heapOp S.2.2 G i st h with
          | some q => rw [h3] at hx; exact ih _ _ _ _ _ _ _ hx
          | none =>
            rw [h3] at hx
            dsimp only at hx ⊢
            cases h4 : jmpA i st with
            | some q =>
              obtain ⟨t, st'⟩ := q
              rw [h4] at hx
              cases t with
              | some t => exact ih _ _ _ _ _ _ _ hx
              | none => exact ih _ _ _ _ _ _ _ hx
            | none =>
              rw [h4] at hx
              dsimp only at hx ⊢
              cases h5 : retA (S.1 mi).2.1 i st with
              | some r => rw [h5] at hx; exact hx
              | none =>
                rw [h5] at hx
                dsimp only at hx ⊢
                cases h6 : invA S G i st h with
                | none => rw [h6] at hx; simp at hx
                | some q =>
                  obtain ⟨k, as, rest⟩ := q
                  cases L with
                  | zero => rw [h6] at hx; simp at hx
                  | succ L =>
                    rw [h6] at hx
                    dsimp only at hx ⊢
                    cases h7 : exec S G n L k (S.2.1 k 0) (lay0 (S.1 k).2.2.1 as) [] h with
                    | none => rw [h7] at hx; simp at hx
                    | some y =>
                      rw [h7] at hx
                      rw [ih _ _ _ _ _ _ _ h7]
                      exact ih _ _ _ _ _ _ _ hx
theorem exec_le {n m : Nat} (hnm : n ≤ m) {L mi : Nat} {is : List Instr} {ls st : List AV} {h : AH} {x : Option AV × AH} (hx : exec S G n L mi is ls st h = some x) : exec S G m L mi is ls st h = some x := by
  induction hnm with
  | refl => exact hx
  | step _ ih => exact exec_mono _ _ _ _ _ _ _ _ ih
variable {L mi : Nat} {i : Instr} {is : List Instr} {ls ls' st st' : List AV} {h h' : AH} {Q : Option AV → AH → Prop}
theorem Run_nx {is2 : List Instr} (hn : ∀ n, exec S G (n + 1) L mi (i :: is) ls st h = exec S G n L mi is2 ls' st' h') : Run S G L mi (i :: is) ls st h Q ↔ Run S G L mi is2 ls' st' h' Q := by
  constructor
  · rintro ⟨n, r, g, e, q⟩
    cases n with
    | zero => simp [exec] at e
    | succ n => exact ⟨n, r, g, (hn n) ▸ e, q⟩
  · rintro ⟨n, r, g, e, q⟩
    exact ⟨n + 1, r, g, (hn n).trans e, q⟩
theorem Run_pure (h1 : pureOp i st = some st') : Run S G L mi (i :: is) ls st h Q ↔ Run S G L mi is ls st' h Q :=
  Run_nx fun n => by rw [exec_cons, h1]
theorem Run_loc (h1 : pureOp i st = none) (h2 : locOp i ls st = some (ls', st')) : Run S G L mi (i :: is) ls st h Q ↔ Run S G L mi is ls' st' h Q :=
  Run_nx fun n => by rw [exec_cons, h1, h2]
theorem Run_heap (h1 : pureOp i st = none) (h2 : locOp i ls st = none) (h3 : heapOp S.2.2 G i st h = some (st', h')) : Run S G L mi (i :: is) ls st h Q ↔ Run S G L mi is ls st' h' Q :=
  Run_nx fun n => by rw [exec_cons, h1, h2, h3]
theorem Run_stuck (h1 : ∀ n, exec S G n L mi (i :: is) ls st h = none) : ¬ Run S G L mi (i :: is) ls st h Q := by
  rintro ⟨n, r, g, e, -⟩
  rw [h1] at e
  cases e
theorem Run_jt {t : Nat} (h1 : pureOp i st = none) (h2 : locOp i ls st = none) (h3 : heapOp S.2.2 G i st h = none) (h4 : jmpA i st = some (some t, st')) : Run S G L mi (i :: is) ls st h Q ↔ Run S G L mi (S.2.1 mi t) ls st' h Q :=
  Run_nx fun n => by rw [exec_cons, h1, h2, h3, h4]
theorem Run_jn (h1 : pureOp i st = none) (h2 : locOp i ls st = none) (h3 : heapOp S.2.2 G i st h = none) (h4 : jmpA i st = some (none, st')) : Run S G L mi (i :: is) ls st h Q ↔ Run S G L mi is ls st' h Q :=
  Run_nx fun n => by rw [exec_cons, h1, h2, h3, h4]
theorem Run_ji {t : Nat} {c : Prop} [Decidable c] (h1 : pureOp i st = none) (h2 : locOp i ls st = none) (h3 : heapOp S.2.2 G i st h = none) (h4 : jmpA i st = some (if c then some t else none, st')) : Run S G L mi (i :: is) ls st h Q ↔ if c then Run S G L mi (S.2.1 mi t) ls st' h Q else Run S G L mi is ls st' h Q := by
  by_cases hc : c
  · rw [if_pos hc]; rw [if_pos hc] at h4; exact Run_jt h1 h2 h3 h4
  · rw [if_neg hc]; rw [if_neg hc] at h4; exact Run_jn h1 h2 h3 h4
theorem Run_ret {r : Option AV} (h1 : pureOp i st = none) (h2 : locOp i ls st = none) (h3 : heapOp S.2.2 G i st h = none) (h4 : jmpA i st = none) (h5 : retA (S.1 mi).2.1 i st = some r) : Run S G L mi (i :: is) ls st h Q ↔ Q r h := by
  have e : ∀ n, exec S G (n + 1) L mi (i :: is) ls st h = some (r, h) := fun n => by rw [exec_cons, h1, h2, h3, h4, h5]
  constructor
  · rintro ⟨n, r', g, e', q⟩
    cases n with
    | zero => simp [exec] at e'
    | succ n => rw [e] at e'; cases e'; exact q
  · intro q
    exact ⟨1, r, h, e 0, q⟩
theorem Run_inv {k : Nat} {as rest : List AV} (h1 : pureOp i st = none) (h2 : locOp i ls st = none) (h3 : heapOp S.2.2 G i st h = none) (h4 : jmpA i st = none) (h5 : retA (S.1 mi).2.1 i st = none) (h6 : invA S G i st h = some (k, as, rest)) :
    Run S G (L + 1) mi (i :: is) ls st h Q ↔ Call S G L k as h (fun r g => Run S G (L + 1) mi is ls (opt2 r rest) g Q) := by
  have e : ∀ n, exec S G (n + 1) (L + 1) mi (i :: is) ls st h = (match exec S G n L k (S.2.1 k 0) (lay0 (S.1 k).2.2.1 as) [] h with
                | some (r, h') => exec S G n (L + 1) mi is ls (opt2 r rest) h'
                | none => none) := fun n => by rw [exec_cons, h1, h2, h3, h4, h5, h6]
  constructor
  · rintro ⟨n, r', g, e', q⟩
    cases n with
    | zero => simp [exec] at e'
    | succ n =>
      rw [e] at e'
      cases h7 : exec S G n L k (S.2.1 k 0) (lay0 (S.1 k).2.2.1 as) [] h with
      | none => rw [h7] at e'; cases e'
      | some y =>
        rw [h7] at e'
        exact ⟨n, y.1, y.2, h7, n, r', g, e', q⟩
  · rintro ⟨n, r, g, e1, n2, r2, g2, e2, q⟩
    refine ⟨n + n2 + 1, r2, g2, ?_, q⟩
    rw [e, exec_le (Nat.le_add_right n n2) e1]
    exact exec_le (Nat.le_add_left n2 n) e2
theorem Run_if {c : Prop} [Decidable c] {A B : Prop} (ht : c → (A ↔ B)) (hf : ¬ c → ¬ A) : A ↔ (c ∧ B) := by
  by_cases hc : c
  · simp [hc, ht hc]
  · simp [hc, hf hc]
theorem Run_heapN (h1 : pureOp i st = none) (h2 : locOp i ls st = none) (h3 : heapOp S.2.2 G i st h = none) (h4 : jmpA i st = none) (h5 : retA (S.1 mi).2.1 i st = none) (h6 : invA S G i st h = none) : ¬ Run S G L mi (i :: is) ls st h Q :=
  Run_stuck fun n => by
    cases n with
    | zero => simp [exec]
    | succ n => rw [exec_cons, h1, h2, h3, h4, h5, h6]
/-- a heap's instruction under its condition -/
theorem Run_hc {c : Prop} [Decidable c] (h1 : pureOp i st = none) (h2 : locOp i ls st = none) (h3 : heapOp S.2.2 G i st h = if c then some (st', h') else none) (h4 : jmpA i st = none) (h5 : retA (S.1 mi).2.1 i st = none) (h6 : invA S G i st h = none) : Run S G L mi (i :: is) ls st h Q ↔ c ∧ Run S G L mi is ls st' h' Q :=
  Run_if (fun hc => by rw [if_pos hc] at h3; exact Run_heap h1 h2 h3) (fun hc => by rw [if_neg hc] at h3; exact Run_heapN h1 h2 h3 h4 h5 h6)
theorem Run_ic {k : Nat} {as rest : List AV} {c : Prop} [Decidable c] (h1 : pureOp i st = none) (h2 : locOp i ls st = none) (h3 : heapOp S.2.2 G i st h = none) (h4 : jmpA i st = none) (h5 : retA (S.1 mi).2.1 i st = none) (h6 : invA S G i st h = if c then some (k, as, rest) else none) :
    Run S G (L + 1) mi (i :: is) ls st h Q ↔ c ∧ Call S G L k as h (fun r g => Run S G (L + 1) mi is ls (opt2 r rest) g Q) :=
  Run_if (fun hc => by rw [if_pos hc] at h6; exact Run_inv h1 h2 h3 h4 h5 h6) (fun hc => by rw [if_neg hc] at h6; exact Run_heapN h1 h2 h3 h4 h5 h6)
theorem Run_mono {Q' : Option AV → AH → Prop} (hq : ∀ r g, Q r g → Q' r g) (hr : Run S G L mi is ls st h Q) : Run S G L mi is ls st h Q' := by
  obtain ⟨n, r, g, e, q⟩ := hr
  exact ⟨n, r, g, e, hq _ _ q⟩
end EX
/-! one row an instruction -/
section RW
variable {S : Sys} {G : GB} {L mi : Nat} {is : List Instr} {ls st : List AV} {h : AH} {Q : Option AV → AH → Prop} {x y : Int} {u v : Int64} {a : Nat} {r : Option Nat}
theorem R_iconst (n : Int) : Run S G L mi (.iconst n :: is) ls st h Q ↔ Run S G L mi is ls (vI n :: st) h Q := Run_pure rfl
theorem R_lc (n : Int) : Run S G L mi (.jsr_w n :: is) ls st h Q ↔ Run S G L mi is ls (vL (Int64.ofInt n) :: st) h Q := Run_pure rfl
theorem R_null : Run S G L mi (.aconst_null :: is) ls st h Q ↔ Run S G L mi is ls (vR none :: st) h Q := Run_pure rfl
theorem R_ldc (n : Nat) : Run S G L mi (.ldc n :: is) ls st h Q ↔ Run S G L mi is ls (vR (some 2) :: st) h Q := Run_pure rfl
theorem R_gets0 : Run S G L mi (.getstatic 0 :: is) ls st h Q ↔ Run S G L mi is ls (vR (some 1) :: st) h Q := Run_pure rfl
theorem R_gets1 : Run S G L mi (.getstatic 1 :: is) ls st h Q ↔ Run S G L mi is ls (vI 1 :: st) h Q := Run_pure rfl
theorem R_objI : Run S G L mi (.monitorexit :: is) ls [vR (some a)] h Q ↔ Run S G L mi is ls [] h Q := Run_pure rfl
theorem R_dupI : Run S G L mi (.dup :: is) ls (vI x :: st) h Q ↔ Run S G L mi is ls (vI x :: vI x :: st) h Q := Run_pure rfl
theorem R_dupR : Run S G L mi (.dup :: is) ls (vR r :: st) h Q ↔ Run S G L mi is ls (vR r :: vR r :: st) h Q := Run_pure rfl
theorem R_popI : Run S G L mi (.pop :: is) ls (vI x :: st) h Q ↔ Run S G L mi is ls st h Q := Run_pure rfl
theorem R_popR : Run S G L mi (.pop :: is) ls (vR r :: st) h Q ↔ Run S G L mi is ls st h Q := Run_pure rfl
theorem R_dup2L : Run S G L mi (.dup2 :: is) ls (vL u :: st) h Q ↔ Run S G L mi is ls (vL u :: vL u :: st) h Q := Run_pure rfl
theorem R_dup2IR : Run S G L mi (.dup2 :: is) ls (vI x :: vR r :: st) h Q ↔ Run S G L mi is ls (vI x :: vR r :: vI x :: vR r :: st) h Q := Run_pure rfl
theorem R_pop2 : Run S G L mi (.pop2 :: is) ls (vL u :: st) h Q ↔ Run S G L mi is ls st h Q := Run_pure rfl
theorem R_i2l : Run S G L mi (.i2l :: is) ls (vI x :: st) h Q ↔ Run S G L mi is ls (vL (Int32.ofInt x).toInt64 :: st) h Q := Run_pure rfl
theorem R_l2i : Run S G L mi (.l2i :: is) ls (vL u :: st) h Q ↔ Run S G L mi is ls (vI u.toInt32.toInt :: st) h Q := Run_pure rfl
theorem R_lneg : Run S G L mi (.lneg :: is) ls (vL u :: st) h Q ↔ Run S G L mi is ls (vL (-u) :: st) h Q := Run_pure rfl
theorem R_lcmp : Run S G L mi (.lcmp :: is) ls (vL v :: vL u :: st) h Q ↔ Run S G L mi is ls (vI (lcmpA u v) :: st) h Q := Run_pure rfl
theorem R_iadd : Run S G L mi (.iadd :: is) ls (vI y :: vI x :: st) h Q ↔ Run S G L mi is ls (vI (w32 (x + y)) :: st) h Q := Run_pure rfl
theorem R_isub : Run S G L mi (.isub :: is) ls (vI y :: vI x :: st) h Q ↔ Run S G L mi is ls (vI (w32 (x - y)) :: st) h Q := Run_pure rfl
theorem R_imul : Run S G L mi (.imul :: is) ls (vI y :: vI x :: st) h Q ↔ Run S G L mi is ls (vI (w32 (x * y)) :: st) h Q := Run_pure rfl
theorem R_iand : Run S G L mi (.iand :: is) ls (vI y :: vI x :: st) h Q ↔ Run S G L mi is ls (vI (Int32.ofInt x &&& Int32.ofInt y).toInt :: st) h Q := Run_pure rfl
theorem R_ior : Run S G L mi (.ior :: is) ls (vI y :: vI x :: st) h Q ↔ Run S G L mi is ls (vI (Int32.ofInt x ||| Int32.ofInt y).toInt :: st) h Q := Run_pure rfl
theorem R_ixor : Run S G L mi (.ixor :: is) ls (vI y :: vI x :: st) h Q ↔ Run S G L mi is ls (vI (Int32.ofInt x ^^^ Int32.ofInt y).toInt :: st) h Q := Run_pure rfl
theorem R_ishl : Run S G L mi (.ishl :: is) ls (vI y :: vI x :: st) h Q ↔ Run S G L mi is ls (vI (Int32.ofInt x <<< (Int32.ofInt y &&& 31)).toInt :: st) h Q := Run_pure rfl
theorem R_ishr : Run S G L mi (.ishr :: is) ls (vI y :: vI x :: st) h Q ↔ Run S G L mi is ls (vI (Int32.ofInt x >>> (Int32.ofInt y &&& 31)).toInt :: st) h Q := Run_pure rfl
theorem R_iushr : Run S G L mi (.iushr :: is) ls (vI y :: vI x :: st) h Q ↔ Run S G L mi is ls (vI ((Int32.ofInt x).toUInt32 >>> ((Int32.ofInt y).toUInt32 &&& Int32.toUInt32 31)).toInt32.toInt :: st) h Q := Run_pure rfl
theorem R_i2b : Run S G L mi (.i2b :: is) ls (vI x :: st) h Q ↔ Run S G L mi is ls (vI (Int32.ofInt x).toInt8.toInt32.toInt :: st) h Q := Run_pure rfl
theorem R_i2c : Run S G L mi (.i2c :: is) ls (vI x :: st) h Q ↔ Run S G L mi is ls (vI ((Int32.ofInt x).toUInt32 % 65536).toInt32.toInt :: st) h Q := Run_pure rfl
theorem R_idiv (hy : y ≠ 0) : Run S G L mi (.idiv :: is) ls (vI y :: vI x :: st) h Q ↔ Run S G L mi is ls (vI (Int32.ofInt x / Int32.ofInt y).toInt :: st) h Q := Run_pure (by simp [pureOp, binI, binL, shL, unI, divI, hy])
theorem R_irem (hy : y ≠ 0) : Run S G L mi (.irem :: is) ls (vI y :: vI x :: st) h Q ↔ Run S G L mi is ls (vI (Int32.ofInt x - Int32.ofInt x / Int32.ofInt y * Int32.ofInt y).toInt :: st) h Q := Run_pure (by simp [pureOp, binI, binL, shL, unI, divI, hy])
theorem R_ladd : Run S G L mi (.ladd :: is) ls (vL v :: vL u :: st) h Q ↔ Run S G L mi is ls (vL (u + v) :: st) h Q := Run_pure rfl
theorem R_lsub : Run S G L mi (.lsub :: is) ls (vL v :: vL u :: st) h Q ↔ Run S G L mi is ls (vL (u - v) :: st) h Q := Run_pure rfl
theorem R_lmul : Run S G L mi (.lmul :: is) ls (vL v :: vL u :: st) h Q ↔ Run S G L mi is ls (vL (u * v) :: st) h Q := Run_pure rfl
theorem R_land : Run S G L mi (.land :: is) ls (vL v :: vL u :: st) h Q ↔ Run S G L mi is ls (vL (u &&& v) :: st) h Q := Run_pure rfl
theorem R_lor : Run S G L mi (.lor :: is) ls (vL v :: vL u :: st) h Q ↔ Run S G L mi is ls (vL (u ||| v) :: st) h Q := Run_pure rfl
theorem R_lxor : Run S G L mi (.lxor :: is) ls (vL v :: vL u :: st) h Q ↔ Run S G L mi is ls (vL (u ^^^ v) :: st) h Q := Run_pure rfl
theorem R_lshl : Run S G L mi (.lshl :: is) ls (vI y :: vL u :: st) h Q ↔ Run S G L mi is ls (vL (u <<< ((Int32.ofInt y).toInt64 &&& 63)) :: st) h Q := Run_pure rfl
theorem R_lushr : Run S G L mi (.lushr :: is) ls (vI y :: vL u :: st) h Q ↔ Run S G L mi is ls (vL (u.toUInt64 >>> ((Int32.ofInt y).toInt64.toUInt64 &&& Int64.toUInt64 63)).toInt64 :: st) h Q := Run_pure rfl
theorem R_ldiv (hy : v ≠ 0) : Run S G L mi (.ldiv :: is) ls (vL v :: vL u :: st) h Q ↔ Run S G L mi is ls (vL (u / v) :: st) h Q := Run_pure (by simp [pureOp, binI, binL, shL, unI, divI, divL, hy])
theorem R_lrem (hy : v ≠ 0) : Run S G L mi (.lrem :: is) ls (vL v :: vL u :: st) h Q ↔ Run S G L mi is ls (vL (u - u / v * v) :: st) h Q := Run_pure (by simp [pureOp, binI, binL, shL, unI, divI, divL, hy])
theorem R_goto (t : Int) : Run S G L mi (.goto t :: is) ls st h Q ↔ Run S G L mi (S.2.1 mi t.toNat) ls st h Q := Run_jt rfl rfl rfl rfl
theorem R_gotow (t : Int) : Run S G L mi (.goto_w t :: is) ls st h Q ↔ Run S G L mi (S.2.1 mi t.toNat) ls st h Q := Run_jt rfl rfl rfl rfl
theorem R_ifnullN (t : Int) : Run S G L mi (.ifnull t :: is) ls (vR none :: st) h Q ↔ Run S G L mi (S.2.1 mi t.toNat) ls st h Q := Run_jt rfl rfl rfl rfl
theorem R_ifnullS (t : Int) : Run S G L mi (.ifnull t :: is) ls (vR (some a) :: st) h Q ↔ Run S G L mi is ls st h Q := Run_jn rfl rfl rfl rfl
theorem R_ifnonN (t : Int) : Run S G L mi (.ifnonnull t :: is) ls (vR none :: st) h Q ↔ Run S G L mi is ls st h Q := Run_jn rfl rfl rfl rfl
theorem R_ifnonS (t : Int) : Run S G L mi (.ifnonnull t :: is) ls (vR (some a) :: st) h Q ↔ Run S G L mi (S.2.1 mi t.toNat) ls st h Q := Run_jt rfl rfl rfl rfl
theorem Run_jd {t : Nat} {i : Instr} {st' : List AV} {c : Prop} [Decidable c] (h1 : pureOp i st = none) (h2 : locOp i ls st = none) (h3 : heapOp S.2.2 G i st h = none) (h4 : jmpA i st = some (if decide c = true then some t else none, st')) : Run S G L mi (i :: is) ls st h Q ↔ if c then Run S G L mi (S.2.1 mi t) ls st' h Q else Run S G L mi is ls st' h Q := by
  have := Run_ji (L := L) (mi := mi) (Q := Q) (is := is) h1 h2 h3 h4
  simpa only [decide_eq_true_eq] using this
theorem R_ifeq (t : Int) : Run S G L mi (.ifCond .eq t :: is) ls (vI x :: st) h Q ↔ if x = 0 then Run S G L mi (S.2.1 mi t.toNat) ls st h Q else Run S G L mi is ls st h Q := Run_jd rfl rfl rfl rfl
theorem R_ifne (t : Int) : Run S G L mi (.ifCond .ne t :: is) ls (vI x :: st) h Q ↔ if ¬ x = 0 then Run S G L mi (S.2.1 mi t.toNat) ls st h Q else Run S G L mi is ls st h Q := Run_jd rfl rfl rfl rfl
theorem R_iflt (t : Int) : Run S G L mi (.ifCond .lt t :: is) ls (vI x :: st) h Q ↔ if x < 0 then Run S G L mi (S.2.1 mi t.toNat) ls st h Q else Run S G L mi is ls st h Q := Run_jd rfl rfl rfl rfl
theorem R_ifge (t : Int) : Run S G L mi (.ifCond .ge t :: is) ls (vI x :: st) h Q ↔ if 0 ≤ x then Run S G L mi (S.2.1 mi t.toNat) ls st h Q else Run S G L mi is ls st h Q := Run_jd rfl rfl rfl rfl
theorem R_ifgt (t : Int) : Run S G L mi (.ifCond .gt t :: is) ls (vI x :: st) h Q ↔ if 0 < x then Run S G L mi (S.2.1 mi t.toNat) ls st h Q else Run S G L mi is ls st h Q := Run_jd rfl rfl rfl rfl
theorem R_ifle (t : Int) : Run S G L mi (.ifCond .le t :: is) ls (vI x :: st) h Q ↔ if x ≤ 0 then Run S G L mi (S.2.1 mi t.toNat) ls st h Q else Run S G L mi is ls st h Q := Run_jd rfl rfl rfl rfl
theorem R_icmpeq (t : Int) : Run S G L mi (.if_icmp .eq t :: is) ls (vI y :: vI x :: st) h Q ↔ if x = y then Run S G L mi (S.2.1 mi t.toNat) ls st h Q else Run S G L mi is ls st h Q := Run_jd rfl rfl rfl rfl
theorem R_icmpne (t : Int) : Run S G L mi (.if_icmp .ne t :: is) ls (vI y :: vI x :: st) h Q ↔ if ¬ x = y then Run S G L mi (S.2.1 mi t.toNat) ls st h Q else Run S G L mi is ls st h Q := Run_jd rfl rfl rfl rfl
theorem R_icmplt (t : Int) : Run S G L mi (.if_icmp .lt t :: is) ls (vI y :: vI x :: st) h Q ↔ if x < y then Run S G L mi (S.2.1 mi t.toNat) ls st h Q else Run S G L mi is ls st h Q := Run_jd rfl rfl rfl rfl
theorem R_icmpge (t : Int) : Run S G L mi (.if_icmp .ge t :: is) ls (vI y :: vI x :: st) h Q ↔ if y ≤ x then Run S G L mi (S.2.1 mi t.toNat) ls st h Q else Run S G L mi is ls st h Q := Run_jd rfl rfl rfl rfl
theorem R_icmpgt (t : Int) : Run S G L mi (.if_icmp .gt t :: is) ls (vI y :: vI x :: st) h Q ↔ if y < x then Run S G L mi (S.2.1 mi t.toNat) ls st h Q else Run S G L mi is ls st h Q := Run_jd rfl rfl rfl rfl
theorem R_icmple (t : Int) : Run S G L mi (.if_icmp .le t :: is) ls (vI y :: vI x :: st) h Q ↔ if x ≤ y then Run S G L mi (S.2.1 mi t.toNat) ls st h Q else Run S G L mi is ls st h Q := Run_jd rfl rfl rfl rfl
theorem R_tsw (d lo hi : Int) (os : Array Int) : Run S G L mi (.tableswitch d lo hi os :: is) ls (vI x :: st) h Q ↔ Run S G L mi (S.2.1 mi (swA d lo os.toList x).toNat) ls st h Q := Run_jt rfl rfl rfl rfl
theorem R_lsw (d : Int) (ps : Array (Int × Int)) : Run S G L mi (.lookupswitch d ps :: is) ls (vI x :: st) h Q ↔ Run S G L mi (S.2.1 mi (lkA d ps.toList x).toNat) ls st h Q := Run_jt rfl rfl rfl rfl
theorem R_alen : Run S G L mi (.arraylength :: is) ls (vR (some a) :: st) h Q ↔ (20 ≤ (knd G h a).1 ∧ (knd G h a).1 < 50) ∧ Run S G L mi is ls (vI ((knd G h a).2 : Nat) :: st) h Q := Run_hc rfl rfl rfl rfl rfl rfl
theorem R_iald : Run S G L mi (.iaload :: is) ls (vI x :: vR (some a) :: st) h Q ↔ ((knd G h a).1 = 20 ∧ inA x (knd G h a).2 = true) ∧ Run S G L mi is ls (vI (rdI h a x.toNat) :: st) h Q := Run_hc rfl rfl rfl rfl rfl rfl
theorem R_bald : Run S G L mi (.baload :: is) ls (vI x :: vR (some a) :: st) h Q ↔ (((knd G h a).1 = 22 ∨ (knd G h a).1 = 23) ∧ inA x (knd G h a).2 = true) ∧ Run S G L mi is ls (vI (rdI h a x.toNat) :: st) h Q := Run_hc rfl rfl rfl rfl rfl rfl
theorem R_lald : Run S G L mi (.laload :: is) ls (vI x :: vR (some a) :: st) h Q ↔ ((knd G h a).1 = 21 ∧ inA x (knd G h a).2 = true) ∧ Run S G L mi is ls (vL (rdL h a x.toNat) :: st) h Q := Run_hc rfl rfl rfl rfl rfl rfl
theorem R_aald : Run S G L mi (.aaload :: is) ls (vI x :: vR (some a) :: st) h Q ↔ (24 ≤ (knd G h a).1 ∧ (knd G h a).1 < 50 ∧ inA x (knd G h a).2 = true) ∧ Run S G L mi is ls (vR (rdR G h a x.toNat) :: st) h Q := Run_hc rfl rfl rfl rfl rfl rfl
theorem R_iast : Run S G L mi (.iastore :: is) ls (vI y :: vI x :: vR (some a) :: st) h Q ↔ ((knd G h a).1 = 20 ∧ G.2.2 a = true ∧ inA x (knd G h a).2 = true) ∧ Run S G L mi is ls st (wrI h a x.toNat y) Q := Run_hc rfl rfl rfl rfl rfl rfl
theorem R_last : Run S G L mi (.lastore :: is) ls (vL u :: vI x :: vR (some a) :: st) h Q ↔ ((knd G h a).1 = 21 ∧ G.2.2 a = true ∧ inA x (knd G h a).2 = true) ∧ Run S G L mi is ls st (wrL h a x.toNat u) Q := Run_hc rfl rfl rfl rfl rfl rfl
theorem R_bastB (hk : (knd G h a).1 = 22) : Run S G L mi (.bastore :: is) ls (vI y :: vI x :: vR (some a) :: st) h Q ↔ (G.2.2 a = true ∧ inA x (knd G h a).2 = true) ∧ Run S G L mi is ls st (wrI h a x.toNat (Int32.ofInt y).toInt8.toInt32.toInt) Q := Run_hc rfl rfl (by simp [heapOp, hk]) rfl rfl rfl
theorem R_bastZ (hk : (knd G h a).1 = 23) : Run S G L mi (.bastore :: is) ls (vI y :: vI x :: vR (some a) :: st) h Q ↔ (G.2.2 a = true ∧ inA x (knd G h a).2 = true ∧ isZ y = true) ∧ Run S G L mi is ls st (wrI h a x.toNat y) Q := Run_hc rfl rfl (by simp [heapOp, hk, and_assoc]; grind) rfl rfl rfl
theorem R_aast {y : Nat} : Run S G L mi (.aastore :: is) ls (vR (some y) :: vI x :: vR (some a) :: st) h Q ↔ (24 ≤ (knd G h a).1 ∧ (knd G h a).1 < 36 ∧ G.2.2 a = true ∧ inA x (knd G h a).2 = true ∧ G.1 a x.toNat = none ∧ (knd G h y).1 + 24 = (knd G h a).1) ∧ Run S G L mi is ls st (wrR h a x.toNat (some y)) Q := Run_hc rfl rfl rfl rfl rfl rfl
theorem R_bast : Run S G L mi (.bastore :: is) ls (vI y :: vI x :: vR (some a) :: st) h Q ↔ (((knd G h a).1 = 22 ∧ G.2.2 a = true ∧ inA x (knd G h a).2 = true) ∧ Run S G L mi is ls st (wrI h a x.toNat (Int32.ofInt y).toInt8.toInt32.toInt) Q) ∨ (((knd G h a).1 = 23 ∧ G.2.2 a = true ∧ inA x (knd G h a).2 = true ∧ isZ y = true) ∧ Run S G L mi is ls st (wrI h a x.toNat y) Q) := by
  by_cases h1 : (knd G h a).1 = 22
  · rw [R_bastB h1, h1]; simp
  · by_cases h2 : (knd G h a).1 = 23
    · rw [R_bastZ h2, h2]; simp
    · simp only [h1, h2, false_and, or_false, iff_false]
      exact Run_heapN rfl rfl (by simp [heapOp, h1, h2]) rfl rfl rfl
theorem R_new (c : Nat) : Run S G L mi (.new c :: is) ls st h Q ↔ (G.2.1 (hpN h) = none ∧ c < 20) ∧ Run S G L mi is ls (vR (some (hpN h)) :: st) (hpA h (c, S.2.2 c)) Q := Run_hc rfl rfl rfl rfl rfl rfl
theorem R_newI : Run S G L mi (.newarray .int :: is) ls (vI x :: st) h Q ↔ (G.2.1 (hpN h) = none ∧ inA x 100000 = true) ∧ Run S G L mi is ls (vR (some (hpN h)) :: st) (hpA h (20, x.toNat)) Q := Run_hc rfl rfl rfl rfl rfl rfl
theorem R_gf (c : Nat) : Run S G L mi (.getfield c :: is) ls (vR (some a) :: st) h Q ↔ (knd G h a).1 = c / 1000 ∧ Run S G L mi is ls (gfA G h a (c / 10 % 100) (c % 10) :: st) h Q := Run_hc rfl rfl rfl rfl rfl rfl
theorem R_pfI (c : Nat) (hc : c % 10 = 0) : Run S G L mi (.putfield c :: is) ls (vI x :: vR (some a) :: st) h Q ↔ ((knd G h a).1 = c / 1000 ∧ G.2.2 a = true) ∧ Run S G L mi is ls st (wrI h a (c / 10 % 100) x) Q := Run_hc rfl rfl (by simp [heapOp, hc]) rfl rfl rfl
theorem R_pfZ (c : Nat) (hc : c % 10 = 3) : Run S G L mi (.putfield c :: is) ls (vI x :: vR (some a) :: st) h Q ↔ ((knd G h a).1 = c / 1000 ∧ G.2.2 a = true ∧ isZ x = true) ∧ Run S G L mi is ls st (wrI h a (c / 10 % 100) x) Q := Run_hc rfl rfl (by simp [heapOp, hc, and_assoc]; grind) rfl rfl rfl
theorem R_pfL (c : Nat) (hc : c % 10 = 1) : Run S G L mi (.putfield c :: is) ls (vL u :: vR (some a) :: st) h Q ↔ ((knd G h a).1 = c / 1000 ∧ G.2.2 a = true) ∧ Run S G L mi is ls st (wrL h a (c / 10 % 100) u) Q := Run_hc rfl rfl (by simp [heapOp, hc]) rfl rfl rfl
theorem R_pfR (c : Nat) (hc : c % 10 = 2) : Run S G L mi (.putfield c :: is) ls (vR r :: vR (some a) :: st) h Q ↔ ((knd G h a).1 = c / 1000 ∧ G.2.2 a = true ∧ G.1 a (c / 10 % 100) = none) ∧ Run S G L mi is ls st (wrR h a (c / 10 % 100) r) Q := Run_hc rfl rfl (by simp [heapOp, hc, and_assoc]; grind) rfl rfl rfl
theorem gfA_0 {k : Nat} : gfA G h a k 0 = vI (rdI h a k) := rfl
theorem gfA_1 {k : Nat} : gfA G h a k 1 = vL (rdL h a k) := rfl
theorem gfA_2 {k : Nat} : gfA G h a k 2 = vR (rdR G h a k) := rfl
theorem gfA_3 {k : Nat} : gfA G h a k 3 = vI (rdI h a k) := rfl
theorem isZ_0 : isZ 0 = true := rfl
theorem isZ_1 : isZ 1 = true := rfl
theorem isZ_ite {c : Prop} [Decidable c] : isZ (if c then 1 else 0) = true := by split <;> rfl
theorem opt2_s {w : AV} : opt2 (some w) st = w :: st := rfl
theorem opt2_n : opt2 none st = st := rfl
theorem R_iret (hm : (S.1 mi).2.1 = 0) : Run S G L mi (.ireturn :: is) ls [vI x] h Q ↔ Q (some (vI x)) h := Run_ret rfl rfl rfl rfl (by rw [hm]; rfl)
theorem R_zret (hm : (S.1 mi).2.1 = 4) : Run S G L mi (.ireturn :: is) ls [vI x] h Q ↔ isZ x = true ∧ Q (some (vI x)) h :=
  Run_if (fun hc => Run_ret rfl rfl rfl rfl (by rw [hm]; simp [retA, hc])) (fun hc => Run_heapN rfl rfl rfl rfl (by rw [hm]; simp [retA, hc]) rfl)
theorem R_bret (hm : (S.1 mi).2.1 = 5) : Run S G L mi (.ireturn :: is) ls [vI x] h Q ↔ inA (x + 128) 256 = true ∧ Q (some (vI x)) h :=
  Run_if (fun hc => Run_ret rfl rfl rfl rfl (by rw [hm]; simp [retA, hc])) (fun hc => Run_heapN rfl rfl rfl rfl (by rw [hm]; simp [retA, hc]) rfl)
theorem R_lret (hm : (S.1 mi).2.1 = 1) : Run S G L mi (.lreturn :: is) ls [vL u] h Q ↔ Q (some (vL u)) h := Run_ret rfl rfl rfl rfl (by rw [hm]; rfl)
theorem R_aret (hm : (S.1 mi).2.1 = 2) : Run S G L mi (.areturn :: is) ls [vR r] h Q ↔ Q (some (vR r)) h := Run_ret rfl rfl rfl rfl (by rw [hm]; rfl)
theorem R_vret (hm : (S.1 mi).2.1 = 3) : Run S G L mi (.return_ :: is) ls [] h Q ↔ Q none h := Run_ret rfl rfl rfl rfl (by rw [hm]; rfl)
end RW
/-! reading behind writing -/
section RD
variable {h : AH} {a b j k : Nat} {x : Int} {u : Int64} {r : Option Nat} {K : Nat × Nat} {G : GB}
theorem rdI_wrI : rdI (wrI h a k x) b j = if b = a ∧ j = k then x else rdI h b j := rfl
theorem rdI_wrL : rdI (wrL h a k u) b j = rdI h b j := rfl
theorem rdI_wrR : rdI (wrR h a k r) b j = rdI h b j := rfl
theorem rdI_hpA : rdI (hpA h K) b j = if b = hpN h then 0 else rdI h b j := rfl
theorem rdL_wrI : rdL (wrI h a k x) b j = rdL h b j := rfl
theorem rdL_wrL : rdL (wrL h a k u) b j = if b = a ∧ j = k then u else rdL h b j := rfl
theorem rdL_wrR : rdL (wrR h a k r) b j = rdL h b j := rfl
theorem rdL_hpA : rdL (hpA h K) b j = if b = hpN h then 0 else rdL h b j := rfl
theorem rdQ_wrI : rdQ (wrI h a k x) b j = rdQ h b j := rfl
theorem rdQ_wrL : rdQ (wrL h a k u) b j = rdQ h b j := rfl
theorem rdQ_wrR : rdQ (wrR h a k r) b j = if b = a ∧ j = k then r else rdQ h b j := rfl
theorem rdQ_hpA : rdQ (hpA h K) b j = if b = hpN h then none else rdQ h b j := rfl
theorem rdR_wrI : rdR G (wrI h a k x) b j = rdR G h b j := rfl
theorem rdR_wrL : rdR G (wrL h a k u) b j = rdR G h b j := rfl
theorem knd_wrI : knd G (wrI h a k x) b = knd G h b := rfl
theorem knd_wrL : knd G (wrL h a k u) b = knd G h b := rfl
theorem knd_wrR : knd G (wrR h a k r) b = knd G h b := rfl
theorem hpN_wrI : hpN (wrI h a k x) = hpN h := rfl
theorem hpN_wrL : hpN (wrL h a k u) = hpN h := rfl
theorem hpN_wrR : hpN (wrR h a k r) = hpN h := rfl
theorem hpN_hpA : hpN (hpA h K) = hpN h + 1 := rfl
theorem hpS_wrI : hpS (wrI h a k x) = hpS h := rfl
theorem hpS_wrL : hpS (wrL h a k u) = hpS h := rfl
theorem hpS_wrR : hpS (wrR h a k r) = hpS h := rfl
theorem hpS_hpA : hpS (hpA h K) = hpS h + K.2 := rfl
theorem w32_id {z : Int} (h1 : -2147483648 ≤ z) (h2 : z < 2147483648) : w32 z = z := Int32.toInt_ofInt_of_le h1 h2
end RD
