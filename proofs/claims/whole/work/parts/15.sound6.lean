/-! the heap's instructions: writing -/
theorem isArr_set {U : State} {cell : Cell} {ty : FieldType} (h : U.isArrayOf cell ty) (k : Nat) (v : Value) : U.isArrayOf (cell.setSlot k v) ty := by
  obtain ⟨h1, h2⟩ := h
  exact ⟨h1, h2⟩
theorem set_size (cell : Cell) (k : Nat) (v : Value) : (cell.setSlot k v).slots.size = cell.slots.size := by simp [Cell.setSlot]
theorem set_self (cell : Cell) {k : Nat} (v : Value) (hk : k < cell.slots.size) : (cell.setSlot k v).slots[k]? = some v := by
  simp [Cell.setSlot, hk]
theorem set_ne (cell : Cell) {k j : Nat} (v : Value) (hj : j ≠ k) : (cell.setSlot k v).slots[j]? = cell.slots[j]? := by
  simp only [Cell.setSlot]
  rw [Array.getElem?_setIfInBounds_ne (Ne.symm hj)]
section S6
variable {p : Program} {l : Launch} {e : Env} {R : Room} {s : State} {m : MethodId} {args : Array Value} {below : List Frame} {meth : Method} {c : Code} {H : Heap} {locs : List Loc} {cells slots : Nat} {Q : State → Prop}
variable {cc : ByteArray} {pc o len : Nat} {ini : Bool} {lo : List Nat} {rl : Array Slot} {rest : List Value} {tr : Nat → Nat} {i r : Instr} {G : GB} {D : va_G} {B : Nat} {H0 : Heap} {h : AH} {a : Nat} {x y : Int}
/-- an array's cell behind a store -/
theorem CRa.set {h' : AH} {H' : Heap} {cell : Cell} {j : Nat} {v : Value} (h1 : H'[tr a]? = some (cell.setSlot j v)) (h2 : s.isArrayOf cell (aty (knd G h a).1)) (h3 : cell.vm ≠ .unknown) (h4 : (knd G h a).2 ≤ cell.slots.size) (h5 : cell.slots.size.toInt32 = Int32.ofNat (knd G h a).2) (h6 : (knd G h a).2 < 2147483648) (h7 : ∀ j, j < (knd G h a).2 → cell.slots[j]? = some (avalV G tr h (knd G h a).1 a j))
    (h8 : 24 ≤ (knd G h a).1 → ∃ (kA : Class) (comp : ClassId), s.vm.classes[cell.cls]? = some kA ∧ kA.kind = .array comp (aty (knd G h a).1) ∧ s.vm.findClass (ownS ((knd G h a).1 - 24)) = some comp) (hj : j < (knd G h a).2) (hk : knd G h' a = knd G h a) (hv : avalV G tr h' (knd G h a).1 a j = v) (hv2 : ∀ b, b ≠ j → avalV G tr h' (knd G h a).1 a b = avalV G tr h (knd G h a).1 a b) : CRa G tr s h' H' a := by
  refine ⟨_, h1, by rw [hk]; exact isArr_set h2 _ _, h3, by rw [hk, set_size]; exact h4, by rw [hk, set_size]; exact h5, by rw [hk]; exact h6, fun b hb => ?_, by rw [hk]; exact h8⟩
  rw [hk] at hb ⊢
  by_cases e : b = j
  · subst e
    rw [set_self _ _ (by omega), hv]
  · rw [set_ne _ _ e, h7 b hb, hv2 b e]
theorem wrI_ne {b k j : Nat} {v : Int} (hb : b ≠ a) : rdI (wrI h a k v) b j = rdI h b j ∧ rdL (wrI h a k v) b j = rdL h b j ∧ rdR G (wrI h a k v) b j = rdR G h b j := ⟨by rw [rdI_wrI, if_neg (fun q => hb q.1)], rfl, rfl⟩
theorem wrL_ne {b k j : Nat} {v : Int64} (hb : b ≠ a) : rdI (wrL h a k v) b j = rdI h b j ∧ rdL (wrL h a k v) b j = rdL h b j ∧ rdR G (wrL h a k v) b j = rdR G h b j := ⟨rfl, by rw [rdL_wrL, if_neg (fun q => hb q.1)], rfl⟩
theorem rdR_wrR {b k j : Nat} {v : Option Nat} (hg : G.1 a k = none) : rdR G (wrR h a k v) b j = if b = a ∧ j = k then v else rdR G h b j := by
  unfold rdR
  by_cases e : b = a ∧ j = k
  · obtain ⟨rfl, rfl⟩ := e
    rw [hg]
    simp [rdQ, wrR]
  · rw [if_neg e]
    cases G.1 b j with
    | some q => rfl
    | none => simp [rdQ, wrR, e]
theorem wrR_ne {b k j : Nat} {v : Option Nat} (hg : G.1 a k = none) (hb : b ≠ a) : rdI (wrR h a k v) b j = rdI h b j ∧ rdL (wrR h a k v) b j = rdL h b j ∧ rdR G (wrR h a k v) b j = rdR G h b j := ⟨rfl, rfl, by rw [rdR_wrR hg, if_neg (fun q => hb q.1)]⟩
theorem wrI_in {k : Nat} (hi : ∀ a k, inr (rdI h a k)) (hx : inr x) (b j : Nat) : inr (rdI (wrI h a k x) b j) := by
  rw [rdI_wrI]
  split
  · exact hx
  · exact hi b j
theorem HR.in (hh : HR G tr D B H0 s h H) : ∀ a k, inr (rdI h a k) := hh.2.2.2.2.2.2
theorem A_tr (ht : trOK tr B) (ha : 4 ≤ a) : (fun q => B ≤ q) (tr a) := by
  show B ≤ tr a
  rw [tr_ge ht ha]; omega
theorem sh_iast (C : p.tables.exec = Jvm.exec ∧ c.code = cc) (ht : trOK tr B) (hh : HR G tr D B H0 s h H) (hS : va_S (fun q => B ≤ q) s.heap H locs) (ha : 4 ≤ a) (hk : (knd G h a).1 = 20) (hi : inA x (knd G h a).2 = true) (hy : inr y) (hd : decode cc pc = .ok (.iastore, 1))
    (k : ∀ H' locs', HR G tr D B H0 s (wrI h a x.toNat y) H' → va_S (fun q => B ≤ q) s.heap H' locs' → W p l e R s m args below meth c H' locs' cells slots Q (F0 m (pc + 1) rl rest)) : W p l e R s m args below meth c H locs cells slots Q (F0 m pc rl (.int (Int32.ofInt y) :: .int (Int32.ofInt x) :: .ref (tr a) :: rest)) := by
  obtain ⟨cell, h1, h2, h3, h4, h5, h6, h7, h8⟩ := hh.2.2.2.2.1 a (by omega) (by omega)
  obtain ⟨i1, i2⟩ := inA_iff.mp hi
  refine W.iast C.1 C.2 h1 (by rw [hk] at h2; exact h2) h3 (in_oi i1 i2 h6 h4) (g := F0 m pc rl (.int (Int32.ofInt y) :: .int (Int32.ofInt x) :: .ref (tr a) :: rest)) rfl rfl hd (fun H' e1 e2 e3 => ?_)
  rw [cl_oi i1 i2 h6] at e1 ⊢
  refine k H' _ (hh.wr ht ha (fun _ => rfl) rfl (fun b j hb => wrI_ne hb) (fun j => wrI_in hh.in hy a j) e2 e3 (fun q => by omega) (fun _ _ => ?_)) (hS.put e2 e3 (A_tr ht ha))
  refine CRa.set e1 h2 h3 h4 h5 h6 h7 h8 (by omega) rfl ?_ (fun b hb => ?_)
  · rw [hk]; unfold avalV; rw [if_neg (by omega), if_neg (by omega), rdI_wrI, if_pos ⟨rfl, rfl⟩]
  · rw [hk]; unfold avalV; rw [if_neg (by omega), if_neg (by omega), if_neg (by omega), if_neg (by omega), rdI_wrI, if_neg (fun q => hb q.2)]
theorem nar_byte (z : Int32) : narrow .byte (.int z) = .int z.toInt8.toInt32 := by
  have := vp_nar_byte z
  unfold vp_nar at this
  cases hz : narrow .byte (.int z) with
  | int w => rw [hz] at this; simp only at this; rw [this]
  | _ => simp [narrow] at hz
theorem isZ_iff {x : Int} : isZ x = true ↔ x = 0 ∨ x = 1 := by simp [isZ]
theorem nar_bool {x : Int} (h : isZ x = true) : narrow .boolean (.int (Int32.ofInt x)) = .int (Int32.ofInt x) := by
  rcases isZ_iff.mp h with rfl | rfl <;> decide +kernel
theorem sh_bast (C : p.tables.exec = Jvm.exec ∧ c.code = cc) (ht : trOK tr B) (hh : HR G tr D B H0 s h H) (hS : va_S (fun q => B ≤ q) s.heap H locs) (ha : 4 ≤ a) (hk : (knd G h a).1 = 22) (hi : inA x (knd G h a).2 = true) (hd : decode cc pc = .ok (.bastore, 1))
    (k : ∀ H' locs', HR G tr D B H0 s (wrI h a x.toNat (Int32.ofInt y).toInt8.toInt32.toInt) H' → va_S (fun q => B ≤ q) s.heap H' locs' → W p l e R s m args below meth c H' locs' cells slots Q (F0 m (pc + 1) rl rest)) : W p l e R s m args below meth c H locs cells slots Q (F0 m pc rl (.int (Int32.ofInt y) :: .int (Int32.ofInt x) :: .ref (tr a) :: rest)) := by
  obtain ⟨cell, h1, h2, h3, h4, h5, h6, h7, h8⟩ := hh.2.2.2.2.1 a (by omega) (by omega)
  obtain ⟨i1, i2⟩ := inA_iff.mp hi
  refine W.bast C.1 C.2 h1 (by rw [hk] at h2; exact h2) h3 (in_oi i1 i2 h6 h4) (g := F0 m pc rl (.int (Int32.ofInt y) :: .int (Int32.ofInt x) :: .ref (tr a) :: rest)) rfl rfl hd (fun H' e1 e2 e3 => ?_)
  rw [cl_oi i1 i2 h6] at e1 ⊢
  rw [nar_byte] at e1
  refine k H' _ (hh.wr ht ha (fun _ => rfl) rfl (fun b j hb => wrI_ne hb) (fun j => wrI_in hh.in (inr_to _) a j) e2 e3 (fun q => by omega) (fun _ _ => ?_)) (hS.put e2 e3 (A_tr ht ha))
  refine CRa.set e1 h2 h3 h4 h5 h6 h7 h8 (by omega) rfl ?_ (fun b hb => ?_)
  · rw [hk]; unfold avalV; rw [if_neg (by omega), if_neg (by omega), rdI_wrI, if_pos ⟨rfl, rfl⟩, oi_to]
  · rw [hk]; unfold avalV; rw [if_neg (by omega), if_neg (by omega), if_neg (by omega), if_neg (by omega), rdI_wrI, if_neg (fun q => hb q.2)]
theorem sh_zast (C : p.tables.exec = Jvm.exec ∧ c.code = cc) (ht : trOK tr B) (hh : HR G tr D B H0 s h H) (hS : va_S (fun q => B ≤ q) s.heap H locs) (ha : 4 ≤ a) (hk : (knd G h a).1 = 23) (hi : inA x (knd G h a).2 = true) (hz : isZ y = true) (hd : decode cc pc = .ok (.bastore, 1))
    (k : ∀ H' locs', HR G tr D B H0 s (wrI h a x.toNat y) H' → va_S (fun q => B ≤ q) s.heap H' locs' → W p l e R s m args below meth c H' locs' cells slots Q (F0 m (pc + 1) rl rest)) : W p l e R s m args below meth c H locs cells slots Q (F0 m pc rl (.int (Int32.ofInt y) :: .int (Int32.ofInt x) :: .ref (tr a) :: rest)) := by
  obtain ⟨cell, h1, h2, h3, h4, h5, h6, h7, h8⟩ := hh.2.2.2.2.1 a (by omega) (by omega)
  obtain ⟨i1, i2⟩ := inA_iff.mp hi
  refine W.zast C.1 C.2 h1 (by rw [hk] at h2; exact h2) h3 (in_oi i1 i2 h6 h4) (g := F0 m pc rl (.int (Int32.ofInt y) :: .int (Int32.ofInt x) :: .ref (tr a) :: rest)) rfl rfl hd (fun H' e1 e2 e3 => ?_)
  rw [cl_oi i1 i2 h6] at e1 ⊢
  rw [nar_bool hz] at e1
  have hy : inr y := by rcases isZ_iff.mp hz with rfl | rfl <;> exact ⟨by decide, by decide⟩
  refine k H' _ (hh.wr ht ha (fun _ => rfl) rfl (fun b j hb => wrI_ne hb) (fun j => wrI_in hh.in hy a j) e2 e3 (fun q => by omega) (fun _ _ => ?_)) (hS.put e2 e3 (A_tr ht ha))
  refine CRa.set e1 h2 h3 h4 h5 h6 h7 h8 (by omega) rfl ?_ (fun b hb => ?_)
  · rw [hk]; unfold avalV; rw [if_neg (by omega), if_neg (by omega), rdI_wrI, if_pos ⟨rfl, rfl⟩]
  · rw [hk]; unfold avalV; rw [if_neg (by omega), if_neg (by omega), if_neg (by omega), if_neg (by omega), rdI_wrI, if_neg (fun q => hb q.2)]
theorem sh_last (C : p.tables.exec = Jvm.exec ∧ c.code = cc) (ht : trOK tr B) (hh : HR G tr D B H0 s h H) (hS : va_S (fun q => B ≤ q) s.heap H locs) (ha : 4 ≤ a) (hk : (knd G h a).1 = 21) (hi : inA x (knd G h a).2 = true) {u : Int64} (hd : decode cc pc = .ok (.lastore, 1))
    (k : ∀ H' locs', HR G tr D B H0 s (wrL h a x.toNat u) H' → va_S (fun q => B ≤ q) s.heap H' locs' → W p l e R s m args below meth c H' locs' cells slots Q (F0 m (pc + 1) rl rest)) : W p l e R s m args below meth c H locs cells slots Q (F0 m pc rl (.long u :: .int (Int32.ofInt x) :: .ref (tr a) :: rest)) := by
  obtain ⟨cell, h1, h2, h3, h4, h5, h6, h7, h8⟩ := hh.2.2.2.2.1 a (by omega) (by omega)
  obtain ⟨i1, i2⟩ := inA_iff.mp hi
  refine W.last C.1 C.2 h1 (by rw [hk] at h2; exact h2) h3 (in_oi i1 i2 h6 h4) (g := F0 m pc rl (.long u :: .int (Int32.ofInt x) :: .ref (tr a) :: rest)) rfl rfl hd (fun H' e1 e2 e3 => ?_)
  rw [cl_oi i1 i2 h6] at e1 ⊢
  refine k H' _ (hh.wr ht ha (fun _ => rfl) rfl (fun b j hb => wrL_ne hb) (fun j => hh.in a j) e2 e3 (fun q => by omega) (fun _ _ => ?_)) (hS.put e2 e3 (A_tr ht ha))
  refine CRa.set e1 h2 h3 h4 h5 h6 h7 h8 (by omega) rfl ?_ (fun b hb => ?_)
  · rw [hk]; unfold avalV; rw [if_pos rfl, rdL_wrL, if_pos ⟨rfl, rfl⟩]
  · rw [hk]; unfold avalV; rw [if_pos rfl, if_pos rfl, rdL_wrL, if_neg (fun q => hb q.2)]
theorem sh_aast (C : p.tables.exec = Jvm.exec ∧ c.code = cc) (hSP : SP tr D B H0 s) (ht : trOK tr B) (hh : HR G tr D B H0 s h H) (hS : va_S (fun q => B ≤ q) s.heap H locs) (ha : 4 ≤ a) (hk : 24 ≤ (knd G h a).1) (hk2 : (knd G h a).1 < 50) (hi : inA x (knd G h a).2 = true) (hg : G.1 a x.toNat = none) {v : Nat} (hv : (knd G h v).1 + 24 = (knd G h a).1) (hv2 : (knd G h v).1 < 12) (hd : decode cc pc = .ok (.aastore, 1))
    (k : ∀ H' locs', HR G tr D B H0 s (wrR h a x.toNat (some v)) H' → va_S (fun q => B ≤ q) s.heap H' locs' → W p l e R s m args below meth c H' locs' cells slots Q (F0 m (pc + 1) rl rest)) : W p l e R s m args below meth c H locs cells slots Q (F0 m pc rl (.ref (tr v) :: .int (Int32.ofInt x) :: .ref (tr a) :: rest)) := by
  obtain ⟨cell, h1, h2, h3, h4, h5, h6, h7, h8⟩ := hh.2.2.2.2.1 a (by omega) (by omega)
  obtain ⟨i1, i2⟩ := inA_iff.mp hi
  obtain ⟨kA, comp, g1, g2, g3⟩ := h8 hk
  obtain ⟨q, f1, cv, f2, f3, f4, -⟩ := hh.2.2.1 v hv2
  obtain ⟨-, hfc, kC, hkC, -⟩ := hSP.1.1 _ _ f1
  have hcomp : comp = D.1 (knd G h v).1 := by
    rw [show (knd G h a).1 - 24 = (knd G h v).1 by omega, clsS_own f1] at g3
    exact Option.some.inj (g3.symm.trans hfc)
  subst hcomp
  have hin := in_oi i1 i2 h6 h4
  refine W.aast C.1 C.2 h1 h2.1 h3 g1 g2 (by rw [aty_ref hk]; rfl) hkC ⟨fun q => hin (Or.inl q), by rw [cl_oi i1 i2 h6]; omega⟩ f2 (fun q => by rw [f4]; intro z; cases z) (by rw [f3]; exact hkC) (by rw [f3]; exact va_asg _ _) (g := F0 m pc rl (.ref (tr v) :: .int (Int32.ofInt x) :: .ref (tr a) :: rest)) rfl rfl hd (fun H' e1 e2 e3 => ?_)
  rw [cl_oi i1 i2 h6] at e1 ⊢
  refine k H' _ (hh.wr ht ha (fun _ => rfl) rfl (fun b j hb => wrR_ne hg hb) (fun j => hh.in a j) e2 e3 (fun q => by omega) (fun _ _ => ?_)) (hS.put e2 e3 (A_tr ht ha))
  refine CRa.set e1 h2 h3 h4 h5 h6 h7 h8 (by omega) rfl ?_ (fun b hb => ?_)
  · unfold avalV; rw [if_neg (by omega), if_pos hk, rdR_wrR hg, if_pos ⟨rfl, rfl⟩]; rfl
  · unfold avalV; rw [if_neg (by omega), if_pos hk, if_neg (by omega), if_pos hk, rdR_wrR hg, if_neg (fun q => hb q.2)]
/-- a field is written: what it does to the real cell -/
theorem sh_put (C : Cg p s m args c cc (ownS o)) (hSP : SP tr D B H0 s) (ht : trOK tr B) (hh : HR G tr D B H0 s h H) (hS : va_S (fun q => B ≤ q) s.heap H locs) (ha : 4 ≤ a) {c0 : Nat} (hk : (knd G h a).1 = c0 / 1000) {idx : Nat} (hf : flA o idx c0 = true) (hini : ini = true → meth.name = "<init>")
    (hfi : (match clsS[c0 / 1000]? with
      | some q => !(q.2.1 (c0 / 10 % 100)).2.2.2 || (ini && decide (q.1 = ownS o))
      | none => false) = true) {v : Value} {h' : AH} (hkn : ∀ b, knd G h' b = knd G h b) (hN : hpN h' = hpN h) (hv : ∀ b k, b ≠ a → rdI h' b k = rdI h b k ∧ rdL h' b k = rdL h b k ∧ rdR G h' b k = rdR G h b k) (hi : ∀ k, inr (rdI h' a k)) (hfv : ∀ k, fvalV G tr h' (c0 / 1000) a k = if k = c0 / 10 % 100 then v else fvalV G tr h (c0 / 1000) a k)
    (hnar : narrow (tyS (c0 / 1000) (c0 / 10 % 100)) v = v) (hfit : fits (tyS (c0 / 1000) (c0 / 10 % 100)) v = true) (hd : decode cc pc = .ok (.putfield idx, 3))
    (k : ∀ H' locs', HR G tr D B H0 s h' H' → va_S (fun q => B ≤ q) s.heap H' locs' → W p l e R s m args below meth c H' locs' cells slots Q (F0 m (pc + 3) rl rest)) : W p l e R s m args below meth c H locs cells slots Q (F0 m pc rl (v :: .ref (tr a) :: rest)) := by
  obtain ⟨q, h1, h2, h3, h4, h5⟩ := flA_in hf
  have hlt := clsS_lt h1
  obtain ⟨q', g1, cell, q1, q2, q3, q4⟩ := hh.2.2.1 a (by rw [hk]; exact hlt)
  rw [hk] at g1 q2 q4
  rw [h1] at g1
  cases g1
  obtain ⟨u1, u2, u3, -, -⟩ := cls_ok _ _ h1
  have hap := va_apart (own := ownS o) C.2.2.2 (u_good u1) (tyS (c0 / 1000)) u3 u2 hSP.1 h1
  obtain ⟨hSl, hfc, kC, hkC, hkind⟩ := hSP.1.1 _ _ h1
  obtain ⟨cf, kf, fi, f, hi0, hsl⟩ := hSl _ h2
  have hst := (u_facts hfc hkC (u_lays C.2.2.2 (u_good u1) h2) hi0).1
  have hsame : s.fieldFound? q.1 (q.2.1 (c0 / 10 % 100)).2.1 (q.2.1 (c0 / 10 % 100)).2.2.1 = some (cf, kf, fi, f) := by rw [← h3]; exact hi0
  have hlay := C.2.2.2 _ (u_good u1 _ (u_in_lay h2))
  unfold u_lay at hlay
  have fin : ∀ H' : Heap, H'[tr a]? = some (cell.setSlot f.slot v) → H'.size = H.size → (∀ z, z ≠ tr a → H'[z]? = H[z]?) → W p l e R s m args below meth c H' (locs ++ [⟨tr a, f.slot⟩]) cells slots Q (F0 m (pc + 3) rl rest) := by
    intro H' e1 e2 e3
    rw [hsl] at e1 ⊢
    refine k H' _ (hh.wr ht ha hkn hN hv hi e2 e3 (fun _ => ⟨q, by rw [hkn, hk]; exact h1, ?_⟩) (fun z => by omega)) (hS.put e2 e3 (A_tr ht ha))
    rw [hkn, hk]
    refine t_OB.to (V := updV (fun k => fvalV G tr h (c0 / 1000) a k) (c0 / 10 % 100) v) ⟨_, e1, q2, q3, t_set q4 hap h2 v⟩ (fun j _ => ?_)
    rw [hfv j]
    rfl
  rw [h1] at hfi
  simp only [Bool.or_eq_true, Bool.not_eq_true', Bool.and_eq_true, decide_eq_true_eq] at hfi
  by_cases hfl : (q.2.1 (c0 / 10 % 100)).2.2.2 = true
  · rw [if_pos hfl] at hlay
    rcases hfi with hfi | ⟨hfi, hown⟩
    · rw [hfl] at hfi; cases hfi
    have hcf : m.cls = cf := by
      obtain ⟨_, _, c', _, _, _, -, -, hf', -, -, -, hown2, -⟩ := Cond.laysFinal_spec hlay
      have e1 : c' = cf := by have := hi0.symm.trans hf'; simp at this; exact this.1.symm
      rw [h3, hown] at hown2
      rw [← e1]; exact Option.some.inj (C.2.2.1.symm.trans hown2)
    have h6 := u_fits hfc hkC hkind (Or.inr hlay) hi0 (u3 _ h2) hnar hfit
    exact W.putFinK C.1 C.2.1 C.2.2.1 (C.2.2.2 _ h5) hsame hst hcf (hini hfi) (by rw [q2]; exact h6) q1 q3 (by rw [hsl]; exact k2_hasslot (q4 _ h2)) (g := F0 m pc rl (v :: .ref (tr a) :: rest)) rfl rfl hd fin
  · rw [if_neg hfl] at hlay
    have h6 := u_store hfc hkC hkind hlay hi0 (u3 _ h2) hnar hfit
    exact W.putK C.1 C.2.1 (f := f) ⟨C.2.2.1, C.2.2.2 _ h5, ⟨_, _, _, hsame⟩, hst⟩ (by rw [q2]; exact h6) q1 q3 (by rw [hsl]; exact k2_hasslot (q4 _ h2)) (g := F0 m pc rl (v :: .ref (tr a) :: rest)) rfl rfl hd fin
end S6
