/-! the heap: mine and the real one -/
def aty (K : Nat) : FieldType := if K = 20 then .int else if K = 21 then .long else if K = 22 then .byte else if K = 23 then .boolean else .object (ownS (K - 24))
def fvalV (G : GB) (tr : Nat → Nat) (h : AH) (ci a k : Nat) : Value := match srtF (tyS ci k) with
  | 1 => .long (rdL h a k)
  | 2 => tvA tr (vR (rdR G h a k))
  | _ => .int (Int32.ofInt (rdI h a k))
def avalV (G : GB) (tr : Nat → Nat) (h : AH) (K a j : Nat) : Value := if K = 21 then .long (rdL h a j) else if 24 ≤ K then tvA tr (vR (rdR G h a j)) else .int (Int32.ofInt (rdI h a j))
def CRo (G : GB) (tr : Nat → Nat) (D : va_G) (h : AH) (H : Heap) (a : Nat) : Prop := ∃ r : vw_C, clsS[(knd G h a).1]? = some r ∧ t_OB (tr a) (D.1 (knd G h a).1) r.2.2 (D.2 (knd G h a).1) H (fun k => fvalV G tr h (knd G h a).1 a k)
def CRa (G : GB) (tr : Nat → Nat) (U : State) (h : AH) (H : Heap) (a : Nat) : Prop := ∃ cell : Cell, H[tr a]? = some cell ∧ U.isArrayOf cell (aty (knd G h a).1) ∧ cell.vm ≠ .unknown ∧ (knd G h a).2 ≤ cell.slots.size ∧ cell.slots.size.toInt32 = Int32.ofNat (knd G h a).2 ∧ (knd G h a).2 < 2147483648 ∧ (∀ j, j < (knd G h a).2 → cell.slots[j]? = some (avalV G tr h (knd G h a).1 a j)) ∧ (24 ≤ (knd G h a).1 → ∃ (kA : Class) (comp : ClassId), U.vm.classes[cell.cls]? = some kA ∧ kA.kind = .array comp (aty (knd G h a).1) ∧ U.vm.findClass (ownS ((knd G h a).1 - 24)) = some comp)
/-- the translation of addresses: the given cells lie below B, all others behind it in their order -/
def trOK (tr : Nat → Nat) (B : Nat) : Prop := (∀ k, k < 4 → tr k < B) ∧ ∀ k, tr (k + 4) = B + k
def HR (G : GB) (tr : Nat → Nat) (D : va_G) (B : Nat) (H0 : Heap) (U : State) (h : AH) (H : Heap) : Prop :=
  (H.size + 4 = B + hpN h ∧ 4 ≤ hpN h) ∧ (∀ a, (knd G h a).1 < 50 → a < hpN h) ∧ (∀ a, (knd G h a).1 < 12 → CRo G tr D h H a) ∧ (∀ a, (knd G h a).1 = 12 → a = 2 ∧ rdR G h 2 0 = some 3 ∧ rdI h 2 1 = 0) ∧ (∀ a, 20 ≤ (knd G h a).1 → (knd G h a).1 < 50 → CRa G tr U h H a) ∧ (∀ q, q < B → H[q]? = H0[q]?) ∧ ∀ a k, inr (rdI h a k)
/-- what G must be -/
def gOK (G : GB) : Prop := (∀ a, G.2.2 a = true → 4 ≤ a) ∧ ∀ a k, G.2.1 a = none → G.1 a k = none
section HRs
variable {G : GB} {tr : Nat → Nat} {D : va_G} {B : Nat} {H0 H H' : Heap} {U : State} {h h' : AH}
theorem tr_ne (ht : trOK tr B) {a b : Nat} (ha : 4 ≤ a) (hb : b ≠ a) : tr b ≠ tr a := by
  obtain ⟨k, rfl⟩ : ∃ k, a = k + 4 := ⟨a - 4, by omega⟩
  rw [ht.2]
  by_cases h4 : b < 4
  · have := ht.1 b h4; omega
  · obtain ⟨j, rfl⟩ : ∃ j, b = j + 4 := ⟨b - 4, by omega⟩
    rw [ht.2]; omega
theorem tr_ge (ht : trOK tr B) {a : Nat} (ha : 4 ≤ a) : tr a = B + (a - 4) := by
  obtain ⟨k, rfl⟩ : ∃ k, a = k + 4 := ⟨a - 4, by omega⟩
  rw [ht.2]; simp
theorem CRo.kept {b : Nat} (hc : CRo G tr D h H b) (hk : knd G h' b = knd G h b) (hv : ∀ k, rdI h' b k = rdI h b k ∧ rdL h' b k = rdL h b k ∧ rdR G h' b k = rdR G h b k) (hq : H'[tr b]? = H[tr b]?) : CRo G tr D h' H' b := by
  obtain ⟨r, h1, h2⟩ := hc
  refine ⟨r, by rw [hk]; exact h1, ?_⟩
  rw [hk]
  refine (h2.kept hq).to (fun k _ => ?_)
  unfold fvalV
  rw [(hv k).1, (hv k).2.1, (hv k).2.2]
theorem CRa.kept {b : Nat} (hc : CRa G tr U h H b) (hk : knd G h' b = knd G h b) (hv : ∀ k, rdI h' b k = rdI h b k ∧ rdL h' b k = rdL h b k ∧ rdR G h' b k = rdR G h b k) (hq : H'[tr b]? = H[tr b]?) : CRa G tr U h' H' b := by
  obtain ⟨cell, h1, h2, h3, h4, h5, h6, h7, h8⟩ := hc
  refine ⟨cell, hq.trans h1, by rw [hk]; exact h2, h3, by rw [hk]; exact h4, by rw [hk]; exact h5, by rw [hk]; exact h6, fun j hj => ?_, by rw [hk]; exact h8⟩
  rw [hk] at hj ⊢
  rw [h7 j hj]
  unfold avalV
  rw [(hv j).1, (hv j).2.1, (hv j).2.2]
/-- one cell is written -/
theorem HR.wr {a : Nat} (hh : HR G tr D B H0 U h H) (ht : trOK tr B) (ha : 4 ≤ a) (hk : ∀ b, knd G h' b = knd G h b) (hn : hpN h' = hpN h) (hv : ∀ b k, b ≠ a → rdI h' b k = rdI h b k ∧ rdL h' b k = rdL h b k ∧ rdR G h' b k = rdR G h b k) (hi : ∀ k, inr (rdI h' a k)) (hs : H'.size = H.size) (hq : ∀ q, q ≠ tr a → H'[q]? = H[q]?)
    (ho : (knd G h a).1 < 12 → CRo G tr D h' H' a) (hr : 20 ≤ (knd G h a).1 → (knd G h a).1 < 50 → CRa G tr U h' H' a) : HR G tr D B H0 U h' H' := by
  obtain ⟨h1, h2, h3, h4, h5, h6, h7⟩ := hh
  refine ⟨by rw [hs, hn]; exact h1, fun b hb => by rw [hn]; rw [hk] at hb; exact h2 b hb, fun b hb => ?_, fun b hb => ?_, fun b hb hb2 => ?_, fun q hB => ?_, fun b k => ?_⟩
  · rw [hk] at hb
    by_cases e : b = a
    · subst e; exact ho hb
    · exact (h3 b hb).kept (hk b) (fun k => hv b k e) (hq _ (tr_ne ht ha e))
  · rw [hk] at hb
    obtain ⟨e1, e2, e3⟩ := h4 b hb
    exact ⟨e1, by rw [(hv 2 0 (by omega)).2.2]; exact e2, by rw [(hv 2 1 (by omega)).1]; exact e3⟩
  · rw [hk] at hb hb2
    by_cases e : b = a
    · subst e; exact hr hb hb2
    · exact (h5 b hb hb2).kept (hk b) (fun k => hv b k e) (hq _ (tr_ne ht ha e))
  · rw [hq q (by rw [tr_ge ht ha]; omega)]
    exact h6 q hB
  · by_cases e : b = a
    · subst e; exact hi k
    · rw [(hv b k e).1]; exact h7 b k
/-- a cell is made -/
theorem HR.new {K : Nat × Nat} (hh : HR G tr D B H0 U h H) (hG : gOK G) (hg : G.2.1 (hpN h) = none) (ht : trOK tr B) (hs : H'.size = H.size + 1) (hq : ∀ q, q < H.size → H'[q]? = H[q]?)
    (hK : K.1 < 12 ∨ (20 ≤ K.1 ∧ K.1 < 50)) (ho : K.1 < 12 → CRo G tr D (hpA h K) H' (hpN h)) (hr : 20 ≤ K.1 → K.1 < 50 → CRa G tr U (hpA h K) H' (hpN h)) : HR G tr D B H0 U (hpA h K) H' := by
  obtain ⟨h1, h2, h3, h4, h5, h6, h7⟩ := hh
  have e0 : knd G (hpA h K) (hpN h) = K := by
    unfold knd
    rw [hg]
    simp [rdK, hpA]
  have e1 : ∀ b, b ≠ hpN h → knd G (hpA h K) b = knd G h b := by
    intro b hb
    unfold knd
    cases G.2.1 b with
    | some q => rfl
    | none => simp [rdK, hpA, hb]
  have e2 : ∀ b k, b ≠ hpN h → rdI (hpA h K) b k = rdI h b k ∧ rdL (hpA h K) b k = rdL h b k ∧ rdR G (hpA h K) b k = rdR G h b k := by
    intro b k hb
    refine ⟨by simp [rdI, hpA, hb], by simp [rdL, hpA, hb], ?_⟩
    unfold rdR
    cases G.1 b k with
    | some q => rfl
    | none => simp [rdQ, hpA, hb]
  have e3 : ∀ b, b < hpN h → b ≠ hpN h := fun b hb => by omega
  have e4 : ∀ b, b < hpN h → tr b < H.size := by
    intro b hb
    by_cases h8 : b < 4
    · have := ht.1 b h8; omega
    · rw [tr_ge ht (by omega)]; omega
  have hN : hpN (hpA h K) = hpN h + 1 := rfl
  refine ⟨by rw [hs, hN]; omega, fun b hb => ?_, fun b hb => ?_, fun b hb => ?_, fun b hb hb2 => ?_, fun q hB => ?_, fun b k => ?_⟩
  · rw [hN]
    by_cases e : b = hpN h
    · omega
    · rw [e1 b e] at hb; have := h2 b hb; omega
  · by_cases e : b = hpN h
    · subst e; rw [e0] at hb; exact ho hb
    · rw [e1 b e] at hb
      exact (h3 b hb).kept (e1 b e) (fun k => e2 b k e) (hq _ (e4 b (h2 b (by omega))))
  · by_cases e : b = hpN h
    · subst e; rw [e0] at hb; omega
    · rw [e1 b e] at hb
      obtain ⟨g1, g2, g3⟩ := h4 b hb
      exact ⟨g1, by rw [(e2 2 0 (by omega)).2.2]; exact g2, by rw [(e2 2 1 (by omega)).1]; exact g3⟩
  · by_cases e : b = hpN h
    · subst e; rw [e0] at hb hb2; exact hr hb hb2
    · rw [e1 b e] at hb hb2
      exact (h5 b hb hb2).kept (e1 b e) (fun k => e2 b k e) (hq _ (e4 b (h2 b hb2)))
  · rw [hq q (by omega)]
    exact h6 q hB
  · by_cases e : b = hpN h
    · subst e; simp only [rdI, hpA, if_true]; exact inr0
    · rw [(e2 b k e).1]; exact h7 b k
theorem knd_new {K : Nat × Nat} (hg : G.2.1 (hpN h) = none) : knd G (hpA h K) (hpN h) = K := by
  unfold knd
  rw [hg]
  simp [rdK, hpA]
theorem rdR_new {K : Nat × Nat} (hG : gOK G) (hg : G.2.1 (hpN h) = none) (k : Nat) : rdR G (hpA h K) (hpN h) k = none := by
  unfold rdR
  rw [hG.2 _ k hg]
  simp [rdQ, hpA]
theorem tr_new (hh : HR G tr D B H0 U h H) (ht : trOK tr B) : tr (hpN h) = H.size := by
  have h1 := hh.1.1
  have h4 := hh.1.2
  rw [tr_ge ht h4]
  omega
theorem HR.moved {U' : State} (hvm : U.vm.Alike U'.vm) (hh : HR G tr D B H0 U h H) : HR G tr D B H0 U' h H := by
  obtain ⟨h1, h2, h3, h4, h5, h6, h7⟩ := hh
  refine ⟨h1, h2, h3, h4, fun b hb hb2 => ?_, h6, h7⟩
  obtain ⟨cell, g1, g2, g3, g4, g5, g6, g7, g8⟩ := h5 b hb hb2
  refine ⟨cell, g1, State.isArrayOf_alike hvm g2, g3, g4, g5, g6, g7, fun q => ?_⟩
  obtain ⟨kA, comp, q1, q2, q3⟩ := g8 q
  obtain ⟨k', hk', he⟩ := hvm.2.2 _ _ q1
  exact ⟨k', comp, hk', by rw [he]; exact q2, by rw [hvm.findClass]; exact q3⟩
end HRs
