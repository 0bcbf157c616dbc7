/-! the log grows on both sides -/
def XaF (h g : AH) (n : Nat) (kd rl bk : Int) (u : Int64) : Prop := rdI g 17 7 = ((n + 1 : Nat) : Int) ∧ rdI g 18 (n + 1) = kd ∧ rdI g 19 (n + 1) = rl ∧ rdI g 20 (n + 1) = bk ∧ rdL g 21 (n + 1) = u ∧ (∀ b j, ¬ (b = 17 ∧ j = 7) → ¬ ((b = 18 ∨ b = 19 ∨ b = 20 ∨ b = 24) ∧ j = n + 1) → ¬ (b = 23 ∧ 8 * (n + 1) ≤ j ∧ j < 8 * (n + 1) + 8) → rdI g b j = rdI h b j) ∧ (∀ b j, ¬ (b = 21 ∧ j = n + 1) → rdL g b j = rdL h b j) ∧ (∀ b j, ¬ (b = 22 ∧ j = n + 1) → rdQ g b j = rdQ h b j) ∧ (∀ b, rdK g b = rdK h b) ∧ hpN g = hpN h ∧ hpS g = hpS h
def MaF (h g : AH) (n : Nat) (kd rl bk : Int) (u : Int64) : Prop := rdI g 61 32 = ((n + 1 : Nat) : Int) ∧ rdI g 72 (n + 1) = kd ∧ rdI g 73 (n + 1) = rl ∧ rdI g 74 (n + 1) = bk ∧ rdL g 75 (n + 1) = u ∧ (∀ b j, ¬ (b = 61 ∧ j = 32) → ¬ ((b = 72 ∨ b = 73 ∨ b = 74) ∧ j = n + 1) → ¬ ((b = 76 ∨ b = 77) ∧ 8 * (n + 1) ≤ j ∧ j < 8 * (n + 1) + 8) → rdI g b j = rdI h b j) ∧ (∀ b j, ¬ (b = 75 ∧ j = n + 1) → rdL g b j = rdL h b j) ∧ g.2.2 = h.2.2
section LR
variable {hx hm gx gm h : AH} {B n ns k : Nat} {kd rl bk : Int} {u : Int64}
theorem ChF.ma {r : Nat} (c : ChF hm gm n kd r u) : MaF hm gm n kd r (-5) u := ⟨c.1, c.2.1, c.2.2.1, c.2.2.2.1, c.2.2.2.2.1, c.2.2.2.2.2.2.2.2.2.1, c.2.2.2.2.2.2.2.2.2.2.1, c.2.2.2.2.2.2.2.2.2.2.2⟩
theorem lgAdd_a {l : Nat} : XaF h (lgAdd h kd rl bk u n l) n kd rl bk u := by
  unfold lgAdd
  refine ⟨?_, ?_, ?_, ?_, ?_, fun b j q1 q2 q3 => ?_, fun b j q => ?_, fun b j q => rfl, fun b => rfl, rfl, rfl⟩
  · simp [rdI_cpN, rdI_wrI, rdI_wrL]
  · simp [rdI_cpN, rdI_wrI, rdI_wrL]
  · simp [rdI_cpN, rdI_wrI, rdI_wrL]
  · simp [rdI_cpN, rdI_wrI, rdI_wrL]
  · simp [rdL_cpN, rdL_wrI, rdL_wrL]
  · rw [rdI_cpN, if_neg q3, rdI_wrI, if_neg (by omega), rdI_wrL, rdI_wrI, if_neg (by omega), rdI_wrI, if_neg (by omega), rdI_wrI, if_neg (by omega), rdI_wrI, if_neg q1]
  · rw [rdL_cpN, rdL_wrI, rdL_wrL, if_neg q]; rfl
theorem lgAdd_c {l i : Nat} (hl : l ≤ n) (hi : i < 8) : rdI (lgAdd h kd rl bk u n l) 23 (8 * (n + 1) + i) = rdI h 23 (8 * l + i) ∧ rdI (lgAdd h kd rl bk u n l) 24 (n + 1) = rdI h 24 l := by
  refine ⟨lgAdd_text hi, ?_⟩
  unfold lgAdd
  simp [rdI_cpN, rdI_wrI]
theorem XaF.set {r : Nat} {t : Int} {on : Bool} (hr : r < 8) (x : XaF h gx n kd rl bk u) : XaF h (lgSet gx (n + 1) r t on) n kd rl bk u := by
  obtain ⟨x1, x2, x3, x4, x5, x6, x7, x8, x9, x10, x11⟩ := x
  unfold lgSet
  refine ⟨?_, ?_, ?_, ?_, x5, fun b j q1 q2 q3 => ?_, x7, x8, x9, x10, x11⟩
  · rw [rdI_wrI, if_neg (by omega), rdI_wrI, if_neg (by omega)]; exact x1
  · rw [rdI_wrI, if_neg (by omega), rdI_wrI, if_neg (by omega)]; exact x2
  · rw [rdI_wrI, if_neg (by omega), rdI_wrI, if_neg (by omega)]; exact x3
  · rw [rdI_wrI, if_neg (by omega), rdI_wrI, if_neg (by omega)]; exact x4
  · rw [rdI_wrI, if_neg (by omega), rdI_wrI, if_neg (by omega)]; exact x6 b j q1 q2 q3
theorem XaF.prg {p : Option Nat} (x : XaF h gx n kd rl bk u) : XaF h (wrR gx 22 (n + 1) p) n kd rl bk u := by
  obtain ⟨x1, x2, x3, x4, x5, x6, x7, x8, x9, x10, x11⟩ := x
  exact ⟨x1, x2, x3, x4, x5, x6, x7, fun b j q => by rw [rdQ_wrR, if_neg q]; exact x8 b j q, x9, x10, x11⟩
theorem lgSet_c {m r i : Nat} {t : Int} {on : Bool} (hr : r < 8) (hi : i < 8) : rdI (lgSet h m r t on) 23 (8 * m + i) = (if i = r then t else rdI h 23 (8 * m + i)) ∧ bI (rdI (lgSet h m r t on) 24 m) i = (if i = r then on else bI (rdI h 24 m) i) := by
  unfold lgSet
  constructor
  · rw [rdI_wrI, if_neg (by omega), rdI_wrI]
    by_cases c : i = r
    · rw [if_pos ⟨rfl, by omega⟩, if_pos c]
    · rw [if_neg (by omega), if_neg c]
  · rw [rdI_wrI, if_pos ⟨rfl, rfl⟩]
    cases on
    · simp only [Bool.false_eq_true, if_false]
      rw [bI_clr (by omega) (by omega)]
      by_cases c : i = r
      · simp [c]
      · simp [c]
    · simp only [if_true]
      rw [bI_set (by omega) (by omega)]
      by_cases c : i = r
      · simp [c]
      · simp [c]
theorem RLg.add {ns' : Nat} (h : RLg hx hm n ns) (hn : n < 60) (hns : ns ≤ ns') (X : XaF hx gx n kd rl bk u) (M : MaF hm gm n kd rl bk u) (hc : ∀ r, r < 8 → RCl gx gm ns' (n + 1) r) (hu : 1 ≤ n → rdL hm 75 n ≤ u) : RLg gx gm (n + 1) ns' := by
  obtain ⟨g0, g1, g2, g3, g4, g5⟩ := h
  obtain ⟨x1, x2, x3, x4, x5, x6, x7, x8, x9, x10, x11⟩ := X
  obtain ⟨m1, m2, m3, m4, m5, m6, m7, m8⟩ := M
  refine ⟨by omega, x1, m1, fun i i1 i2 => ?_, fun i i1 i2 => ?_, fun v hv r hr => ?_⟩
  · by_cases c : i = n + 1
    · subst c
      exact ⟨by rw [x2, m2], by rw [x3, m3], by rw [x4, m4], by rw [x5, m5]⟩
    · obtain ⟨e1, e2, e3, e4⟩ := g3 i i1 (by omega)
      exact ⟨by rw [x6 _ _ (by omega) (by omega) (by omega), m6 _ _ (by omega) (by omega) (by omega)]; exact e1, by rw [x6 _ _ (by omega) (by omega) (by omega), m6 _ _ (by omega) (by omega) (by omega)]; exact e2, by rw [x6 _ _ (by omega) (by omega) (by omega), m6 _ _ (by omega) (by omega) (by omega)]; exact e3, by rw [x7 _ _ (by omega), m7 _ _ (by omega)]; exact e4⟩
  · by_cases c : i = n
    · subst c
      rw [m7 _ _ (by omega), m5]
      exact hu i1
    · rw [m7 _ _ (by omega), m7 _ _ (by omega)]
      exact g4 i i1 (by omega)
  · by_cases c : v = n + 1
    · subst c
      exact hc r hr
    · obtain ⟨t, e1, e2, e3, e4, e5⟩ := g5 v (by omega) r hr
      refine ⟨t, by rw [x6 _ _ (by omega) (by omega) (by omega)]; exact e1, by rw [m6 _ _ (by omega) (by omega) (by omega)]; exact e2, e3, fun q => ?_, ?_⟩
      · rw [m6 _ _ (by omega) (by omega) (by omega)]
        have := e4 q
        exact ⟨this.1, by omega⟩
      · rw [x6 _ _ (by omega) (by omega) (by omega), m6 _ _ (by omega) (by omega) (by omega)]
        exact e5
theorem RPg.add (h : RPg hx hm n) (X : XaF hx gx n kd rl bk u) (M : MaF hm gm n kd rl bk u) (hk : kd ≠ 1) : RPg gx gm (n + 1) := by
  obtain ⟨x1, x2, x3, x4, x5, x6, x7, x8, x9, x10, x11⟩ := X
  obtain ⟨m1, m2, m3, m4, m5, m6, m7, m8⟩ := M
  have := h.c (gx := gx) (gm := gm) (fun j hj => x8 _ _ (by omega)) (fun b hb hl => ⟨x9 b, fun j => ⟨x6 _ _ (by omega) (by omega) (by omega), x8 _ _ (by omega)⟩⟩) (by omega) (fun j hj => m6 _ _ (by omega) (by omega) (by omega)) (fun b j q => m6 _ _ (by omega) (by omega) (by omega)) (fun j hj => m7 _ _ (by omega))
  intro t h1 h2 h3
  by_cases c : t = n + 1
  · subst c
    exact absurd h3 (by rw [m2]; exact hk)
  · exact this t h1 (by omega) h3
/-- all but the names and texts -/
theorem Rl.log {ns' : Nat} (h : Rl B n ns k hx hm) (hn : n < 60) (X : XaF hx gx n kd rl bk u) (M : MaF hm gm n kd rl bk u) (hL : RLg gx gm (n + 1) ns') (hN : RNm gx gm ns') (hP : RPg gx gm (n + 1)) : Rl B (n + 1) ns' k gx gm := by
  obtain ⟨⟨k1, k6, h0⟩, h1, h2, h3, h4, h5, h6, h7, h8, h9, h10, h11⟩ := h
  obtain ⟨x1, x2, x3, x4, x5, x6, x7, x8, x9, x10, x11⟩ := X
  obtain ⟨m1, m2, m3, m4, m5, m6, m7, m8⟩ := M
  refine ⟨⟨k1, k6, by omega⟩, ?_, hN, hL, hP, ?_, ?_, ?_, ?_, ?_, ?_, ?_⟩
  · exact h1.c (fun b j q => x6 b j (by omega) (by omega) (by omega)) (fun b j q => m6 b j (by omega) (by omega) (by omega))
  · exact (h5.c (fun x hx6 => x6 _ _ (by omega) (by omega) (by omega)) (fun j => m6 _ _ (by omega) (by omega) (by omega))).le (Nat.le_succ n)
  · exact h6.c (fun x hx6 => x7 _ _ (by omega)) (fun j => m6 _ _ (by omega) (by omega) (by omega))
  · exact h7.c (fun x hx6 b j q => x6 b j (by omega) (by omega) (by omega)) (fun x hx6 j => x7 _ _ (by omega)) (fun b j q => m6 b j (by omega) (by omega) (by omega)) (fun j => m7 _ _ (by omega))
  · exact h8.c (fun x hx6 j q => x6 _ j (by omega) (by omega) (by omega)) (fun b j q => m6 b j (by omega) (by omega) (by omega))
  · exact (h9.c (x6 _ _ (by omega) (by omega) (by omega)) (fun m hm4 => x6 _ _ (by omega) (by omega) (by omega)) (fun m hm4 j => x7 _ _ (by omega)) (fun b j q => m6 b j (by omega) (by omega) (by omega))).le (Nat.le_succ n)
  · exact h10.c (fun j q r s => x6 _ _ (by omega) (by omega) (by omega)) (fun j q => m6 _ _ (by omega) (by omega) (by omega))
  · exact h11.c (fun b j q => x6 b j (by omega) (by omega) (by omega))
theorem RNm.log (h : RNm hx hm ns) (X : XaF hx gx n kd rl bk u) (M : MaF hm gm n kd rl bk u) : RNm gx gm ns := by
  obtain ⟨x1, x2, x3, x4, x5, x6, x7, x8, x9, x10, x11⟩ := X
  obtain ⟨m1, m2, m3, m4, m5, m6, m7, m8⟩ := M
  exact h.c (x6 _ _ (by omega) (by omega) (by omega)) (fun j => x7 _ _ (by omega)) (m6 _ _ (by omega) (by omega) (by omega)) (fun j => m7 _ _ (by omega))
theorem RJd.log (h : RJd hx hm) (X : XaF hx gx n kd rl bk u) (M : MaF hm gm n kd rl bk u) : RJd gx gm := by
  obtain ⟨x1, x2, x3, x4, x5, x6, x7, x8, x9, x10, x11⟩ := X
  obtain ⟨m1, m2, m3, m4, m5, m6, m7, m8⟩ := M
  exact h.c (fun x hx6 => x6 _ _ (by omega) (by omega) (by omega)) (x6 _ _ (by omega) (by omega) (by omega)) (fun j => m6 _ _ (by omega) (by omega) (by omega)) (m6 _ _ (by omega) (by omega) (by omega))
theorem RWt.log (h : RWt hx hm k) (hk : k ≤ 6) (X : XaF hx gx n kd rl bk u) (M : MaF hm gm n kd rl bk u) : RWt gx gm k := by
  obtain ⟨x1, x2, x3, x4, x5, x6, x7, x8, x9, x10, x11⟩ := X
  obtain ⟨m1, m2, m3, m4, m5, m6, m7, m8⟩ := M
  exact fun x hxk => (h x hxk).c (x6 _ _ (by omega) (by omega) (by omega)) (fun j => x8 _ _ (by omega)) (fun b hb hl => ⟨x9 b, fun j => ⟨x6 _ _ (by omega) (by omega) (by omega), x7 _ _ (by omega)⟩⟩) (by omega) (m6 _ _ (by omega) (by omega) (by omega)) (fun j hj => m6 _ _ (by omega) (by omega) (by omega)) (fun j hj => m7 _ _ (by omega))
theorem RLg.z (h : RLg hx hm n ns) {v : Nat} (hv : v ≤ n) : ∀ i < 8, isZ (rdI hm 77 (8 * v + i)) = true := by
  intro i hi
  obtain ⟨t, e1, e2, e3, e4, e5⟩ := h.2.2.2.2.2 v hv i hi
  rcases e5 with ⟨-, z, -⟩ | ⟨-, z⟩ <;> rw [z] <;> rfl
/-- a rule is dropped -/
theorem RCl_drop {r : Nat} (h : RLg hx hm n ns) (hr : r < 8) (C : ChF hm gm n 2 r u) : ∀ i, i < 8 → RCl (lgSet (lgAdd hx 2 r (-5) u n n) (n + 1) r 0 false) gm ns (n + 1) i := by
  intro i hi
  obtain ⟨t, e1, e2, e3, e4, e5⟩ := h.2.2.2.2.2 n (Nat.le_refl _) i hi
  obtain ⟨c1, c2⟩ := lgSet_c (h := lgAdd hx 2 r (-5) u n n) (m := n + 1) (t := 0) (on := false) hr hi
  obtain ⟨d1, d2⟩ := lgAdd_c (h := hx) (kd := 2) (rl := r) (bk := -5) (u := u) (l := n) (Nat.le_refl n) hi
  obtain ⟨f1, f2, f3, f4, f5, f6, f7, f8, f9, f10, f11, f12⟩ := C
  unfold RCl
  rw [c1, c2, d1, d2]
  by_cases c : i = r
  · subst c
    obtain ⟨z1, z2⟩ := f8 rfl
    rw [if_pos rfl, if_pos rfl, z1, z2]
    exact ⟨0, rfl, rfl, by omega, fun q => absurd rfl q, Or.inr ⟨rfl, rfl⟩⟩
  · obtain ⟨z1, z2⟩ := f6 i hi (Or.inl c)
    rw [if_neg c, if_neg c, z1, z2]
    refine ⟨t, e1, e2, by omega, fun q => ⟨?_, (e4 q).2⟩, e5⟩
    rw [f10 _ _ (by omega) (by omega) (by omega)]
    exact (e4 q).1
theorem RCl_off {r : Nat} (h : RLg hx hm n ns) (hr : r < 8) (C : ChF hm gm n 3 r u) : ∀ i, i < 8 → RCl (lgSet (lgAdd hx 3 r (-5) u n n) (n + 1) r (rdI hx 23 (8 * n + r)) false) gm ns (n + 1) i := by
  intro i hi
  obtain ⟨t, e1, e2, e3, e4, e5⟩ := h.2.2.2.2.2 n (Nat.le_refl _) i hi
  obtain ⟨c1, c2⟩ := lgSet_c (h := lgAdd hx 3 r (-5) u n n) (m := n + 1) (t := rdI hx 23 (8 * n + r)) (on := false) hr hi
  obtain ⟨d1, d2⟩ := lgAdd_c (h := hx) (kd := 3) (rl := r) (bk := -5) (u := u) (l := n) (Nat.le_refl n) hi
  obtain ⟨f1, f2, f3, f4, f5, f6, f7, f8, f9, f10, f11, f12⟩ := C
  unfold RCl
  rw [c1, c2, d1, d2]
  by_cases c : i = r
  · subst c
    obtain ⟨z1, z2⟩ := f9 rfl
    rw [if_pos rfl, if_pos rfl, z1, z2]
    refine ⟨t, e1, e2, by omega, fun q => ⟨?_, (e4 q).2⟩, Or.inr ⟨rfl, rfl⟩⟩
    rw [f10 _ _ (by omega) (by omega) (by omega)]
    exact (e4 q).1
  · obtain ⟨z1, z2⟩ := f6 i hi (Or.inl c)
    rw [if_neg c, if_neg c, z1, z2]
    refine ⟨t, e1, e2, by omega, fun q => ⟨?_, (e4 q).2⟩, e5⟩
    rw [f10 _ _ (by omega) (by omega) (by omega)]
    exact (e4 q).1
theorem RCl_told {r p : Nat} (h : RLg hx hm n ns) (hr : r < 8) (hrs : r < ns) (C : ChF hm gm n 1 r u) : ∀ i, i < 8 → RCl (lgSet (wrR (lgAdd hx 1 r (-5) u n n) 22 (n + 1) (some p)) (n + 1) r ((n : Int) + 1) true) gm ns (n + 1) i := by
  intro i hi
  obtain ⟨t, e1, e2, e3, e4, e5⟩ := h.2.2.2.2.2 n (Nat.le_refl _) i hi
  obtain ⟨c1, c2⟩ := lgSet_c (h := wrR (lgAdd hx 1 r (-5) u n n) 22 (n + 1) (some p)) (m := n + 1) (t := ((n : Int) + 1)) (on := true) hr hi
  obtain ⟨d1, d2⟩ := lgAdd_c (h := hx) (kd := 1) (rl := r) (bk := -5) (u := u) (l := n) (Nat.le_refl n) hi
  obtain ⟨f1, f2, f3, f4, f5, f6, f7, f8, f9, f10, f11, f12⟩ := C
  unfold RCl
  rw [c1, c2, rdI_wrR, rdI_wrR, d1, d2]
  by_cases c : i = r
  · subst c
    obtain ⟨z1, z2⟩ := f7 rfl
    rw [if_pos rfl, if_pos rfl, z1, z2]
    exact ⟨n + 1, by push_cast; rfl, rfl, Nat.le_refl _, fun _ => ⟨f2, hrs⟩, Or.inl ⟨rfl, rfl, by omega⟩⟩
  · obtain ⟨z1, z2⟩ := f6 i hi (Or.inl c)
    rw [if_neg c, if_neg c, z1, z2]
    refine ⟨t, e1, e2, by omega, fun q => ⟨?_, (e4 q).2⟩, e5⟩
    rw [f10 _ _ (by omega) (by omega) (by omega)]
    exact (e4 q).1
end LR
