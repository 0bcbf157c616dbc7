/-! x's cells and the reference's cells say the same -/
def RTx (hx hm : AH) : Prop := ∃ n : Nat, n ≤ 200 ∧ rdI hx 5 1 = n ∧ rdI hm 61 1 = n ∧ ∀ i < n, rdI hx 6 i = rdI hm 62 i
def RNm (hx hm : AH) (ns : Nat) : Prop := ∃ nf, NmX hx ns nf ∧ NmM hm ns nf
def RCl (hx hm : AH) (ns v r : Nat) : Prop := ∃ t : Nat, rdI hx 23 (8 * v + r) = t ∧ rdI hm 76 (8 * v + r) = t ∧ t ≤ v ∧ (t ≠ 0 → rdI hm 72 t = 1 ∧ r < ns) ∧ ((bI (rdI hx 24 v) r = true ∧ rdI hm 77 (8 * v + r) = 1 ∧ t ≠ 0) ∨ (bI (rdI hx 24 v) r = false ∧ rdI hm 77 (8 * v + r) = 0))
def RLi (hx hm : AH) (i : Nat) : Prop := rdI hx 18 i = rdI hm 72 i ∧ rdI hx 19 i = rdI hm 73 i ∧ rdI hx 20 i = rdI hm 74 i ∧ rdL hx 21 i = rdL hm 75 i
def RLg (hx hm : AH) (n ns : Nat) : Prop := n ≤ 60 ∧ rdI hx 17 7 = n ∧ rdI hm 61 32 = n ∧ (∀ i, 1 ≤ i → i ≤ n → RLi hx hm i) ∧ (∀ i, 1 ≤ i → i < n → rdL hm 75 i ≤ rdL hm 75 (i + 1)) ∧ ∀ v, v ≤ n → ∀ r, r < 8 → RCl hx hm ns v r
def PB (hx : AH) (q : Nat) : Prop := q < hpN hx ∧ (∀ s, rdQ hx q 0 = some s → s < hpN hx) ∧ ∀ d, rdQ hx q 1 = some d → d < hpN hx
def RPg (hx hm : AH) (n : Nat) : Prop := ∀ t, 1 ≤ t → t ≤ n → rdI hm 72 t = 1 → ∃ q, rdQ hx 22 t = some q ∧ PB hx q ∧ PRel hx hm q t
def RAp (hx hm : AH) (k n : Nat) : Prop := ∀ x < 6, ∃ a : Nat, a ≤ 60 ∧ rdI hx (28 + 4 * x) 0 = a ∧ rdI hm 78 x = a ∧ (x < k → a ≤ n)
def ROf (hx hm : AH) : Prop := ∀ x < 6, ∀ t < 61, (bL (rdL hx (28 + 4 * x) 1) t = true ∧ rdI hm 79 (61 * x + t) = 1) ∨ (bL (rdL hx (28 + 4 * x) 1) t = false ∧ rdI hm 79 (61 * x + t) = 0)
def RRg (hx hm : AH) (B : Nat) : Prop := ∀ x < 6, ∃ o : Nat, o ≤ B ∧ rdI hm 84 x = o ∧ rdI hx (28 + 4 * x) 7 = ((o % 40 : Nat) : Int) ∧ rdI hx (28 + 4 * x) 8 = ((if o < 40 then o else 40 : Nat) : Int) ∧ ∀ j < 40, j < o → rdL hx (30 + 4 * x) j = rdL hm 85 (40 * x + j) ∧ rdI hx (31 + 4 * x) j = rdI hm 86 (40 * x + j)
def RFl (hx hm : AH) : Prop := ∀ x < 6, rdI hx (28 + 4 * x) 9 = rdI hm 87 x ∧ ((rdI hm 87 x = 0 ∧ rdI hx (28 + 4 * x) 10 = -5 ∧ rdI hx (28 + 4 * x) 11 = -5) ∨ (rdI hm 87 x ≠ 0 ∧ rdI hx (28 + 4 * x) 10 = rdI hm 88 x ∧ rdI hx (28 + 4 * x) 11 = rdI hm 89 x))
def RMk (hx hm : AH) (n : Nat) : Prop := ∃ mk : Nat, mk ≤ 4 ∧ rdI hx 4 8 = mk ∧ rdI hm 61 58 = mk ∧ ∀ m < mk, (∃ v : Nat, v ≤ n ∧ rdI hx (53 + 2 * m) 0 = v ∧ rdI hm 90 m = v) ∧ (0 ≤ rdI hm 91 m ∧ rdI hm 91 m ≤ 6) ∧ ∀ x < 6, ∀ t < 61, (rdI hm 92 (366 * m + 61 * x + t) = 0 ∨ rdI hm 92 (366 * m + 61 * x + t) = 1) ∧ (bL (rdL hx (54 + 2 * m) x) t = true ↔ (x : Int) < rdI hm 91 m ∧ rdI hm 92 (366 * m + 61 * x + t) = 1)
def RMs (hx hm : AH) (k : Nat) : Prop := rdI hx 4 7 = k ∧ rdI hm 61 42 = k ∧ (rdI hx 4 9 = rdI hm 61 40 ∧ isZ (rdI hm 61 40) = true) ∧ (rdI hx 4 10 = rdI hm 61 41 ∧ isZ (rdI hm 61 41) = true) ∧ rdI hx 4 11 = rdI hm 61 39 ∧ rdI hx 4 12 = rdI hm 61 55 ∧ rdI hx 4 14 = rdI hm 61 57
def RJd (hx hm : AH) : Prop := (∀ x < 6, rdI hx (28 + 4 * x) 2 = rdI hm 83 x) ∧ rdI hx 4 13 = rdI hm 61 56
/-- a row that waits -/
def RRw (hx hm : AH) (q c : Nat) : Prop := 93 ≤ q ∧ q < hpN hx ∧ (rdK hx q).1 = 8 ∧ rdL hx q 0 = rdL hm 81 (3 * c) ∧ rdL hx q 1 = rdL hm 81 (3 * c + 1) ∧ rdL hx q 2 = rdL hm 81 (3 * c + 2) ∧ rdI hx q 3 = rdI hm 82 c ∧ 0 ≤ rdI hm 82 c ∧ rdI hm 82 c ≤ 60
def RWx (hx hm : AH) (x : Nat) : Prop := ∃ w : Nat, w ≤ 6 ∧ rdI hx (28 + 4 * x) 4 = w ∧ rdI hm 80 x = w ∧ ∀ j < w, ∃ q, rdQ hx (29 + 4 * x) j = some q ∧ RRw hx hm q (6 * x + j)
def RWt (hx hm : AH) (k : Nat) : Prop := ∀ x < k, RWx hx hm x
def Rl (B n ns k : Nat) (hx hm : AH) : Prop := (1 ≤ k ∧ k ≤ 6 ∧ 93 ≤ hpN hx) ∧ RTx hx hm ∧ RNm hx hm ns ∧ RLg hx hm n ns ∧ RPg hx hm n ∧ RAp hx hm k n ∧ ROf hx hm ∧ RRg hx hm B ∧ RFl hx hm ∧ RMk hx hm n ∧ RMs hx hm k ∧ SC hx
def Rel (B : Nat) (hx hm : AH) : Prop := ∃ n ns k, Rl B n ns k hx hm ∧ RJd hx hm ∧ RWt hx hm k
/-- both answer alike, and stay alike -/
def Lk (B B' : Nat) (hx hm : AH) (kx : Nat) (ax : List AV) (km : Nat) (am : List AV) : Prop := ∃ r gx gm, En GX 999 kx ax hx (some r) gx ∧ En GM 999 km am hm (some r) gm ∧ Rel B' gx gm ∧ hpN gx ≤ hpN hx + 3 ∧ hpS gx ≤ hpS hx + 412 ∧ hpN gm = hpN hm ∧ hpS gm = hpS hm
section RC
variable {hx hm gx gm : AH} {B n ns k : Nat}
theorem RTx.c (a : ∀ b j, b = 5 ∨ b = 6 → rdI gx b j = rdI hx b j) (c : ∀ b j, (b = 61 ∧ j = 1) ∨ b = 62 → rdI gm b j = rdI hm b j) (h : RTx hx hm) : RTx gx gm := by
  obtain ⟨n, h1, h2, h3, h4⟩ := h
  exact ⟨n, h1, by rw [a _ _ (by omega)]; exact h2, by rw [c _ _ (by omega)]; exact h3, fun i hi => by rw [a _ _ (by omega), c _ _ (by omega)]; exact h4 i hi⟩
theorem RNm.c (a : rdI gx 7 1 = rdI hx 7 1) (a2 : ∀ j, rdL gx 8 j = rdL hx 8 j) (c : rdI gm 61 30 = rdI hm 61 30) (c2 : ∀ j, rdL gm 71 j = rdL hm 71 j) (h : RNm hx hm ns) : RNm gx gm ns := by
  obtain ⟨nf, ⟨h1, h2, h3⟩, h4, h5, h6⟩ := h
  exact ⟨nf, ⟨by rw [a]; exact h1, h2, fun j hj => by rw [a2]; exact h3 j hj⟩, by rw [c]; exact h4, h5, fun j hj => by rw [c2]; exact h6 j hj⟩
theorem RLg.c (a : ∀ b j, (b = 17 ∧ j = 7) ∨ b = 18 ∨ b = 19 ∨ b = 20 ∨ b = 23 ∨ b = 24 → rdI gx b j = rdI hx b j) (a2 : ∀ j, rdL gx 21 j = rdL hx 21 j) (c : ∀ b j, (b = 61 ∧ j = 32) ∨ b = 72 ∨ b = 73 ∨ b = 74 ∨ b = 76 ∨ b = 77 → rdI gm b j = rdI hm b j) (c2 : ∀ j, rdL gm 75 j = rdL hm 75 j) (h : RLg hx hm n ns) : RLg gx gm n ns := by
  obtain ⟨h0, h1, h2, h3, h4, h5⟩ := h
  refine ⟨h0, by rw [a _ _ (by omega)]; exact h1, by rw [c _ _ (by omega)]; exact h2, fun i x y => ?_, fun i x y => by rw [c2, c2]; exact h4 i x y, fun v hv r hr => ?_⟩
  · obtain ⟨e1, e2, e3, e4⟩ := h3 i x y
    exact ⟨by rw [a _ _ (by omega), c _ _ (by omega)]; exact e1, by rw [a _ _ (by omega), c _ _ (by omega)]; exact e2, by rw [a _ _ (by omega), c _ _ (by omega)]; exact e3, by rw [a2, c2]; exact e4⟩
  · obtain ⟨t, e1, e2, e3, e4, e5⟩ := h5 v hv r hr
    refine ⟨t, by rw [a _ _ (by omega)]; exact e1, by rw [c _ _ (by omega)]; exact e2, e3, fun q => by rw [c _ _ (by omega)]; exact e4 q, ?_⟩
    rw [a _ _ (by omega), c _ _ (by omega)]; exact e5
theorem RPg.c (a : ∀ j, j ≤ n → rdQ gx 22 j = rdQ hx 22 j) (ho : ∀ b, 93 ≤ b → b < hpN hx → rdK gx b = rdK hx b ∧ ∀ j, rdI gx b j = rdI hx b j ∧ rdQ gx b j = rdQ hx b j) (hp : hpN hx ≤ hpN gx) (ck : ∀ j, j ≤ n → rdI gm 72 j = rdI hm 72 j) (c : ∀ b j, (b = 65 ∧ j < 220 * (n + 1)) ∨ ((b = 67 ∨ b = 68) ∧ j < 6 * (n + 1)) → rdI gm b j = rdI hm b j) (c2 : ∀ j, j < 220 * (n + 1) → rdL gm 66 j = rdL hm 66 j) (h : RPg hx hm n) : RPg gx gm n := by
  intro t h1 h2 h3
  rw [ck _ h2] at h3
  obtain ⟨q, e1, ⟨p1, p2, p3⟩, f, N, b1, b2, k, e, ⟨⟨u1, u2, s, d, u3, u4, u5, u6, u7, u8, u9⟩, u10, u11, u12, u13⟩, ⟨⟨v1, v2, v3⟩, v4, v5, v6, v7, v8, v9⟩, hs⟩ := h t h1 h2 h3
  have hk4 := hs.2.2.1
  have ls := p2 s u5
  have ld := p3 d u6
  have oq := ho q u1 p1
  have os := ho s u3 ls
  have od := ho d u4 ld
  have w : ∀ p x y, p < 6 → worked_pre hm t p x y → worked_pre gm t p x y := fun p x y hp z => ⟨by rw [c _ _ (by omega)]; exact z.1, by rw [c _ _ (by omega)]; exact z.2⟩
  refine ⟨q, by rw [a _ h2]; exact e1, ⟨by omega, fun s' z => ?_, fun d' z => ?_⟩, f, N, b1, b2, k, e, ⟨⟨u1, by rw [oq.1]; exact u2, s, d, u3, u4, by rw [(oq.2 _).2]; exact u5, by rw [(oq.2 _).2]; exact u6, by rw [os.1]; exact u7, by rw [od.1]; exact u8, fun j hj => ?_⟩, by rw [(oq.2 _).1]; exact u10, by rw [(oq.2 _).1]; exact u11, by rw [(oq.2 _).1]; exact u12, by rw [(oq.2 _).1]; exact u13⟩, ⟨⟨v1, v2, fun j hj => ?_⟩, fun z => by rw [c _ _ (by omega)]; exact v4 z, fun z => w _ _ _ (by omega) (v5 z), fun z => by rw [c _ _ (by omega)]; exact v6 z, fun z => w _ _ _ (by omega) (v7 z), fun i hi => w _ _ _ (by omega) (v8 i hi), fun i hi z => by rw [c _ _ (by omega)]; exact v9 i hi z⟩, hs⟩
  · rw [(oq.2 _).2] at z
    have := p2 s' z
    omega
  · rw [(oq.2 _).2] at z
    have := p3 d' z
    omega
  · rw [(os.2 _).1, (od.2 _).1]; exact u9 j hj
  · rw [c _ _ (by omega), c2 _ (by omega)]; exact v3 j hj
theorem RAp.c (a : ∀ x < 6, rdI gx (28 + 4 * x) 0 = rdI hx (28 + 4 * x) 0) (c : ∀ j, rdI gm 78 j = rdI hm 78 j) (h : RAp hx hm k n) : RAp gx gm k n := by
  intro x hx6
  obtain ⟨q, e1, e2, e3, e4⟩ := h x hx6
  exact ⟨q, e1, by rw [a x hx6]; exact e2, by rw [c]; exact e3, e4⟩
theorem RAp.le {n' : Nat} (hn : n ≤ n') (h : RAp hx hm k n) : RAp hx hm k n' := by
  intro x hx6
  obtain ⟨q, e1, e2, e3, e4⟩ := h x hx6
  exact ⟨q, e1, e2, e3, fun z => by have := e4 z; omega⟩
theorem ROf.c (a : ∀ x < 6, rdL gx (28 + 4 * x) 1 = rdL hx (28 + 4 * x) 1) (c : ∀ j, rdI gm 79 j = rdI hm 79 j) (h : ROf hx hm) : ROf gx gm := by
  intro x hx6 t ht
  rw [a x hx6, c]
  exact h x hx6 t ht
theorem RRg.c (a : ∀ x < 6, ∀ b j, (b = 28 + 4 * x ∧ (j = 7 ∨ j = 8)) ∨ b = 31 + 4 * x → rdI gx b j = rdI hx b j) (a2 : ∀ x < 6, ∀ j, rdL gx (30 + 4 * x) j = rdL hx (30 + 4 * x) j) (c : ∀ b j, b = 84 ∨ b = 86 → rdI gm b j = rdI hm b j) (c2 : ∀ j, rdL gm 85 j = rdL hm 85 j) (h : RRg hx hm B) : RRg gx gm B := by
  intro x hx6
  obtain ⟨o, e1, e2, e3, e4, e5⟩ := h x hx6
  refine ⟨o, e1, by rw [c _ _ (by omega)]; exact e2, by rw [a x hx6 _ _ (by omega)]; exact e3, by rw [a x hx6 _ _ (by omega)]; exact e4, fun j h1 h2 => ?_⟩
  rw [a2 x hx6, c2, a x hx6 _ _ (by omega), c _ _ (by omega)]
  exact e5 j h1 h2
theorem RRg.le {B' : Nat} (hB : B ≤ B') (h : RRg hx hm B) : RRg hx hm B' := by
  intro x hx6
  obtain ⟨o, e1, e2⟩ := h x hx6
  exact ⟨o, by omega, e2⟩
theorem RFl.c (a : ∀ x < 6, ∀ j, j = 9 ∨ j = 10 ∨ j = 11 → rdI gx (28 + 4 * x) j = rdI hx (28 + 4 * x) j) (c : ∀ b j, b = 87 ∨ b = 88 ∨ b = 89 → rdI gm b j = rdI hm b j) (h : RFl hx hm) : RFl gx gm := by
  intro x hx6
  rw [a x hx6 _ (by omega), a x hx6 _ (by omega), a x hx6 _ (by omega), c _ _ (by omega), c _ _ (by omega), c _ _ (by omega)]
  exact h x hx6
theorem RMk.c (a : rdI gx 4 8 = rdI hx 4 8) (a1 : ∀ m < 4, rdI gx (53 + 2 * m) 0 = rdI hx (53 + 2 * m) 0) (a2 : ∀ m < 4, ∀ j, rdL gx (54 + 2 * m) j = rdL hx (54 + 2 * m) j) (c : ∀ b j, (b = 61 ∧ j = 58) ∨ b = 90 ∨ b = 91 ∨ b = 92 → rdI gm b j = rdI hm b j) (h : RMk hx hm n) : RMk gx gm n := by
  obtain ⟨mk, h1, h2, h3, h4⟩ := h
  refine ⟨mk, h1, by rw [a]; exact h2, by rw [c _ _ (by omega)]; exact h3, fun m hm4 => ?_⟩
  obtain ⟨⟨v, e1, e2, e3⟩, e4, e5⟩ := h4 m hm4
  refine ⟨⟨v, e1, by rw [a1 m (by omega)]; exact e2, by rw [c _ _ (by omega)]; exact e3⟩, by rw [c _ _ (by omega)]; exact e4, fun x hx6 t ht => ?_⟩
  rw [c _ _ (by omega), c _ _ (by omega), a2 m (by omega)]
  exact e5 x hx6 t ht
theorem RMk.le {n' : Nat} (hn : n ≤ n') (h : RMk hx hm n) : RMk hx hm n' := by
  obtain ⟨mk, h1, h2, h3, h4⟩ := h
  refine ⟨mk, h1, h2, h3, fun m hm4 => ?_⟩
  obtain ⟨⟨v, e1, e2⟩, e4⟩ := h4 m hm4
  exact ⟨⟨v, by omega, e2⟩, e4⟩
theorem RMs.c (a : ∀ j, 7 ≤ j → j ≠ 8 → j ≠ 13 → rdI gx 4 j = rdI hx 4 j) (c : ∀ j, (39 ≤ j ∧ j ≤ 42) ∨ j = 55 ∨ j = 57 → rdI gm 61 j = rdI hm 61 j) (h : RMs hx hm k) : RMs gx gm k := by
  obtain ⟨h1, h2, ⟨h3, h4⟩, ⟨h5, h6⟩, h7, h8, h9⟩ := h
  refine ⟨?_, ?_, ⟨?_, ?_⟩, ⟨?_, ?_⟩, ?_, ?_, ?_⟩
  · rw [a _ (by omega) (by omega) (by omega)]; exact h1
  · rw [c _ (by omega)]; exact h2
  · rw [a _ (by omega) (by omega) (by omega), c _ (by omega)]; exact h3
  · rw [c _ (by omega)]; exact h4
  · rw [a _ (by omega) (by omega) (by omega), c _ (by omega)]; exact h5
  · rw [c _ (by omega)]; exact h6
  · rw [a _ (by omega) (by omega) (by omega), c _ (by omega)]; exact h7
  · rw [a _ (by omega) (by omega) (by omega), c _ (by omega)]; exact h8
  · rw [a _ (by omega) (by omega) (by omega), c _ (by omega)]; exact h9
theorem RJd.c (a : ∀ x < 6, rdI gx (28 + 4 * x) 2 = rdI hx (28 + 4 * x) 2) (a1 : rdI gx 4 13 = rdI hx 4 13) (c : ∀ j, rdI gm 83 j = rdI hm 83 j) (c1 : rdI gm 61 56 = rdI hm 61 56) (h : RJd hx hm) : RJd gx gm :=
  ⟨fun x hx6 => by rw [a x hx6, c]; exact h.1 x hx6, by rw [a1, c1]; exact h.2⟩
theorem RRw.c {q c : Nat} (ho : rdK gx q = rdK hx q ∧ ∀ j, rdI gx q j = rdI hx q j ∧ rdL gx q j = rdL hx q j) (hp : hpN hx ≤ hpN gx) (c1 : rdI gm 82 c = rdI hm 82 c) (c2 : ∀ j, 3 * c ≤ j → j < 3 * c + 3 → rdL gm 81 j = rdL hm 81 j) (h : RRw hx hm q c) : RRw gx gm q c := by
  obtain ⟨e1, e2, e3, e4, e5, e6, e7, e8, e9⟩ := h
  exact ⟨e1, by omega, by rw [ho.1]; exact e3, by rw [(ho.2 _).2, c2 _ (by omega) (by omega)]; exact e4, by rw [(ho.2 _).2, c2 _ (by omega) (by omega)]; exact e5, by rw [(ho.2 _).2, c2 _ (by omega) (by omega)]; exact e6, by rw [(ho.2 _).1, c1]; exact e7, by rw [c1]; exact e8, by rw [c1]; exact e9⟩
theorem RWx.c {x : Nat} (a : rdI gx (28 + 4 * x) 4 = rdI hx (28 + 4 * x) 4) (a1 : ∀ j, rdQ gx (29 + 4 * x) j = rdQ hx (29 + 4 * x) j) (ho : ∀ b, 93 ≤ b → b < hpN hx → rdK gx b = rdK hx b ∧ ∀ j, rdI gx b j = rdI hx b j ∧ rdL gx b j = rdL hx b j) (hp : hpN hx ≤ hpN gx) (c : rdI gm 80 x = rdI hm 80 x) (c1 : ∀ j < 6, rdI gm 82 (6 * x + j) = rdI hm 82 (6 * x + j)) (c2 : ∀ j < 18, rdL gm 81 (18 * x + j) = rdL hm 81 (18 * x + j)) (h : RWx hx hm x) : RWx gx gm x := by
  obtain ⟨w, h1, h2, h3, h4⟩ := h
  refine ⟨w, h1, by rw [a]; exact h2, by rw [c]; exact h3, fun j hj => ?_⟩
  obtain ⟨q, e1, e2⟩ := h4 j hj
  refine ⟨q, by rw [a1]; exact e1, RRw.c (ho q e2.1 e2.2.1) hp (c1 j (by omega)) (fun i h5 h6 => ?_) e2⟩
  have := c2 (i - 18 * x) (by omega)
  rw [show 18 * x + (i - 18 * x) = i by omega] at this
  exact this
theorem SC.c (a : ∀ b j, b ≤ 3 → rdI gx b j = rdI hx b j) (h : SC hx) : SC gx :=
  ⟨fun j => by rw [a _ _ (by omega)]; exact h.1 j, by rw [a _ _ (by omega)]; exact h.2.1, fun j => by rw [a _ _ (by omega)]; exact h.2.2 j⟩
theorem Rel.le {B' : Nat} (hB : B ≤ B') (h : Rel B hx hm) : Rel B' hx hm := by
  obtain ⟨n, ns, k, ⟨h0, h1, h2, h3, h4, h5, h6, h7, h8⟩, h9, h10⟩ := h
  exact ⟨n, ns, k, ⟨h0, h1, h2, h3, h4, h5, h6, h7.le hB, h8⟩, h9, h10⟩
end RC
