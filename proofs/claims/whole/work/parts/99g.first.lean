/-! the two objects as they begin -/
section FB
variable {h : AH} {n : Nat} {xs : Nat → Int32}
theorem iF_z {b j : Nat} (h1 : ¬ (b = 61 ∧ j = 42)) (h2 : ¬ (b = 4 ∧ j = 7)) (h3 : ¬ (28 ≤ b ∧ b ≤ 48 ∧ b % 4 = 0 ∧ (j = 10 ∨ j = 11))) : iF b j = 0 := by
  simp only [iF, uI]
  repeat rw [if_neg (by omega)]
def phiOK (a k : Nat) : Bool := match phiS a k with
  | none => true
  | some r => decide ((if a < 4 then (if a = 2 ∧ k = 0 then some 3 else none) else iQ a k) = some r)
set_option maxRecDepth 100000 in
theorem phi_ok : ∀ a < 93, ∀ k < 62, phiOK a k = true := by decide +kernel
theorem phi_len : phiL.length = 92 ∧ ∀ l ∈ phiL, l.length ≤ 62 := by decide +kernel
theorem phi_in {a k r : Nat} (h : phiS a k = some r) : a < 93 ∧ k < 62 := by
  unfold phiS at h
  by_cases c : a = 0
  · rw [if_pos c] at h; cases h
  · rw [if_neg c, List.getD_eq_getElem?_getD, List.getD_eq_getElem?_getD] at h
    cases e : phiL[a - 1]? with
    | none => rw [e] at h; simp at h
    | some l =>
      rw [e] at h
      have h1 := (List.getElem?_eq_some_iff.mp e).1
      have h2 := phi_len.2 l (List.mem_of_getElem? e)
      rw [phi_len.1] at h1
      cases e2 : l[k]? with
      | none => rw [Option.getD_some, e2] at h; simp at h
      | some y =>
        have h3 := (List.getElem?_eq_some_iff.mp e2).1
        omega
theorem kap_in {a : Nat} {K : Nat × Nat} (h : kapS a = some K) : a < 93 := by
  unfold kapS at h
  by_cases c : a = 0
  · omega
  · rw [if_neg c] at h
    have h1 := (List.getElem?_eq_some_iff.mp h).1
    have h2 : kapL.length = 92 := by decide +kernel
    omega
theorem init_AG (P : PI (h00 n xs) h 93 35036 iF iQ) : AG GX h := by
  obtain ⟨p1, p2, p3, p4, p5, p6, p7⟩ := P
  refine ⟨fun a k r hr => ?_, fun a K hK => ?_, fun a q => ?_⟩
  · have hr : phiS a k = some r := hr
    obtain ⟨a1, a2⟩ := phi_in hr
    have ok := phi_ok a a1 k a2
    unfold phiOK at ok
    rw [hr] at ok
    have ok := of_decide_eq_true ok
    refine ⟨?_, by omega⟩
    by_cases c : a < 4
    · rw [if_pos c] at ok
      rw [((p4 a c).1 k).2.2]
      exact ok
    · rw [if_neg c] at ok
      rw [(p5 a (by omega) k).2.2]
      exact ok
  · have hK : kapS a = some K := hK
    have a1 := kap_in hK
    refine ⟨?_, by omega⟩
    by_cases c : a < 4
    · rw [(p4 a c).2]
      have : a = 0 ∨ a = 1 ∨ a = 2 ∨ a = 3 := by omega
      rcases this with rfl | rfl | rfl | rfl
      · cases hK
      · exact Option.some.inj hK
      · exact Option.some.inj hK
      · exact Option.some.inj hK
    · have := p7 a (by omega) a1
      rw [hK] at this
      exact (Option.some.inj this).symm
  · have : ((decide (4 ≤ a) && decide (a < 61)) || decide (93 ≤ a)) = true := q
    simp only [Bool.or_eq_true, Bool.and_eq_true, decide_eq_true_eq] at this
    omega
theorem init_LI (P : PI (h00 n xs) h 93 35036 iF iQ) : LI n xs 0 h := by
  have A := init_AG P
  obtain ⟨p1, p2, p3, p4, p5, p6, p7⟩ := P
  have rI : ∀ b j, 4 ≤ b → rdI h b j = iF b j := fun b j hb => (p5 b hb j).1
  have rL : ∀ b j, 4 ≤ b → rdL h b j = 0 := fun b j hb => (p5 b hb j).2.1
  have z : ∀ b j, 4 ≤ b → ¬ (b = 61 ∧ j = 42) → ¬ (b = 4 ∧ j = 7) → ¬ (28 ≤ b ∧ b ≤ 48 ∧ b % 4 = 0 ∧ (j = 10 ∨ j = 11)) → rdI h b j = 0 := fun b j hb h1 h2 h3 => by rw [rI b j hb, iF_z h1 h2 h3]
  refine ⟨A, ⟨0, 0, 1, ⟨⟨by omega, by omega, by omega⟩, ?_, ?_, ?_, ?_, ?_, ?_, ?_, ?_, ?_, ?_, ?_⟩, ⟨fun y hy => ?_, ?_⟩, fun y hy => ?_⟩, by omega, by omega, fun j => ?_, ?_⟩
  · exact ⟨0, by omega, z _ _ (by omega) (by omega) (by omega) (by omega), z _ _ (by omega) (by omega) (by omega) (by omega), fun i hi => by omega⟩
  · exact ⟨fun _ => 0, ⟨z _ _ (by omega) (by omega) (by omega) (by omega), by omega, fun j hj => by omega⟩, z _ _ (by omega) (by omega) (by omega) (by omega), by omega, fun j hj => by omega⟩
  · refine ⟨by omega, z _ _ (by omega) (by omega) (by omega) (by omega), z _ _ (by omega) (by omega) (by omega) (by omega), fun i i1 i2 => by omega, fun i i1 i2 => by omega, fun v hv r hr => ?_⟩
    have ev : v = 0 := by omega
    subst ev
    refine ⟨0, z _ _ (by omega) (by omega) (by omega) (by omega), z _ _ (by omega) (by omega) (by omega) (by omega), by omega, fun q => absurd rfl q, Or.inr ⟨?_, z _ _ (by omega) (by omega) (by omega) (by omega)⟩⟩
    rw [z _ _ (by omega) (by omega) (by omega) (by omega)]
    exact bI_0 r
  · intro t h1 h2; omega
  · intro y hy
    exact ⟨0, by omega, z _ _ (by omega) (by omega) (by omega) (by omega), z _ _ (by omega) (by omega) (by omega) (by omega), fun _ => by omega⟩
  · intro y hy t ht
    refine Or.inr ⟨?_, z _ _ (by omega) (by omega) (by omega) (by omega)⟩
    rw [rL _ _ (by omega)]; exact bL_0 t
  · intro y hy
    exact ⟨0, by omega, z _ _ (by omega) (by omega) (by omega) (by omega), z _ _ (by omega) (by omega) (by omega) (by omega), z _ _ (by omega) (by omega) (by omega) (by omega), fun j _ q => by omega⟩
  · intro y hy
    rw [z _ _ (by omega) (by omega) (by omega) (by omega), z 87 y (by omega) (by omega) (by omega) (by omega)]
    refine ⟨rfl, Or.inl ⟨rfl, ?_, ?_⟩⟩
    · rw [rI _ _ (by omega)]
      rcases six hy with rfl | rfl | rfl | rfl | rfl | rfl <;> rfl
    · rw [rI _ _ (by omega)]
      rcases six hy with rfl | rfl | rfl | rfl | rfl | rfl <;> rfl
  · exact ⟨0, by omega, z _ _ (by omega) (by omega) (by omega) (by omega), z _ _ (by omega) (by omega) (by omega) (by omega), fun m hm => by omega⟩
  · have e1 : rdI h 4 7 = 1 := by rw [rI _ _ (by omega)]; rfl
    have e2 : rdI h 61 42 = 1 := by rw [rI _ _ (by omega)]; rfl
    have z4 : ∀ j, j ≠ 7 → rdI h 4 j = 0 := fun j hj => z _ _ (by omega) (by omega) (by omega) (by omega)
    have z61 : ∀ j, j ≠ 42 → rdI h 61 j = 0 := fun j hj => z _ _ (by omega) (by omega) (by omega) (by omega)
    refine ⟨e1, e2, ⟨?_, ?_⟩, ⟨?_, ?_⟩, ?_, ?_, ?_⟩
    · rw [z4 _ (by omega), z61 _ (by omega)]
    · rw [z61 _ (by omega)]; rfl
    · rw [z4 _ (by omega), z61 _ (by omega)]
    · rw [z61 _ (by omega)]; rfl
    · rw [z4 _ (by omega), z61 _ (by omega)]
    · rw [z4 _ (by omega), z61 _ (by omega)]
    · rw [z4 _ (by omega), z61 _ (by omega)]
  · refine ⟨fun j => ?_, ?_, fun j => ?_⟩
    · rw [((p4 1 (by omega)).1 j).1]; rfl
    · rw [((p4 2 (by omega)).1 1).1]; rfl
    · rw [((p4 3 (by omega)).1 j).1]; rfl
  · rw [z _ _ (by omega) (by omega) (by omega) (by omega), z _ _ (by omega) (by omega) (by omega) (by omega)]
  · rw [z _ _ (by omega) (by omega) (by omega) (by omega), z _ _ (by omega) (by omega) (by omega) (by omega)]
  · exact ⟨0, by omega, z _ _ (by omega) (by omega) (by omega) (by omega), z _ _ (by omega) (by omega) (by omega) (by omega), fun j hj => by omega⟩
  · rw [((p4 0 (by omega)).1 j).1]; rfl
  · rw [(p4 0 (by omega)).2]; rfl
end FB
theorem lawRun : LawRun := fun L xs hL => init_run (fun h P => law_loop hL L 0 h (by omega) (by omega) (init_LI P))
