section SO
variable {f : Cd} {a b c k : Nat} {K : Rw → Prop}
theorem Sq_push {x : Ev → Int64} (h : ∀ E n S, StA E (f a) a n S (.inr (a + 1, n + 1, up S n (x E)))) : Sq f a (a + 1) 1 kT := by
  refine ⟨by omega, fun E => Or.inr ⟨fun _ => x E, trivial, fun n S => ⟨1, up S n (x E), Itr_one (by omega) (h E n S), fun i hi => ?_, fun i hi => ?_⟩⟩⟩
  · have : i = 0 := by omega
    subst this
    simp [up]
  · simp [up]; omega
theorem Sq_num (h : (f a).1 = -4) (hd : inr (f a).2) : Sq f a (a + 1) 1 kT := Sq_push (x := fun _ => Int64.ofInt (f a).2) fun _ _ _ => Or.inl ⟨h, hd, rfl⟩
theorem Sq_var (h : (f a).1 = 107 ∨ (f a).1 = 116 ∨ (f a).1 = 118 ∨ (f a).1 = 110) : Sq f a (a + 1) 1 kT := by
  rcases h with h | h | h | h
  · exact Sq_push (x := fun E => E.1) fun _ _ _ => Or.inr (Or.inl ⟨h, rfl⟩)
  · exact Sq_push (x := fun E => E.2.1) fun _ _ _ => Or.inr (Or.inr (Or.inl ⟨h, rfl⟩))
  · exact Sq_push (x := fun E => E.2.2.1) fun _ _ _ => Or.inr (Or.inr (Or.inr (Or.inl ⟨h, rfl⟩)))
  · exact Sq_push (x := fun E => E.2.2.2) fun _ _ _ => Or.inr (Or.inr (Or.inr (Or.inr (Or.inl ⟨h, rfl⟩))))
theorem Sq_neg (h1 : Sq f a b 1 kT) (h : (f b).1 = -10) : Sq f a (b + 1) 1 kT := by
  refine Sq_op (v' := fun _ v => .inr (- v 0)) h1 (fun E v _ => ⟨fun e he => (by cases he), fun u hu n S hS => ?_⟩) (fun _ _ _ _ _ => trivial)
  cases hu
  refine Or.inr (Or.inr (Or.inr (Or.inr (Or.inr (Or.inl ⟨h, by omega, ?_⟩)))))
  have := hS 0 (by omega)
  rw [show n + 1 - 1 = n by omega, ← this]
  rfl
theorem Sq_not (h1 : Sq f a b 1 kB) (h : (f b).1 = 7237492) : Sq f a (b + 1) 1 kB := by
  refine Sq_op (v' := fun _ v => .inr (1 - v 0)) h1 (fun E v hv => ⟨fun e he => (by cases he), fun u hu n S hS => ?_⟩) (fun _ v u hv hu => ?_)
  · cases hu
    have := hS 0 (by omega)
    have e0 : n + 1 - 1 = n := by omega
    have e1 : S n = v 0 := this
    refine Or.inr (Or.inr (Or.inr (Or.inr (Or.inr (Or.inr (Or.inl ⟨h, by omega, ?_, ?_⟩))))))
    · rw [e0, e1]; exact hv
    · rw [e0, e1]
  · cases hu
    rcases hv with q | q
    · right; show 1 - v 0 = 1; rw [q]; rfl
    · left; show 1 - v 0 = 0; rw [q]; rfl
theorem Sq_bin (h1 : Sq f a b 1 kT) (h2 : Sq f b c 1 kT) (h : isBin (f c).1) : Sq f a (c + 1) 1 kT := by
  refine Sq_op (k := 2) (v' := fun _ v => if v 1 = 0 ∧ ((f c).1 = 47 ∨ (f c).1 = 37) then .inl 1 else .inr (cmb (f c).1 (v 0) (v 1))) (Sq_comp h1 h2) (fun E v _ => ⟨fun e he n S hS => ?_, fun u hu n S hS => ?_⟩) (fun _ _ _ _ _ => trivial)
  · have e0 := hS 0 (by omega)
    have e1 := hS 1 (by omega)
    split at he
    · rename_i q
      cases he
      refine Or.inr (Or.inr (Or.inr (Or.inr (Or.inr (Or.inr (Or.inr (Or.inr (Or.inr ⟨h, by omega, Or.inl ⟨?_, q.2, rfl⟩⟩))))))))
      rw [show n + 2 - 1 = n + 1 by omega, e1, q.1]
    · cases he
  · have e0 := hS 0 (by omega)
    have e1 := hS 1 (by omega)
    split at hu
    · cases hu
    · rename_i q
      cases hu
      refine Or.inr (Or.inr (Or.inr (Or.inr (Or.inr (Or.inr (Or.inr (Or.inr (Or.inr ⟨h, by omega, Or.inr ⟨?_, ?_⟩⟩))))))))
      · rw [show n + 2 - 1 = n + 1 by omega, e1]; exact q
      · rw [show n + 2 - 1 = n + 1 by omega, show n + 2 - 2 = n by omega, e1, show S n = v 0 from e0]
theorem Sq_rel (h1 : Sq f a b 1 kT) (h2 : Sq f b c 1 kT) (h : (f c).1 = 60 ∨ (f c).1 = 62 ∨ (f c).1 = 61 ∨ (f c).1 = 35 ∨ (f c).1 = 15421 ∨ (f c).1 = 15933) : Sq f a (c + 1) 1 kB := by
  have hb : isBin (f c).1 := by unfold isBin; omega
  refine Sq_op (k := 2) (v' := fun _ v => .inr (cmb (f c).1 (v 0) (v 1))) (Sq_comp h1 h2) (fun E v _ => ⟨fun e he => by (cases he), fun u hu n S hS => ?_⟩) (fun _ v u hv hu => ?_)
  · have e0 := hS 0 (by omega)
    have e1 := hS 1 (by omega)
    cases hu
    refine Or.inr (Or.inr (Or.inr (Or.inr (Or.inr (Or.inr (Or.inr (Or.inr (Or.inr ⟨hb, by omega, Or.inr ⟨?_, ?_⟩⟩))))))))
    · omega
    · rw [show n + 2 - 1 = n + 1 by omega, show n + 2 - 2 = n by omega, e1, show S n = v 0 from e0]
  · cases hu
    show cmb (f c).1 (v 0) (v 1) = 0 ∨ cmb (f c).1 (v 0) (v 1) = 1
    unfold cmb
    rcases h with q | q | q | q | q | q <;> simp only [q, Int.reduceEq, if_true, if_false] <;> grind
theorem Sq_pick (h1 : Sq f a b 1 kT) (h2 : Sq f b c k kT) (hk : 1 ≤ k) (hk6 : k ≤ 6) (h : (f c).1 = 1885954923) (hd : (f c).2 = k) : Sq f a (c + 1) 1 kT := by
  refine Sq_op (k := 1 + k) (v' := fun _ v => if 0 ≤ (v 0).toInt ∧ (v 0).toInt < k then .inr (v (1 + (v 0).toInt.toNat)) else .inl 2) (Sq_comp h1 h2) (fun E v _ => ⟨fun e he n S hS => ?_, fun u hu n S hS => ?_⟩) (fun _ _ _ _ _ => trivial)
  · have e0 : S n = v 0 := hS 0 (by omega)
    split at he
    · cases he
    · rename_i q
      cases he
      refine Or.inr (Or.inr (Or.inr (Or.inr (Or.inr (Or.inr (Or.inr (Or.inl ⟨h, k, n, hd, hk, hk6, by omega, Or.inl ⟨?_, rfl⟩⟩)))))))
      rw [e0]; exact q
  · have e0 : S n = v 0 := hS 0 (by omega)
    split at hu
    · rename_i q
      cases hu
      refine Or.inr (Or.inr (Or.inr (Or.inr (Or.inr (Or.inr (Or.inr (Or.inl ⟨h, k, n, hd, hk, hk6, by omega, Or.inr ⟨(v 0).toInt.toNat, by omega, ?_, ?_⟩⟩)))))))
      · rw [e0, ← Int64.toInt_inj, Int64.toInt_ofInt_of_le (by omega) (by omega)]
        omega
      · have := hS (1 + (v 0).toInt.toNat) (by omega)
        rw [← this, show n + (1 + (v 0).toInt.toNat) = n + 1 + (v 0).toInt.toNat by omega]
    · cases hu
/-- and, or -/
theorem Sq_dec (h1 : Sq f a b 1 kB) (h2 : Sq f (b + 1) c 1 kB) (h : (f b).1 = 28530 ∨ (f b).1 = 6385252) (hd : (f b).2 = c) (hc : c ≤ 200) : Sq f a c 1 kB := by
  have l1 := h1.1
  have l2 := h2.1
  refine ⟨by omega, fun E => ?_⟩
  rcases h1.2 E with ⟨e, h3⟩ | ⟨v, hv, h3⟩
  · refine Or.inl ⟨e, fun n S => ?_⟩
    obtain ⟨j, h4⟩ := h3 n S
    exact ⟨j, Itr_mono (by omega) h4⟩
  · by_cases q : v 0 ≠ 0 ↔ (f b).1 = 28530
    · refine Or.inr ⟨v, hv, fun n S => ?_⟩
      obtain ⟨j, S', h5, h6, h7⟩ := h3 n S
      have e0 : S' n = v 0 := h6 0 (by omega)
      refine ⟨j + 1, S', Itr_comp (Itr_one (by omega) (Or.inr (Or.inr (Or.inr (Or.inr (Or.inr (Or.inr (Or.inr (Or.inr (Or.inl ⟨h, by omega, c, hd, by omega, hc, Or.inl ⟨?_, rfl⟩⟩)))))))))) (Itr_mono (by omega) h5), h6, h7⟩
      rw [show n + 1 - 1 = n by omega, e0]; exact q
    · have st : ∀ n (S' : Rw), S' n = v 0 → StA E (f b) b (n + 1) S' (.inr (b + 1, n, S')) := by
        intro n S' e0
        refine Or.inr (Or.inr (Or.inr (Or.inr (Or.inr (Or.inr (Or.inr (Or.inr (Or.inl ⟨h, by omega, c, hd, by omega, hc, Or.inr ⟨?_, ?_⟩⟩))))))))
        · rw [show n + 1 - 1 = n by omega, e0]; exact q
        · rw [show n + 1 - 1 = n by omega]
      rcases h2.2 E with ⟨e, h4⟩ | ⟨u, hu, h4⟩
      · refine Or.inl ⟨e, fun n S => ?_⟩
        obtain ⟨j, S', h5, h6, -⟩ := h3 n S
        obtain ⟨j2, h8⟩ := h4 n S'
        exact ⟨j + (1 + j2), Itr_comp (Itr_comp h8 (Itr_one (by omega) (st n S' (h6 0 (by omega))))) (Itr_mono (by omega) h5)⟩
      · refine Or.inr ⟨u, hu, fun n S => ?_⟩
        obtain ⟨j, S', h5, h6, h7⟩ := h3 n S
        obtain ⟨j2, S2, h8, h9, h10⟩ := h4 n S'
        exact ⟨j + (1 + j2), S2, Itr_comp (Itr_comp h8 (Itr_one (by omega) (st n S' (h6 0 (by omega))))) (Itr_mono (by omega) h5), h9, fun i hi => by rw [h10 i hi, h7 i hi]⟩
end SO
