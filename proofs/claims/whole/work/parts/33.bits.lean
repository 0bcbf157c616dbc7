/-! bits -/
def bL (w : Int64) (t : Nat) : Bool := w.toBitVec.getLsbD t
def bI (o : Int) (r : Nat) : Bool := (Int32.ofInt o).toBitVec.getLsbD r
theorem amt64 : ∀ k : Fin 64, ((Int32.ofInt (k.val : Int)).toInt64.toUInt64 &&& Int64.toUInt64 63).toNat % 64 = k.val := by decide +kernel
theorem amt64s : ∀ k : Fin 64, (((Int32.ofInt (k.val : Int)).toInt64 &&& 63).toBitVec.smod 64).toNat = k.val := by decide +kernel
theorem amt32 : ∀ k : Fin 32, ((Int32.ofInt (k.val : Int)).toUInt32 &&& Int32.toUInt32 31).toNat % 32 = k.val := by decide +kernel
theorem amt32s : ∀ k : Fin 32, ((Int32.ofInt (k.val : Int) &&& 31).toBitVec.smod 32).toNat = k.val := by decide +kernel
theorem bL_get {w : Int64} {t : Nat} (ht : t < 64) : ((w.toUInt64 >>> ((Int32.ofInt (t : Int)).toInt64.toUInt64 &&& Int64.toUInt64 63)).toInt64 &&& Int64.ofInt 1 = Int64.ofInt 0) ↔ bL w t = false := by
  have hs := amt64 ⟨t, ht⟩
  simp only at hs
  rw [← Int64.toBitVec_inj]
  have e1 : (Int64.ofInt 1).toBitVec = 1#64 := rfl
  have e0 : (Int64.ofInt 0).toBitVec = 0#64 := rfl
  have e2 : ((w.toUInt64 >>> ((Int32.ofInt (t : Int)).toInt64.toUInt64 &&& Int64.toUInt64 63)).toInt64).toBitVec = w.toBitVec >>> t := by
    show (w.toUInt64 >>> ((Int32.ofInt (t : Int)).toInt64.toUInt64 &&& Int64.toUInt64 63)).toBitVec = _
    rw [UInt64.toBitVec_shiftRight]
    have : (((Int32.ofInt (t : Int)).toInt64.toUInt64 &&& Int64.toUInt64 63).toBitVec % 64#64).toNat = t := by
      rw [BitVec.toNat_umod]
      exact hs
    show w.toBitVec >>> (((Int32.ofInt (t : Int)).toInt64.toUInt64 &&& Int64.toUInt64 63).toBitVec % 64#64) = _
    rw [BitVec.ushiftRight_eq', this]
  rw [Int64.toBitVec_and, e1, e0, e2]
  unfold bL
  constructor
  · intro h
    have := congrArg (fun z => z.getLsbD 0) h
    simpa using this
  · intro h
    apply BitVec.eq_of_getLsbD_eq
    intro i hi
    by_cases hi0 : i = 0
    · subst hi0
      simpa using h
    · simp [hi0]
theorem bL_set {w : Int64} {t j : Nat} (ht : t < 64) (hj : j < 64) : bL (w ||| (Int64.ofInt 1 <<< ((Int32.ofInt (t : Int)).toInt64 &&& 63))) j = (bL w j || decide (j = t)) := by
  have hs := amt64s ⟨t, ht⟩
  simp only at hs
  unfold bL
  rw [Int64.toBitVec_or, BitVec.getLsbD_or]
  congr 1
  have e : (Int64.ofInt 1 <<< ((Int32.ofInt (t : Int)).toInt64 &&& 63)).toBitVec = 1#64 <<< t := by
    show (1#64 : BitVec 64) <<< ((((Int32.ofInt (t : Int)).toInt64 &&& 63).toBitVec.smod 64)) = _
    rw [BitVec.shiftLeft_eq', hs]
  rw [e]
  simp only [BitVec.getLsbD_shiftLeft, hj, decide_true, Bool.true_and, BitVec.getLsbD_one]
  by_cases h1 : j = t
  · subst h1; simp
  · by_cases h2 : j < t
    · simp [h1, h2]
    · simp [h1, h2]; omega
theorem bL_0 (j : Nat) : bL 0 j = false := by simp [bL]
theorem bI_0 (j : Nat) : bI 0 j = false := by
  show (0#32 : BitVec 32).getLsbD j = false
  simp
theorem bI_get {o : Int} {t : Nat} (ht : t < 32) : ((Int32.ofInt ((Int32.ofInt o).toUInt32 >>> ((Int32.ofInt (t : Int)).toUInt32 &&& Int32.toUInt32 31)).toInt32.toInt &&& Int32.ofInt 1).toInt = 0) ↔ bI o t = false := by
  have hs := amt32 ⟨t, ht⟩
  simp only at hs
  rw [oi_to, show (0 : Int) = (0 : Int32).toInt from rfl, Int32.toInt_inj, ← Int32.toBitVec_inj]
  have e1 : (Int32.ofInt 1).toBitVec = 1#32 := rfl
  have e0 : (0 : Int32).toBitVec = 0#32 := rfl
  have e2 : (((Int32.ofInt o).toUInt32 >>> ((Int32.ofInt (t : Int)).toUInt32 &&& Int32.toUInt32 31)).toInt32).toBitVec = (Int32.ofInt o).toBitVec >>> t := by
    show ((Int32.ofInt o).toUInt32 >>> ((Int32.ofInt (t : Int)).toUInt32 &&& Int32.toUInt32 31)).toBitVec = _
    rw [UInt32.toBitVec_shiftRight]
    have : (((Int32.ofInt (t : Int)).toUInt32 &&& Int32.toUInt32 31).toBitVec % 32#32).toNat = t := by
      rw [BitVec.toNat_umod]
      exact hs
    show (Int32.ofInt o).toBitVec >>> (((Int32.ofInt (t : Int)).toUInt32 &&& Int32.toUInt32 31).toBitVec % 32#32) = _
    rw [BitVec.ushiftRight_eq', this]
  rw [Int32.toBitVec_and, e1, e0, e2]
  unfold bI
  constructor
  · intro h
    have := congrArg (fun z => z.getLsbD 0) h
    simpa using this
  · intro h
    apply BitVec.eq_of_getLsbD_eq
    intro i hi
    by_cases hi0 : i = 0
    · subst hi0
      simpa using h
    · simp [hi0]
theorem bI_one {t j : Nat} (ht : t < 32) (hj : j < 32) : (Int32.ofInt 1 <<< (Int32.ofInt (t : Int) &&& 31)).toBitVec.getLsbD j = decide (j = t) := by
  have hs := amt32s ⟨t, ht⟩
  simp only at hs
  have e : (Int32.ofInt 1 <<< (Int32.ofInt (t : Int) &&& 31)).toBitVec = 1#32 <<< t := by
    show (1#32 : BitVec 32) <<< (((Int32.ofInt (t : Int) &&& 31).toBitVec.smod 32)) = _
    rw [BitVec.shiftLeft_eq', hs]
  rw [e]
  simp only [BitVec.getLsbD_shiftLeft, hj, decide_true, Bool.true_and, BitVec.getLsbD_one]
  by_cases h1 : j = t
  · subst h1; simp
  · by_cases h2 : j < t
    · simp [h1, h2]
    · simp [h1, h2]; omega
theorem bI_set {o : Int} {t j : Nat} (ht : t < 32) (hj : j < 32) : bI (Int32.ofInt o ||| Int32.ofInt (Int32.ofInt 1 <<< (Int32.ofInt (t : Int) &&& 31)).toInt).toInt j = (bI o j || decide (j = t)) := by
  unfold bI
  rw [oi_to, oi_to, Int32.toBitVec_or, BitVec.getLsbD_or, bI_one ht hj]
theorem bI_clr {o : Int} {t j : Nat} (ht : t < 32) (hj : j < 32) : bI (Int32.ofInt o &&& Int32.ofInt (Int32.ofInt (Int32.ofInt 1 <<< (Int32.ofInt (t : Int) &&& 31)).toInt ^^^ Int32.ofInt (-1)).toInt).toInt j = (bI o j && !decide (j = t)) := by
  unfold bI
  rw [oi_to, oi_to, oi_to, Int32.toBitVec_and, BitVec.getLsbD_and, Int32.toBitVec_xor, BitVec.getLsbD_xor, bI_one ht hj]
  have : (Int32.ofInt (-1)).toBitVec.getLsbD j = true := by
    exact (by decide +kernel : ∀ j : Fin 32, (Int32.ofInt (-1)).toBitVec.getLsbD j.val = true) ⟨j, hj⟩
  rw [this]
  simp
