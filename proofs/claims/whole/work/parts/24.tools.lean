/-! small things for reading methods -/
theorem w32_lit {z : Int} (h1 : -2147483648 ≤ z := by decide) (h2 : z < 2147483648 := by decide) : w32 z = z := w32_id h1 h2
theorem inA_t {x : Int} {n : Nat} (h1 : 0 ≤ x) (h2 : x < n) : (inA x n = true) = True := by simp [inA, h1, h2]
theorem isZ_t {x : Int} (h1 : 0 ≤ x) (h2 : x ≤ 1) : (isZ x = true) = True := by
  simp only [eq_iff_iff, iff_true, isZ_iff]
  omega
/-- four bytes come behind a text: its row, its object, its length's place -/
def ap4 (h : AH) (aB aO f : Nat) (b0 b1 b2 b3 : Int) : AH := wrI (wrI (wrI (wrI (wrI (wrI (wrI (wrI h aB (rdI h aO f).toNat b0) aO f (rdI h aO f + 1)) aB (rdI h aO f + 1).toNat b1) aO f (rdI h aO f + 1 + 1)) aB (rdI h aO f + 1 + 1).toNat b2) aO f (rdI h aO f + 1 + 1 + 1)) aB (rdI h aO f + 1 + 1 + 1).toNat b3) aO f (rdI h aO f + 1 + 1 + 1 + 1)
/-- the byte of a number, k bits up -/
def byA (n k : Int) : Int := (Int32.ofInt n >>> (Int32.ofInt k &&& 31)).toInt8.toInt32.toInt
theorem byM_eq (n k : Int) : (Int32.ofInt (Int32.ofInt (Int32.ofInt n >>> (Int32.ofInt k &&& 31)).toInt).toInt8.toInt32.toInt).toInt8.toInt32.toInt = byA n k := by
  rw [oi_to, oi_to, Int8.toInt8_toInt32]
  rfl
theorem sh_by (z : Int32) (k : Nat) (hk : k ≤ 24) (s1 : UInt32) (s2 : Int32) (h1 : s1.toBitVec.toNat % 32 = k) (h2 : (s2.toBitVec.smod 32).toNat = k) : (z.toUInt32 >>> s1).toInt32.toInt8 = (z >>> s2).toInt8 := by
  apply Int8.toBitVec_inj.mp
  apply BitVec.eq_of_getLsbD_eq
  intro i hi
  have e1 : ((z.toUInt32 >>> s1).toInt32.toInt8).toBitVec.getLsbD i = z.toBitVec.getLsbD (k + i) := by
    have hs : s1.toNat % 32 = k := h1
    simp [hs, hi, BitVec.getElem_signExtend, show i < 32 by omega]
  have e2 : ((z >>> s2).toInt8).toBitVec.getLsbD i = z.toBitVec.getLsbD (k + i) := by
    have hs : (s2.toBitVec.smod 32#32).toNat = k := h2
    simp [hs, hi, BitVec.getElem_signExtend, BitVec.getElem_sshiftRight, show i < 32 by omega, show k + i < 32 by omega]
  rw [e1, e2]
theorem byX_24 (n : Int) : (Int32.ofInt (Int32.ofInt ((Int32.ofInt n).toUInt32 >>> ((Int32.ofInt 24).toUInt32 &&& Int32.toUInt32 31)).toInt32.toInt).toInt8.toInt32.toInt).toInt8.toInt32.toInt = byA n 24 := by
  rw [oi_to, oi_to, Int8.toInt8_toInt32, sh_by _ 24 (by omega) _ (Int32.ofInt 24 &&& 31) (by decide) (by decide)]
  rfl
theorem byX_16 (n : Int) : (Int32.ofInt (Int32.ofInt ((Int32.ofInt n).toUInt32 >>> ((Int32.ofInt 16).toUInt32 &&& Int32.toUInt32 31)).toInt32.toInt).toInt8.toInt32.toInt).toInt8.toInt32.toInt = byA n 16 := by
  rw [oi_to, oi_to, Int8.toInt8_toInt32, sh_by _ 16 (by omega) _ (Int32.ofInt 16 &&& 31) (by decide) (by decide)]
  rfl
theorem byX_8 (n : Int) : (Int32.ofInt (Int32.ofInt ((Int32.ofInt n).toUInt32 >>> ((Int32.ofInt 8).toUInt32 &&& Int32.toUInt32 31)).toInt32.toInt).toInt8.toInt32.toInt).toInt8.toInt32.toInt = byA n 8 := by
  rw [oi_to, oi_to, Int8.toInt8_toInt32, sh_by _ 8 (by omega) _ (Int32.ofInt 8 &&& 31) (by decide) (by decide)]
  rfl
theorem byX_0 (n : Int) : (Int32.ofInt (Int32.ofInt ((Int32.ofInt n).toUInt32 >>> ((Int32.ofInt 0).toUInt32 &&& Int32.toUInt32 31)).toInt32.toInt).toInt8.toInt32.toInt).toInt8.toInt32.toInt = byA n 0 := by
  rw [oi_to, oi_to, Int8.toInt8_toInt32, sh_by _ 0 (by omega) _ (Int32.ofInt 0 &&& 31) (by decide) (by decide)]
  rfl
theorem i64_nlt {u v : Int64} : ¬ u < v ↔ v ≤ u := by rw [Int64.lt_iff_toInt_lt, Int64.le_iff_toInt_le]; omega
theorem i64_nle {u v : Int64} : ¬ u ≤ v ↔ v < u := by rw [Int64.lt_iff_toInt_lt, Int64.le_iff_toInt_le]; omega
theorem i64_irr {u : Int64} : ¬ u < u := by rw [Int64.lt_iff_toInt_lt]; omega
theorem i64_tri (u v : Int64) : u < v ∨ u = v ∨ v < u := by
  rw [Int64.lt_iff_toInt_lt, Int64.lt_iff_toInt_lt, ← Int64.toInt_inj]; omega
theorem lc_lt {u v : Int64} : lcmpA u v < 0 ↔ u < v := by
  unfold lcmpA
  rcases i64_tri u v with h | h | h
  · have h1 : ¬ v < u := by rw [Int64.lt_iff_toInt_lt] at *; omega
    have h2 : ¬ u = v := fun e => i64_irr (e ▸ h)
    simp [h1, h2, h]
  · subst h; simp [i64_irr]
  · have h1 : ¬ u < v := by rw [Int64.lt_iff_toInt_lt] at *; omega
    simp [h, h1]
theorem lc_gt {u v : Int64} : 0 < lcmpA u v ↔ v < u := by
  unfold lcmpA
  rcases i64_tri u v with h | h | h
  · have h1 : ¬ v < u := by rw [Int64.lt_iff_toInt_lt] at *; omega
    have h2 : ¬ u = v := fun e => i64_irr (e ▸ h)
    simp [h1, h2]
  · subst h; simp [i64_irr]
  · simp [h]
theorem lc_eq {u v : Int64} : lcmpA u v = 0 ↔ u = v := by
  unfold lcmpA
  rcases i64_tri u v with h | h | h
  · have h1 : ¬ v < u := by rw [Int64.lt_iff_toInt_lt] at *; omega
    have h2 : ¬ u = v := fun e => i64_irr (e ▸ h)
    simp [h1, h2]
  · subst h; simp [i64_irr]
  · have h2 : ¬ u = v := fun e => i64_irr (e ▸ h)
    simp [h, h2]
theorem lc_ge {u v : Int64} : 0 ≤ lcmpA u v ↔ v ≤ u := by
  rw [← i64_nlt, ← lc_lt]; omega
theorem lc_le {u v : Int64} : lcmpA u v ≤ 0 ↔ u ≤ v := by
  rw [← i64_nlt, ← lc_gt]; omega
theorem i2l_id {x : Int} (h1 : -2147483648 ≤ x) (h2 : x < 2147483648) : (Int32.ofInt x).toInt64 = Int64.ofInt x := by
  rw [← Int64.toInt_inj, Int32.toInt_toInt64, to_oi ⟨h1, h2⟩, Int64.toInt_ofInt_of_le (by omega) (by omega)]
theorem l2i_id {x : Int} (h1 : -2147483648 ≤ x) (h2 : x < 2147483648) : (Int64.ofInt x).toInt32.toInt = x := by
  rw [Int64.toInt_toInt32, Int64.toInt_ofInt_of_le (by omega) (by omega), Int.bmod_eq_of_le (by omega) (by omega)]
theorem oL_le {x y : Int} (h1 : -2147483649 ≤ x) (h2 : x < 2147483649) (h3 : -2147483649 ≤ y) (h4 : y < 2147483649) : (Int64.ofInt x ≤ Int64.ofInt y) = (x ≤ y) := by
  rw [Int64.le_iff_toInt_le, Int64.toInt_ofInt_of_le (by omega) (by omega), Int64.toInt_ofInt_of_le (by omega) (by omega)]
theorem oL_lt {x y : Int} (h1 : -2147483649 ≤ x) (h2 : x < 2147483649) (h3 : -2147483649 ≤ y) (h4 : y < 2147483649) : (Int64.ofInt x < Int64.ofInt y) = (x < y) := by
  rw [Int64.lt_iff_toInt_lt, Int64.toInt_ofInt_of_le (by omega) (by omega), Int64.toInt_ofInt_of_le (by omega) (by omega)]
theorem oL_eq {x y : Int} (h1 : -2147483649 ≤ x) (h2 : x < 2147483649) (h3 : -2147483649 ≤ y) (h4 : y < 2147483649) : (Int64.ofInt x = Int64.ofInt y) = (x = y) := by
  rw [← Int64.toInt_inj, Int64.toInt_ofInt_of_le (by omega) (by omega), Int64.toInt_ofInt_of_le (by omega) (by omega)]
theorem ite10 {c : Prop} [Decidable c] : ((if c then (1 : Int) else 0) = 0) = ¬ c := by split <;> simp_all
theorem ite10' {c : Prop} [Decidable c] : (¬ (if c then (1 : Int) else 0) = 0) = c := by split <;> simp_all
