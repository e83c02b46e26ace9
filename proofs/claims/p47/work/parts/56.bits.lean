/-! bits of ints and of longs -/
theorem bv_bit {w : Nat} (x : BitVec w) {i : Nat} (hi : i < w) : x.toInt / 2 ^ i % 2 = if x.getLsbD i = true then 1 else 0 := by
  have h1 : x.getLsbD i = decide (x.toNat / 2 ^ i % 2 = 1) := by
    show x.toNat.testBit i = _
    exact Nat.testBit_eq_decide_div_mod_eq
  have hp : (0 : Int) < 2 ^ i := Int.pow_pos (by decide)
  have key : (x.toNat : Int) / 2 ^ i % 2 = if x.getLsbD i = true then 1 else 0 := by
    rw [h1]
    have e : (x.toNat : Int) / 2 ^ i % 2 = ((x.toNat / 2 ^ i % 2 : Nat) : Int) := by
      rw [Int.natCast_emod, Int.natCast_ediv, Int.natCast_pow]; rfl
    rw [e]
    by_cases q : x.toNat / 2 ^ i % 2 = 1
    · simp [q]
    · have : x.toNat / 2 ^ i % 2 = 0 := by omega
      simp [this]
  rw [BitVec.toInt_eq_toNat_cond]
  split
  · exact key
  · have e2 : ((2 ^ w : Nat) : Int) = ((2 ^ (w - i - 1) : Nat) : Int) * 2 * 2 ^ i := by
      have e3 : (2 : Nat) ^ w = 2 ^ (w - i - 1) * 2 * 2 ^ i := by
        rw [← Nat.pow_succ, ← Nat.pow_add]
        congr 1
        omega
      rw [e3, Int.natCast_mul, Int.natCast_mul, Int.natCast_pow 2 i]
      rfl
    rw [e2, Int.sub_eq_add_neg, ← Int.neg_mul, Int.add_mul_ediv_right _ _ (by omega)]
    generalize ((2 ^ (w - i - 1) : Nat) : Int) = P at *
    omega
theorem i_bit {w : Int} (hw : inI w) {i : Nat} (hi : i < 32) : bitZ w i = if (Int32.ofInt w).toBitVec.getLsbD i = true then 1 else 0 := by
  rw [← bv_bit _ hi]
  show w / 2 ^ i % 2 = (Int32.ofInt w).toInt / 2 ^ i % 2
  rw [iI_toInt hw]
theorem l_bit {w : Int} (hw : inL w) {i : Nat} (hi : i < 64) : bitZ w i = if (Int64.ofInt w).toBitVec.getLsbD i = true then 1 else 0 := by
  rw [← bv_bit _ hi]
  show w / 2 ^ i % 2 = (Int64.ofInt w).toInt / 2 ^ i % 2
  rw [iL_toInt hw]
theorem i64_in (x : Int64) : inL x.toInt := ⟨Int64.le_toInt x, by have := Int64.toInt_lt x; omega⟩
theorem iL_of (x : Int64) : Int64.ofInt x.toInt = x := by simp
theorem iL_shr {w : Int} {j : Int} (hw : inL w) (h0 : 0 ≤ j) (h1 : j < 64) : Int64.ofInt w >>> ((Int32.ofInt j).toInt64 &&& 63) = Int64.ofInt (w / 2 ^ j.toNat) := by
  have hj : (((Int32.ofInt j).toInt64 &&& 63).toBitVec.smod 64).toNat = j.toNat := by
    have : ∀ k : Nat, k < 64 → (((Int32.ofInt (k : Int)).toInt64 &&& 63).toBitVec.smod 64).toNat = k := by decide +kernel
    have h := this j.toNat (by omega)
    rwa [show ((j.toNat : Nat) : Int) = j by omega] at h
  have hp : (1 : Int) ≤ 2 ^ j.toNat := by have : (0 : Int) < 2 ^ j.toNat := Int.pow_pos (by decide); omega
  have e : (Int64.ofInt w >>> ((Int32.ofInt j).toInt64 &&& 63)).toInt = w / 2 ^ j.toNat := by
    show ((Int64.ofInt w).toBitVec.sshiftRight' (((Int32.ofInt j).toInt64 &&& 63).toBitVec.smod 64)).toInt = _
    rw [BitVec.toInt_sshiftRight', Int.shiftRight_eq_div_pow, hj]
    show (Int64.ofInt w).toInt / _ = _
    rw [iL_toInt hw, Int.natCast_pow]
    rfl
  rw [← e, iL_of]
theorem shrL_in {w : Int} (n : Nat) (hw : inL w) : inL (w / 2 ^ n) := by
  have hp : (0 : Int) < 2 ^ n := Int.pow_pos (by decide)
  have a1 : w / 2 ^ n ≤ 9223372036854775807 := by
    by_cases hw0 : 0 ≤ w
    · have := Int.ediv_le_self (2 ^ n) hw0
      have := hw.2
      omega
    · have : w / 2 ^ n < 0 := Int.ediv_neg_of_neg_of_pos (by omega) (by omega)
      omega
  have a2 : -9223372036854775808 ≤ w / 2 ^ n := by
    rw [Int.le_ediv_iff_mul_le (by omega)]
    have : (-9223372036854775808 : Int) * 2 ^ n ≤ -9223372036854775808 * 1 := Int.mul_le_mul_of_nonpos_left (by decide) (by omega)
    have := hw.1
    omega
  exact ⟨a2, a1⟩
theorem iL_and1 {w : Int} (hw : inL w) : Int64.ofInt w &&& Int64.ofInt 1 = Int64.ofInt (w % 2) := by
  have h1 : ((Int64.ofInt w &&& Int64.ofInt 1).toBitVec.toNat : Int) = w % 2 := by
    show (((Int64.ofInt w).toBitVec &&& (Int64.ofInt 1).toBitVec).toNat : Int) = _
    rw [BitVec.toNat_and, show (Int64.ofInt 1).toBitVec.toNat = 2 ^ 1 - 1 from by decide, Nat.and_two_pow_sub_one_eq_mod]
    have e := iL_toInt hw
    have e2 : (Int64.ofInt w).toInt = (Int64.ofInt w).toBitVec.toInt := rfl
    rw [e2, BitVec.toInt_eq_toNat_cond] at e
    generalize (Int64.ofInt w).toBitVec.toNat = n at *
    split at e <;> omega
  rw [← Int64.toInt_inj, iL_toInt (x := w % 2) ⟨by omega, by omega⟩]
  show (Int64.ofInt w &&& Int64.ofInt 1).toBitVec.toInt = _
  rw [BitVec.toInt_eq_toNat_cond]
  generalize (Int64.ofInt w &&& Int64.ofInt 1).toBitVec.toNat = n at *
  split <;> omega
/-- a bit set, or not, in a long -/
def shL (j : Int) : Int := (Int64.ofInt 1 <<< ((Int32.ofInt j).toInt64 &&& 63)).toInt
def cbL (w j cl : Int) : Int := if cl = 0 then (Int64.ofInt w &&& Int64.ofInt ((Int64.ofInt (shL j) ^^^ Int64.ofInt (-1)).toInt)).toInt else (Int64.ofInt w ||| Int64.ofInt (shL j)).toInt
theorem cbL_in (w j cl : Int) : inL (cbL w j cl) := by unfold cbL; split <;> exact i64_in _
theorem shL_bv {j : Int} (h0 : 0 ≤ j) (h1 : j < 64) : (Int64.ofInt (shL j)).toBitVec = BitVec.twoPow 64 j.toNat := by
  unfold shL
  rw [iL_of]
  have : ∀ k : Nat, k < 64 → (Int64.ofInt 1 <<< ((Int32.ofInt (k : Int)).toInt64 &&& 63)).toBitVec = BitVec.twoPow 64 k := by decide +kernel
  have h := this j.toNat (by omega)
  rwa [show ((j.toNat : Nat) : Int) = j by omega] at h
theorem shV_bv {j : Int} (h0 : 0 ≤ j) (h1 : j < 32) : (Int32.ofInt (shV j)).toBitVec = BitVec.twoPow 32 j.toNat := by
  unfold shV
  rw [iI_of]
  have : ∀ k : Nat, k < 32 → (Int32.ofInt 1 <<< (Int32.ofInt (k : Int) &&& 31)).toBitVec = BitVec.twoPow 32 k := by decide +kernel
  have h := this j.toNat (by omega)
  rwa [show ((j.toNat : Nat) : Int) = j by omega] at h
theorem m1L : ∀ i : Nat, i < 64 → (Int64.ofInt (-1)).toBitVec.getLsbD i = true := by decide +kernel
theorem m1I : ∀ i : Nat, i < 32 → (Int32.ofInt (-1)).toBitVec.getLsbD i = true := by decide +kernel
theorem cbL_bit {w j : Int} (cl : Int) (hw : inL w) (h0 : 0 ≤ j) (h1 : j < 64) {i : Nat} (hi : i < 64) : bitZ (cbL w j cl) i = if (i : Int) = j then (if cl = 0 then 0 else 1) else bitZ w i := by
  rw [l_bit (cbL_in _ _ _) hi, l_bit hw hi]
  have e : ((i : Int) = j) ↔ j.toNat = i := by omega
  unfold cbL
  by_cases hc : cl = 0
  · rw [if_pos hc, iL_of, iL_of]
    show (if ((Int64.ofInt w).toBitVec &&& ((Int64.ofInt (shL j)).toBitVec ^^^ (Int64.ofInt (-1)).toBitVec)).getLsbD i = true then (1 : Int) else 0) = _
    rw [BitVec.getLsbD_and, BitVec.getLsbD_xor, m1L i hi, shL_bv h0 h1, BitVec.getLsbD_twoPow]
    by_cases q : (i : Int) = j
    · rw [if_pos q, if_pos hc]; simp [e.mp q, hi]
    · rw [if_neg q]; have : ¬ j.toNat = i := fun g => q (e.mpr g); simp [this]
  · rw [if_neg hc, iL_of]
    show (if ((Int64.ofInt w).toBitVec ||| (Int64.ofInt (shL j)).toBitVec).getLsbD i = true then (1 : Int) else 0) = _
    rw [BitVec.getLsbD_or, shL_bv h0 h1, BitVec.getLsbD_twoPow]
    by_cases q : (i : Int) = j
    · rw [if_pos q, if_neg hc]; simp [e.mp q, hi]
    · rw [if_neg q]; have : ¬ j.toNat = i := fun g => q (e.mpr g); simp [this]
theorem cbW_bit {w j : Int} (cl : Int) (hw : inI w) (h0 : 0 ≤ j) (h1 : j < 32) {i : Nat} (hi : i < 32) : bitZ (cbW w j cl) i = if (i : Int) = j then (if cl = 0 then 0 else 1) else bitZ w i := by
  rw [i_bit (cbW_in _ _ _) hi, i_bit hw hi]
  have e : ((i : Int) = j) ↔ j.toNat = i := by omega
  unfold cbW
  by_cases hc : cl = 0
  · rw [if_pos hc, iI_of, iI_of]
    show (if ((Int32.ofInt w).toBitVec &&& ((Int32.ofInt (shV j)).toBitVec ^^^ (Int32.ofInt (-1)).toBitVec)).getLsbD i = true then (1 : Int) else 0) = _
    rw [BitVec.getLsbD_and, BitVec.getLsbD_xor, m1I i hi, shV_bv h0 h1, BitVec.getLsbD_twoPow]
    by_cases q : (i : Int) = j
    · rw [if_pos q, if_pos hc]; simp [e.mp q, hi]
    · rw [if_neg q]; have : ¬ j.toNat = i := fun g => q (e.mpr g); simp [this]
  · rw [if_neg hc, iI_of]
    show (if ((Int32.ofInt w).toBitVec ||| (Int32.ofInt (shV j)).toBitVec).getLsbD i = true then (1 : Int) else 0) = _
    rw [BitVec.getLsbD_or, shV_bv h0 h1, BitVec.getLsbD_twoPow]
    by_cases q : (i : Int) = j
    · rw [if_pos q, if_neg hc]; simp [e.mp q, hi]
    · rw [if_neg q]; have : ¬ j.toNat = i := fun g => q (e.mpr g); simp [this]

