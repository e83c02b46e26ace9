/-! more of dates; bits -/
theorem bM_in {y m : Int} (h1 : 1 ≤ m) (h2 : m ≤ 12) : 0 ≤ bM y m ∧ bM y m ≤ 335 ∧ bM y m + dIM y m ≤ 365 + lp y ∧ 28 ≤ dIM y m ∧ dIM y m ≤ 31 := by
  have hl := lp_01 y
  have hm : m = 1 ∨ m = 2 ∨ m = 3 ∨ m = 4 ∨ m = 5 ∨ m = 6 ∨ m = 7 ∨ m = 8 ∨ m = 9 ∨ m = 10 ∨ m = 11 ∨ m = 12 := by omega
  rcases hm with rfl | rfl | rfl | rfl | rfl | rfl | rfl | rfl | rfl | rfl | rfl | rfl <;> simp [bM, bmT, dIM] <;> omega
theorem yB_in {y : Int} (h1 : 2000 ≤ y) (h2 : y ≤ 2099) : 0 ≤ yB y ∧ yB y + 365 + lp y ≤ 36525 := by
  rw [← yB_next y h1]
  unfold yB
  omega
theorem dayZ_in (d : Int) : -1 ≤ dayZ d ∧ dayZ d ≤ 36524 := by
  unfold dayZ
  split
  · rename_i h
    obtain ⟨h1, h2, h3, h4, h5, h6, h7⟩ := h
    have a := bM_in (y := d / 10000) h4 h5
    have b := yB_in h2 h3
    omega
  · omega
theorem dateZ_in {d : Int} (h0 : 0 ≤ d) (h1 : d ≤ 36524) : 20000101 ≤ dateZ d ∧ dateZ d ≤ 20991231 ∧ 1 ≤ mZ (yr d) (d - yB (yr d)) ∧ mZ (yr d) (d - yB (yr d)) ≤ 12 ∧ 0 ≤ d - yB (yr d) - bM (yr d) (mZ (yr d) (d - yB (yr d))) ∧ d - yB (yr d) - bM (yr d) (mZ (yr d) (d - yB (yr d))) ≤ 30 ∧ 2000 ≤ yr d ∧ yr d ≤ 2099 := by
  obtain ⟨a1, a2, a3⟩ := yr_in h0
  have a4 : yr d ≤ 2099 := by unfold yr; omega
  rw [yB_next _ a3] at a2
  unfold dateZ
  generalize yr d = y at *
  have key : ∃ m, 1 ≤ m ∧ m ≤ 12 ∧ bM y m ≤ d - yB y ∧ (m = 12 ∨ d - yB y < bM y (m + 1)) := by
    have st : ∀ n : Nat, n ≤ 11 → (∃ m, 1 ≤ m ∧ m ≤ 12 ∧ bM y m ≤ d - yB y ∧ (m = 12 ∨ d - yB y < bM y (m + 1))) ∨ bM y (n + 1) ≤ d - yB y := by
      intro n
      induction n with
      | zero => intro _; right; rw [show ((0 : Nat) : Int) + 1 = 1 by decide, bM_1]; omega
      | succ n ih =>
        intro hn
        rcases ih (by omega) with h | h
        · exact Or.inl h
        · by_cases q : bM y ((n + 1 : Nat) + 1) ≤ d - yB y
          · exact Or.inr q
          · left
            refine ⟨n + 1, by omega, by omega, h, Or.inr ?_⟩
            have : (((n + 1 : Nat) : Int) + 1) = (n : Int) + 1 + 1 := by omega
            rw [this] at q
            omega
    rcases st 11 (by omega) with h | h
    · exact h
    · exact ⟨12, by decide, by decide, h, Or.inl rfl⟩
  obtain ⟨m, m1, m2, m3, m4⟩ := key
  have e := mZ_of m1 m2 m3 m4
  have b := bM_in (y := y) m1 m2
  have hd : d - yB y - bM y m ≤ 30 := by
    rcases m4 with rfl | m4
    · have := bM_13 y
      have : dIM y 12 = 31 := by simp [dIM]
      omega
    · by_cases q : m = 12
      · subst q
        have := bM_13 y
        have : dIM y 12 = 31 := by simp [dIM]
        omega
      · have := bM_next y m m1 (by omega)
        omega
  rw [e]
  refine ⟨by omega, by omega, m1, m2, by omega, hd, a3, a4⟩
/-- a date told back -/
theorem day_date {d : Int} (h0 : 0 ≤ d) (h1 : d ≤ 36524) : dateZ d / 10000 = yr d ∧ dateZ d / 100 % 100 = mZ (yr d) (d - yB (yr d)) ∧ dateZ d % 100 = d - yB (yr d) - bM (yr d) (mZ (yr d) (d - yB (yr d))) + 1 := by
  obtain ⟨a1, a2, a3, a4, a5, a6, a7, a8⟩ := dateZ_in h0 h1
  unfold dateZ
  generalize mZ (yr d) (d - yB (yr d)) = m at *
  generalize d - yB (yr d) - bM (yr d) m = k at *
  generalize yr d = y at *
  omega
theorem iI_shr {w : Int} {j : Int} (hw : inI w) (h0 : 0 ≤ j) (h1 : j < 32) : Int32.ofInt w >>> (Int32.ofInt j &&& 31) = Int32.ofInt (w / 2 ^ j.toNat) := by
  have hj : ((Int32.ofInt j &&& 31).toBitVec.smod 32).toNat = j.toNat := by
    have : ∀ k : Nat, k < 32 → ((Int32.ofInt (k : Int) &&& 31).toBitVec.smod 32).toNat = k := by decide +kernel
    have h := this j.toNat (by omega)
    rwa [show ((j.toNat : Nat) : Int) = j by omega] at h
  have hp : (1 : Int) ≤ 2 ^ j.toNat := by have : (0 : Int) < 2 ^ j.toNat := Int.pow_pos (by decide); omega
  rw [← Int32.toInt_inj, Jvm.Kit.i32_shr _ _ hj, iI_toInt hw, iI_toInt]
  have a1 : w / 2 ^ j.toNat ≤ 2147483647 := by
    by_cases hw0 : 0 ≤ w
    · have := Int.ediv_le_self (2 ^ j.toNat) hw0
      omega
    · have : w / 2 ^ j.toNat < 0 := Int.ediv_neg_of_neg_of_pos (by omega) (by omega)
      omega
  have a2 : -2147483648 ≤ w / 2 ^ j.toNat := by
    rw [Int.le_ediv_iff_mul_le (by omega)]
    have : (-2147483648 : Int) * 2 ^ j.toNat ≤ -2147483648 * 1 := Int.mul_le_mul_of_nonpos_left (by decide) hp
    omega
  exact ⟨a2, a1⟩
theorem iI_and1 {w : Int} (hw : inI w) : Int32.ofInt w &&& Int32.ofInt 1 = Int32.ofInt (w % 2) := by
  rw [← Int32.toInt_inj, iI_toInt (x := w % 2) (by omega), Jvm.Kit.i32_mask (k := 1) _ _ (by decide) (by decide), iI_toInt hw]
  rfl

