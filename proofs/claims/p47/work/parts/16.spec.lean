/-! what is to be answered, over whole numbers: dates -/
/-- days ahead of a year, of a month of a year, in a month -/
def yB (y : Int) : Int := (y - 2000) * 365 + (y - 2000 + 3) / 4
def lp (y : Int) : Int := if y % 4 = 0 then 1 else 0
def bM (y m : Int) : Int := bmT (m - 1) + (if 2 < m then lp y else 0)
def dIM (y m : Int) : Int := if m = 2 then 28 + lp y else if m = 4 ∨ m = 6 ∨ m = 9 ∨ m = 11 then 30 else 31
/-- the day of a date; -1 if it is none -/
def dayZ (d : Int) : Int := if 0 ≤ d ∧ 2000 ≤ d / 10000 ∧ d / 10000 ≤ 2099 ∧ 1 ≤ d / 100 % 100 ∧ d / 100 % 100 ≤ 12 ∧ 1 ≤ d % 100 ∧ d % 100 ≤ dIM (d / 10000) (d / 100 % 100) then yB (d / 10000) + bM (d / 10000) (d / 100 % 100) + d % 100 - 1 else -1
def yr (d : Int) : Int := 2000 + d * 4 / 1461
def mZ (y k : Int) : Int := if k < bM y 2 then 1 else if k < bM y 3 then 2 else if k < bM y 4 then 3 else if k < bM y 5 then 4 else if k < bM y 6 then 5 else if k < bM y 7 then 6 else if k < bM y 8 then 7 else if k < bM y 9 then 8 else if k < bM y 10 then 9 else if k < bM y 11 then 10 else if k < bM y 12 then 11 else 12
def dateZ (d : Int) : Int := yr d * 10000 + mZ (yr d) (d - yB (yr d)) * 100 + (d - yB (yr d) - bM (yr d) (mZ (yr d) (d - yB (yr d)))) + 1
def wdZ (d : Int) : Int := (d + 5) % 7 + 1
theorem lp_01 (y : Int) : lp y = 0 ∨ lp y = 1 := by unfold lp; split; exact Or.inr rfl; exact Or.inl rfl
theorem yB_next (y : Int) (h : 2000 ≤ y) : yB (y + 1) = yB y + 365 + lp y := by
  unfold yB lp
  split <;> omega
theorem bM_1 (y : Int) : bM y 1 = 0 := by simp [bM, bmT]
theorem bM_next (y m : Int) (h1 : 1 ≤ m) (h2 : m ≤ 11) : bM y (m + 1) = bM y m + dIM y m := by
  have hm : m = 1 ∨ m = 2 ∨ m = 3 ∨ m = 4 ∨ m = 5 ∨ m = 6 ∨ m = 7 ∨ m = 8 ∨ m = 9 ∨ m = 10 ∨ m = 11 := by omega
  rcases hm with rfl | rfl | rfl | rfl | rfl | rfl | rfl | rfl | rfl | rfl | rfl <;> simp [bM, bmT, dIM] <;> omega
theorem bM_13 (y : Int) : bM y 12 + dIM y 12 = 365 + lp y := by simp [bM, bmT, dIM]; omega
/-- the month of a day of a year, by what is ahead of it and behind it -/
theorem mZ_of {y k m : Int} (h1 : 1 ≤ m) (h2 : m ≤ 12) (h3 : bM y m ≤ k) (h4 : m = 12 ∨ k < bM y (m + 1)) : mZ y k = m := by
  have hl := lp_01 y
  have hm : m = 1 ∨ m = 2 ∨ m = 3 ∨ m = 4 ∨ m = 5 ∨ m = 6 ∨ m = 7 ∨ m = 8 ∨ m = 9 ∨ m = 10 ∨ m = 11 ∨ m = 12 := by omega
  have e1 : bM y 1 = 0 := by simp [bM, bmT]
  have e2 : bM y 2 = 31 := by simp [bM, bmT]
  have e3 : bM y 3 = 59 + lp y := by simp [bM, bmT]
  have e4 : bM y 4 = 90 + lp y := by simp [bM, bmT]
  have e5 : bM y 5 = 120 + lp y := by simp [bM, bmT]
  have e6 : bM y 6 = 151 + lp y := by simp [bM, bmT]
  have e7 : bM y 7 = 181 + lp y := by simp [bM, bmT]
  have e8 : bM y 8 = 212 + lp y := by simp [bM, bmT]
  have e9 : bM y 9 = 243 + lp y := by simp [bM, bmT]
  have e10 : bM y 10 = 273 + lp y := by simp [bM, bmT]
  have e11 : bM y 11 = 304 + lp y := by simp [bM, bmT]
  have e12 : bM y 12 = 334 + lp y := by simp [bM, bmT]
  unfold mZ
  rw [e2, e3, e4, e5, e6, e7, e8, e9, e10, e11, e12]
  have h4' : m ≠ 12 → k < bM y (m + 1) := fun h => h4.resolve_left h
  by_cases hm12 : m = 12
  · subst hm12
    rw [e12] at h3
    clear e1 e2 e3 e4 e5 e6 e7 e8 e9 e10 e11 e12 h1 h2 h4 h4' hm
    rw [if_neg (by omega), if_neg (by omega), if_neg (by omega), if_neg (by omega), if_neg (by omega), if_neg (by omega), if_neg (by omega), if_neg (by omega), if_neg (by omega), if_neg (by omega), if_neg (by omega)]
  have h5 := h4' hm12
  have hm : m = 1 ∨ m = 2 ∨ m = 3 ∨ m = 4 ∨ m = 5 ∨ m = 6 ∨ m = 7 ∨ m = 8 ∨ m = 9 ∨ m = 10 ∨ m = 11 := by omega
  clear hm12 h4' h4 h1 h2
  rcases hm with rfl | rfl | rfl | rfl | rfl | rfl | rfl | rfl | rfl | rfl | rfl
  · rw [e1] at h3
    have h5 : k < bM y 2 := h5
    rw [e2] at h5
    clear e1 e2 e3 e4 e5 e6 e7 e8 e9 e10 e11 e12
    rw [if_pos (by omega)]
  · rw [e2] at h3
    have h5 : k < bM y 3 := h5
    rw [e3] at h5
    clear e1 e2 e3 e4 e5 e6 e7 e8 e9 e10 e11 e12
    rw [if_neg (by omega), if_pos (by omega)]
  · rw [e3] at h3
    have h5 : k < bM y 4 := h5
    rw [e4] at h5
    clear e1 e2 e3 e4 e5 e6 e7 e8 e9 e10 e11 e12
    rw [if_neg (by omega), if_neg (by omega), if_pos (by omega)]
  · rw [e4] at h3
    have h5 : k < bM y 5 := h5
    rw [e5] at h5
    clear e1 e2 e3 e4 e5 e6 e7 e8 e9 e10 e11 e12
    rw [if_neg (by omega), if_neg (by omega), if_neg (by omega), if_pos (by omega)]
  · rw [e5] at h3
    have h5 : k < bM y 6 := h5
    rw [e6] at h5
    clear e1 e2 e3 e4 e5 e6 e7 e8 e9 e10 e11 e12
    rw [if_neg (by omega), if_neg (by omega), if_neg (by omega), if_neg (by omega), if_pos (by omega)]
  · rw [e6] at h3
    have h5 : k < bM y 7 := h5
    rw [e7] at h5
    clear e1 e2 e3 e4 e5 e6 e7 e8 e9 e10 e11 e12
    rw [if_neg (by omega), if_neg (by omega), if_neg (by omega), if_neg (by omega), if_neg (by omega), if_pos (by omega)]
  · rw [e7] at h3
    have h5 : k < bM y 8 := h5
    rw [e8] at h5
    clear e1 e2 e3 e4 e5 e6 e7 e8 e9 e10 e11 e12
    rw [if_neg (by omega), if_neg (by omega), if_neg (by omega), if_neg (by omega), if_neg (by omega), if_neg (by omega), if_pos (by omega)]
  · rw [e8] at h3
    have h5 : k < bM y 9 := h5
    rw [e9] at h5
    clear e1 e2 e3 e4 e5 e6 e7 e8 e9 e10 e11 e12
    rw [if_neg (by omega), if_neg (by omega), if_neg (by omega), if_neg (by omega), if_neg (by omega), if_neg (by omega), if_neg (by omega), if_pos (by omega)]
  · rw [e9] at h3
    have h5 : k < bM y 10 := h5
    rw [e10] at h5
    clear e1 e2 e3 e4 e5 e6 e7 e8 e9 e10 e11 e12
    rw [if_neg (by omega), if_neg (by omega), if_neg (by omega), if_neg (by omega), if_neg (by omega), if_neg (by omega), if_neg (by omega), if_neg (by omega), if_pos (by omega)]
  · rw [e10] at h3
    have h5 : k < bM y 11 := h5
    rw [e11] at h5
    clear e1 e2 e3 e4 e5 e6 e7 e8 e9 e10 e11 e12
    rw [if_neg (by omega), if_neg (by omega), if_neg (by omega), if_neg (by omega), if_neg (by omega), if_neg (by omega), if_neg (by omega), if_neg (by omega), if_neg (by omega), if_pos (by omega)]
  · rw [e11] at h3
    have h5 : k < bM y 12 := h5
    rw [e12] at h5
    clear e1 e2 e3 e4 e5 e6 e7 e8 e9 e10 e11 e12
    rw [if_neg (by omega), if_neg (by omega), if_neg (by omega), if_neg (by omega), if_neg (by omega), if_neg (by omega), if_neg (by omega), if_neg (by omega), if_neg (by omega), if_neg (by omega), if_pos (by omega)]
/-- the year of a day -/
theorem yr_of {d y : Int} (h0 : 2000 ≤ y) (h1 : yB y ≤ d) (h2 : d < yB (y + 1)) : yr d = y := by
  unfold yr yB at *
  omega
theorem yr_in {d : Int} (h0 : 0 ≤ d) : yB (yr d) ≤ d ∧ d < yB (yr d + 1) ∧ 2000 ≤ yr d := by
  unfold yr yB
  omega

