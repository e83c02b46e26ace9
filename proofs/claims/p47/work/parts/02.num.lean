/-! whole numbers for machine numbers: an int is Int32.ofInt of an Int, a long Int64.ofInt of an Int -/
abbrev inI (x : Int) : Prop := -2147483648 ≤ x ∧ x ≤ 2147483647
abbrev inL (x : Int) : Prop := -9223372036854775808 ≤ x ∧ x ≤ 9223372036854775807
theorem iI_toInt {x : Int} (h : inI x) : (Int32.ofInt x).toInt = x := by
  rw [Int32.toInt_ofInt]
  have e : Int32.size = 4294967296 := rfl
  rw [e]
  exact Int.bmod_eq_of_le (by have := h.1; omega) (by have := h.2; omega)
theorem iL_toInt {x : Int} (h : inL x) : (Int64.ofInt x).toInt = x := by
  rw [Int64.toInt_ofInt]
  have e : Int64.size = 18446744073709551616 := rfl
  rw [e]
  exact Int.bmod_eq_of_le (by have := h.1; omega) (by have := h.2; omega)
theorem iI_of (x : Int32) : Int32.ofInt x.toInt = x := by simp
theorem iI_lt {x y : Int} (hx : inI x) (hy : inI y) : (Int32.ofInt x < Int32.ofInt y) ↔ x < y := by
  rw [Int32.lt_iff_toInt_lt, iI_toInt hx, iI_toInt hy]
theorem iI_le {x y : Int} (hx : inI x) (hy : inI y) : (Int32.ofInt x ≤ Int32.ofInt y) ↔ x ≤ y := by
  rw [Int32.le_iff_toInt_le, iI_toInt hx, iI_toInt hy]
theorem iI_eq {x y : Int} (hx : inI x) (hy : inI y) : (Int32.ofInt x = Int32.ofInt y) ↔ x = y := by
  refine ⟨fun h => ?_, fun h => by rw [h]⟩
  have := congrArg Int32.toInt h
  rwa [iI_toInt hx, iI_toInt hy] at this
theorem iL_lt {x y : Int} (hx : inL x) (hy : inL y) : (Int64.ofInt x < Int64.ofInt y) ↔ x < y := by
  rw [Int64.lt_iff_toInt_lt, iL_toInt hx, iL_toInt hy]
theorem iL_eq {x y : Int} (hx : inL x) (hy : inL y) : (Int64.ofInt x = Int64.ofInt y) ↔ x = y := by
  refine ⟨fun h => ?_, fun h => by rw [h]⟩
  have := congrArg Int64.toInt h
  rwa [iL_toInt hx, iL_toInt hy] at this
theorem iI_0 : Int32.ofInt 0 = 0 := rfl
theorem iI_add (x y : Int) : Int32.ofInt x + Int32.ofInt y = Int32.ofInt (x + y) := by simp [Int32.ofInt_add]
theorem iI_sub (x y : Int) : Int32.ofInt x - Int32.ofInt y = Int32.ofInt (x - y) := by simp [Int32.ofInt_sub]
theorem iI_mul (x y : Int) : Int32.ofInt x * Int32.ofInt y = Int32.ofInt (x * y) := by simp [Int32.ofInt_mul]
theorem iI_neg (x : Int) : - Int32.ofInt x = Int32.ofInt (-x) := by simp [Int32.ofInt_neg]
theorem iL_add (x y : Int) : Int64.ofInt x + Int64.ofInt y = Int64.ofInt (x + y) := by simp [Int64.ofInt_add]
theorem iL_sub (x y : Int) : Int64.ofInt x - Int64.ofInt y = Int64.ofInt (x - y) := by simp [Int64.ofInt_sub]
theorem iL_mul (x y : Int) : Int64.ofInt x * Int64.ofInt y = Int64.ofInt (x * y) := by simp [Int64.ofInt_mul]
theorem iI_tdiv {x y : Int} (hx : inI x) (hy : inI y) (h : x ≠ -2147483648 ∨ y ≠ -1) : inI (x.tdiv y) := by
  have h1 : (x.tdiv y).natAbs ≤ x.natAbs := Int.natAbs_tdiv_le_natAbs x y
  have a1 := hx.1
  have a2 := hx.2
  by_cases hm : x = -2147483648
  · have hy1 : y ≠ -1 := h.resolve_left (fun q => q hm)
    by_cases hy0 : y = 0
    · subst hy0; rw [Int.tdiv_zero]; exact ⟨by omega, by omega⟩
    · by_cases hy2 : y = 1
      · subst hy2; simp; omega
      · have : (x.tdiv y).natAbs = x.natAbs / y.natAbs := Int.natAbs_tdiv x y
        have h3 : 2 ≤ y.natAbs := by omega
        have h4 : x.natAbs / y.natAbs ≤ x.natAbs / 2 := Nat.div_le_div_left h3 (by decide)
        constructor <;> omega
  · constructor <;> omega
theorem iI_div {x y : Int} (hx : inI x) (hy : inI y) (h : x ≠ -2147483648 ∨ y ≠ -1) : Int32.ofInt x / Int32.ofInt y = Int32.ofInt (x.tdiv y) := by
  rw [← Int32.toInt_inj, iI_toInt (iI_tdiv hx hy h)]
  rcases h with h | h
  · rw [Int32.toInt_div_of_ne_left, iI_toInt hx, iI_toInt hy]
    intro q
    have := congrArg Int32.toInt q
    rw [iI_toInt hx] at this
    exact h this
  · rw [Int32.toInt_div_of_ne_right, iI_toInt hx, iI_toInt hy]
    intro q
    have := congrArg Int32.toInt q
    rw [iI_toInt hy] at this
    exact h this
theorem iI_tmod {x y : Int} (hx : inI x) (hy : inI y) : inI (x.tmod y) := by
  have h1 : (x.tmod y).natAbs = x.natAbs % y.natAbs := Int.natAbs_tmod x y
  have h2 := Nat.mod_le x.natAbs y.natAbs
  have a1 := hx.1
  have a2 := hx.2
  have h3 : x.tmod y = x - y * (x.tdiv y) := Int.tmod_def x y
  by_cases hx0 : 0 ≤ x
  · constructor <;> omega
  · have : 0 ≤ (-x).tmod y := Int.tmod_nonneg y (by omega)
    rw [Int.neg_tmod] at this
    constructor <;> omega
theorem iI_rem {x y : Int} (hx : inI x) (hy : inI y) : Int32.ofInt x % Int32.ofInt y = Int32.ofInt (x.tmod y) := by
  rw [← Int32.toInt_inj, Int32.toInt_mod, iI_toInt hx, iI_toInt hy, iI_toInt (iI_tmod hx hy)]
theorem iI_l {x : Int} (hx : inI x) : (Int32.ofInt x).toInt64 = Int64.ofInt x := by
  rw [← Int64.toInt_inj, Int32.toInt_toInt64, iI_toInt hx, iL_toInt (by have := hx.1; have := hx.2; constructor <;> omega)]
theorem iL_i (x : Int) : (Int64.ofInt x).toInt32 = Int32.ofInt x := by
  rw [← Int32.toInt_inj, Int64.toInt_toInt32, Int64.toInt_ofInt, Int32.toInt_ofInt]
  have e : Int32.size = 2 ^ 32 := rfl
  have e2 : Int64.size = 2 ^ 64 := rfl
  rw [e, e2]
  exact Int.bmod_bmod_of_dvd (by decide)
theorem iL_tdiv {x y : Int} (hx : inL x) (hy : inL y) (h : x ≠ -9223372036854775808 ∨ y ≠ -1) : inL (x.tdiv y) := by
  have h1 : (x.tdiv y).natAbs ≤ x.natAbs := Int.natAbs_tdiv_le_natAbs x y
  have a1 := hx.1
  have a2 := hx.2
  by_cases hm : x = -9223372036854775808
  · have hy1 : y ≠ -1 := h.resolve_left (fun q => q hm)
    by_cases hy0 : y = 0
    · subst hy0; rw [Int.tdiv_zero]; exact ⟨by omega, by omega⟩
    · by_cases hy2 : y = 1
      · subst hy2; simp; omega
      · have : (x.tdiv y).natAbs = x.natAbs / y.natAbs := Int.natAbs_tdiv x y
        have h3 : 2 ≤ y.natAbs := by omega
        have h4 : x.natAbs / y.natAbs ≤ x.natAbs / 2 := Nat.div_le_div_left h3 (by decide)
        constructor <;> omega
  · constructor <;> omega
theorem iL_div {x y : Int} (hx : inL x) (hy : inL y) (h : x ≠ -9223372036854775808 ∨ y ≠ -1) : Int64.ofInt x / Int64.ofInt y = Int64.ofInt (x.tdiv y) := by
  rw [← Int64.toInt_inj, iL_toInt (iL_tdiv hx hy h)]
  rcases h with h | h
  · rw [Int64.toInt_div_of_ne_left, iL_toInt hx, iL_toInt hy]
    intro q
    have := congrArg Int64.toInt q
    rw [iL_toInt hx] at this
    exact h this
  · rw [Int64.toInt_div_of_ne_right, iL_toInt hx, iL_toInt hy]
    intro q
    have := congrArg Int64.toInt q
    rw [iL_toInt hy] at this
    exact h this
theorem iL_tmod {x y : Int} (hx : inL x) (hy : inL y) : inL (x.tmod y) := by
  have h1 : (x.tmod y).natAbs = x.natAbs % y.natAbs := Int.natAbs_tmod x y
  have h2 := Nat.mod_le x.natAbs y.natAbs
  have a1 := hx.1
  have a2 := hx.2
  by_cases hx0 : 0 ≤ x
  · constructor <;> omega
  · have : 0 ≤ (-x).tmod y := Int.tmod_nonneg y (by omega)
    rw [Int.neg_tmod] at this
    constructor <;> omega
theorem iL_rem {x y : Int} (hx : inL x) (hy : inL y) : Int64.ofInt x % Int64.ofInt y = Int64.ofInt (x.tmod y) := by
  rw [← Int64.toInt_inj, Int64.toInt_mod, iL_toInt hx, iL_toInt hy, iL_toInt (iL_tmod hx hy)]
theorem iL_cmp {x y : Int} (hx : inL x) (hy : inL y) : lg_cmp (Int64.ofInt x) (Int64.ofInt y) = Int32.ofInt (if y < x then 1 else if x = y then 0 else -1) := by
  unfold lg_cmp
  have e1 : (Int64.ofInt x > Int64.ofInt y) ↔ y < x := iL_lt hy hx
  have e2 := iL_eq hx hy
  by_cases q1 : y < x
  · rw [if_pos (e1.mpr q1), if_pos q1]; rfl
  · rw [if_neg (fun h => q1 (e1.mp h)), if_neg q1]
    by_cases q2 : x = y
    · rw [if_pos (e2.mpr q2), if_pos q2]; rfl
    · rw [if_neg (fun h => q2 (e2.mp h)), if_neg q2]; rfl
theorem in_clamp {x : Int} (h0 : 0 ≤ x) (h1 : x ≤ 2147483647) : (Int32.ofInt x).toNatClampNeg = x.toNat := by
  rw [← Int32.toNat_toInt, iI_toInt ⟨by omega, h1⟩]
theorem in_idx {x : Int} {n : Nat} (h0 : 0 ≤ x) (h1 : x ≤ 2147483647) (hn : x < n) : vp_in (Int32.ofInt x) n := by
  intro q
  rcases q with q | q
  · rw [Int32.lt_iff_toInt_lt, iI_toInt ⟨by omega, h1⟩, Int32.toInt_zero] at q
    omega
  · rw [in_clamp h0 h1] at q
    omega
