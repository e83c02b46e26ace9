/-! the reference: risks (rows laid by wip/whole/m15.py) -/
def vlC (C : gN0) (k : Int) : Int := C (k * 4 + (0 : Nat)) + C (k * 4 + (1 : Nat)) * 1000000000 + C (k * 4 + (2 : Nat)) * 1000000000000000000 + C (k * 4 + (3 : Nat)) * 1000000000000000000000000000
theorem mxT_ne {C : gN0} {to by9 other oby : Int} : ∀ (n : Nat) (j : Int), (j < to * 4 ∨ to * 4 + n ≤ j) → (mxT C to by9 other oby n).1 j = C j := by
  intro n
  induction n with
  | zero => intro j _; rfl
  | succ n ih =>
    intro j hj
    rw [mxT]
    dsimp only
    rw [upN_ne (by omega)]
    exact ih j (by omega)
theorem mxT_st {C : gN0} {to by9 other oby : Int} (hne : other ≠ to) (n : Nat) (hn : n < 4) : (mxT C to by9 other oby (n + 1)).1 (to * 4 + n) + 1000000000 * (mxT C to by9 other oby (n + 1)).2 = C (to * 4 + n) * by9 + (if other < 0 then 0 else C (other * 4 + n) * oby) + (mxT C to by9 other oby n).2 := by
  rw [mxT]
  dsimp only
  rw [upN_eq, mxT_ne n (to * 4 + n) (by omega), mxT_ne n (other * 4 + n) (by omega)]
  generalize C (to * 4 + n) * by9 + (if other < 0 then 0 else C (other * 4 + n) * oby) + (mxT C to by9 other oby n).2 = v
  omega
theorem mx_val {C : gN0} {to by9 other oby : Int} (h : liOk C) (ht : 0 ≤ to ∧ to ≤ 10) (ho : other ≤ 10) (hb : 0 ≤ by9 ∧ by9 ≤ 1000) (hob : 0 ≤ oby ∧ oby ≤ 1000) (hne : other ≠ to)
    (hlt : vlC C to * by9 + (if other < 0 then 0 else vlC C other * oby) < 1000000000000000000000000000000000000) :
    vlC (mxT C to by9 other oby 4).1 to = vlC C to * by9 + (if other < 0 then 0 else vlC C other * oby) := by
  have s0 := mxT_st (C := C) (by9 := by9) (oby := oby) hne 0 (by decide)
  have s1 := mxT_st (C := C) (by9 := by9) (oby := oby) hne 1 (by decide)
  have s2 := mxT_st (C := C) (by9 := by9) (oby := oby) hne 2 (by decide)
  have s3 := mxT_st (C := C) (by9 := by9) (oby := oby) hne 3 (by decide)
  have e0 : (mxT C to by9 other oby 0).2 = 0 := rfl
  have f : ∀ (n m : Nat), n < m → m ≤ 4 → (mxT C to by9 other oby 4).1 (to * 4 + n) = (mxT C to by9 other oby (n + 1)).1 (to * 4 + n) := by
    intro n m h1 h2
    have g : ∀ d : Nat, (mxT C to by9 other oby (n + 1 + d)).1 (to * 4 + n) = (mxT C to by9 other oby (n + 1)).1 (to * 4 + n) := by
      intro d
      induction d with
      | zero => rfl
      | succ d ih =>
        rw [← Nat.add_assoc, mxT]
        dsimp only
        rw [upN_ne (by omega)]
        exact ih
    have := g (3 - n)
    rw [show n + 1 + (3 - n) = 4 by omega] at this
    exact this
  have hin := mxT_in h ht ho hb hob 4 (Nat.le_refl _)
  have l0 := hin.1 (to * 4 + (0 : Nat)) (by omega) (by omega)
  have l1 := hin.1 (to * 4 + (1 : Nat)) (by omega) (by omega)
  have l2 := hin.1 (to * 4 + (2 : Nat)) (by omega) (by omega)
  have l3 := hin.1 (to * 4 + (3 : Nat)) (by omega) (by omega)
  have f0 := f 0 1 (by decide) (by decide)
  have f1 := f 1 2 (by decide) (by decide)
  have f2 := f 2 3 (by decide) (by decide)
  have f3 := f 3 4 (by decide) (by decide)
  simp only [Nat.reduceAdd] at s0 s1 s2 s3 f0 f1 f2 f3
  have ev : ∀ k y, vlC C k * y = C (k * 4 + (0 : Nat)) * y + C (k * 4 + (1 : Nat)) * y * 1000000000 + C (k * 4 + (2 : Nat)) * y * 1000000000000000000 + C (k * 4 + (3 : Nat)) * y * 1000000000000000000000000000 := by
    intro k y
    unfold vlC
    rw [Int.add_mul, Int.add_mul, Int.add_mul, Int.mul_right_comm _ 1000000000, Int.mul_right_comm _ 1000000000000000000, Int.mul_right_comm _ 1000000000000000000000000000]
  have ex := ev to by9
  have eo := ev other oby
  by_cases hn : other < 0
  · simp only [if_pos hn] at s0 s1 s2 s3 hlt ⊢
    unfold vlC at hlt ex ⊢
    omega
  · simp only [if_neg hn] at s0 s1 s2 s3 hlt ⊢
    unfold vlC at hlt ex eo ⊢
    omega
theorem mx_oth {C : gN0} {to by9 other oby k : Int} (h : k ≠ to) : vlC (mxT C to by9 other oby 4).1 k = vlC C k := by
  unfold vlC
  rw [mxT_ne 4 _ (by omega), mxT_ne 4 _ (by omega), mxT_ne 4 _ (by omega), mxT_ne 4 _ (by omega)]
/-- the odds that k of n come, times a thousand to the power of n -/
def bnT (p : Int) : Nat → Int → Int
  | 0, k => if k = 0 then 1 else 0
  | n + 1, k => bnT p n k * (1000 - p) + (if k - 1 < 0 then 0 else bnT p n (k - 1) * p)
theorem bnT_0 (p : Int) : ∀ (n : Nat) (k : Int), (n : Int) < k → bnT p n k = 0 := by
  intro n
  induction n with
  | zero => intro k h; unfold bnT; rw [if_neg (by omega)]
  | succ n ih =>
    intro k h
    unfold bnT
    rw [ih k (by omega), if_neg (by omega), ih (k - 1) (by omega)]
    omega
theorem bnT_in {p : Int} (h0 : 0 ≤ p) (h1 : p ≤ 1000) : ∀ (n : Nat) (k : Int), 0 ≤ bnT p n k ∧ bnT p n k ≤ pw n := by
  intro n
  induction n with
  | zero => intro k; unfold bnT pw; split <;> omega
  | succ n ih =>
    intro k
    have a := ih k
    have c := ih (k - 1)
    have m1 := Int.mul_nonneg a.1 (show 0 ≤ 1000 - p by omega)
    have m2 := Int.mul_nonneg c.1 h0
    have m3 : bnT p n k * (1000 - p) ≤ pw n * (1000 - p) := Int.mul_le_mul_of_nonneg_right a.2 (by omega)
    have m4 : bnT p n (k - 1) * p ≤ pw n * p := Int.mul_le_mul_of_nonneg_right c.2 h0
    have m5 : pw n * (1000 - p) + pw n * p = pw n * 1000 := by rw [← Int.mul_add]; congr 1; omega
    have m6 : 0 ≤ pw n * p := by omega
    have e : pw (n + 1) = pw n * 1000 := rfl
    rw [e]
    unfold bnT
    split <;> omega
theorem pw9_in {d : Nat} (h : d ≤ 9) : 1 ≤ pw d ∧ pw d ≤ 1000000000000000000000000000 := by
  have : d = 0 ∨ d = 1 ∨ d = 2 ∨ d = 3 ∨ d = 4 ∨ d = 5 ∨ d = 6 ∨ d = 7 ∨ d = 8 ∨ d = 9 := by omega
  rcases this with rfl | rfl | rfl | rfl | rfl | rfl | rfl | rfl | rfl | rfl <;> decide
/-- the odds that more than some come -/
def smT (p : Int) (n : Nat) (r : Int) : Nat → Int
  | 0 => 0
  | m + 1 => smT p n r m + bnT p n (r + 1 + m)
theorem smT_in {p : Int} (h0 : 0 ≤ p) (h1 : p ≤ 1000) (n : Nat) (r : Int) : ∀ m : Nat, 0 ≤ smT p n r m ∧ smT p n r m ≤ m * pw n := by
  intro m
  induction m with
  | zero => refine ⟨Int.le_refl _, ?_⟩; show (0 : Int) ≤ ((0 : Nat) : Int) * _; simp
  | succ m ih =>
    have := bnT_in h0 h1 n (r + 1 + m)
    have e : ((m + 1 : Nat) : Int) * pw n = m * pw n + pw n := by rw [Int.natCast_add, Int.add_mul]; simp
    rw [e]
    unfold smT
    omega
def zzC (C : gN0) (n : Int) : gN0 := fun j => if (0 ≤ j ∧ j < n) ∨ (40 ≤ j ∧ j < 40 + n) then 0 else C j
theorem zzC_0 (C : gN0) : zzC C 0 = C := by
  funext j
  unfold zzC
  rw [if_neg (by omega)]
theorem zzC_next (C : gN0) {n : Int} (h : 0 ≤ n) (h4 : n < 4) : upN (upN (zzC C n) n 0) (40 + n) 0 = zzC C (n + 1) := by
  funext j
  unfold upN zzC
  by_cases h1 : j = 40 + n
  · rw [if_pos h1, if_pos (by omega)]
  · rw [if_neg h1]
    by_cases h2 : j = n
    · rw [if_pos h2, if_pos (by omega)]
    · rw [if_neg h2]
      by_cases h3 : (0 ≤ j ∧ j < n) ∨ (40 ≤ j ∧ j < 40 + n)
      · rw [if_pos h3, if_pos (by omega)]
      · rw [if_neg h3, if_neg (by omega)]
theorem cmpZ_0 {x y : Int} : cmpZ x y = 0 ↔ x = y := by unfold cmpZ; (repeat' split) <;> omega
theorem cmpZ_lt9 {x y : Int} : cmpZ x y < 0 ↔ x < y := by unfold cmpZ; (repeat' split) <;> omega
theorem cmpZ_in9 (x y : Int) : -1 ≤ cmpZ x y ∧ cmpZ x y ≤ 1 := by unfold cmpZ; (repeat' split) <;> omega
/-- an answer, the limbs are others -/
def gRc (v : aV) (b : Int) (Sh : gSh) (V : gV) : gPo := fun o Sh' V' _ => o = .inl (some v) ∧ Sh' = Sh ∧ ∃ C, V' = rwV V (b + 5) C 44

