/-! bounds of what is read off the state -/
theorem shr_in {w : Int} (n : Nat) (hw : inI w) : inI (w / 2 ^ n) := by
  have hp : (0 : Int) < 2 ^ n := Int.pow_pos (by decide)
  have a1 : w / 2 ^ n ≤ 2147483647 := by
    by_cases hw0 : 0 ≤ w
    · have := Int.ediv_le_self (2 ^ n) hw0
      omega
    · have : w / 2 ^ n < 0 := Int.ediv_neg_of_neg_of_pos (by omega) (by omega)
      omega
  have a2 : -2147483648 ≤ w / 2 ^ n := by
    rw [Int.le_ediv_iff_mul_le (by omega)]
    have : (-2147483648 : Int) * 2 ^ n ≤ -2147483648 * 1 := Int.mul_le_mul_of_nonpos_left (by decide) (by omega)
    omega
  exact ⟨a2, a1⟩
theorem rfsT_in (N : gN0) (k : Int) : ∀ (n : Nat) (d : Int), rfsT N k d n = -1 ∨ (d ≤ rfsT N k d n ∧ rfsT N k d n < d + n) := by
  intro n
  induction n with
  | zero => intro d; exact Or.inl rfl
  | succ n ih =>
    intro d
    unfold rfsT
    split
    · right; omega
    · rcases ih (d + 1) with h | h
      · exact Or.inl h
      · right; omega
theorem rfs_in (N : gN0) (k d n : Int) (h0 : 0 ≤ d) (h1 : d + n ≤ 36525) : -1 ≤ rfs N k d n ∧ rfs N k d n ≤ 36524 := by
  unfold rfs
  have := rfsT_in N k n.toNat d
  omega
theorem lstT_in {N : gN0} (h : ∀ i, 0 ≤ i → i < N 2 → seOk N i) (md : Int) : ∀ n : Nat, (n : Int) ≤ N 2 → 1 ≤ lstT N md n ∧ lstT N md n ≤ 7 := by
  intro n
  induction n with
  | zero => intro _; unfold lstT; omega
  | succ n ih =>
    intro hn
    have h1 := ih (by omega)
    have h2 := h n (by omega) (by omega)
    unfold seOk at h2
    unfold lstT
    split <;> omega
theorem pctT_in {N : gN0} (h : ∀ i, 0 ≤ i → i < N 2 → seOk N i) (md p : Int) : ∀ n : Nat, (n : Int) ≤ N 2 → p - 50 * n ≤ pctT N md p n ∧ pctT N md p n ≤ p + 100 * n := by
  intro n
  induction n with
  | zero => intro _; unfold pctT; omega
  | succ n ih =>
    intro hn
    have h1 := ih (by omega)
    have h2 := h n (by omega) (by omega)
    unfold seOk at h2
    unfold pctT
    split <;> omega
theorem mul_in {a b A B : Int} (h1 : 0 ≤ a) (h2 : a ≤ A) (h3 : 0 ≤ b) (h4 : b ≤ B) : 0 ≤ a * b ∧ a * b ≤ A * B :=
  ⟨Int.mul_nonneg h1 h3, Int.mul_le_mul h2 h4 h3 (by omega)⟩
theorem div_in {a b A : Int} (h1 : 0 ≤ a) (h2 : a ≤ A) (h3 : 1 ≤ b) : 0 ≤ a / b ∧ a / b ≤ A :=
  ⟨Int.ediv_nonneg h1 (by omega), Int.le_trans (Int.ediv_le_self b h1) h2⟩
theorem prT_in {N : gN0} {s : Int} (h : sOk N s) : ∀ n : Nat, (n : Int) ≤ sF N s 3 → 0 ≤ prT N s n ∧ prT N s n ≤ 720000 * n := by
  intro n
  induction n with
  | zero => intro _; unfold prT; omega
  | succ n ih =>
    intro hn
    have h1 := ih (by omega)
    have h2 := h.2 n (by omega) (by omega)
    unfold prT
    omega
theorem sPr_in {N : gN0} {s : Int} (h : sOk N s) : 0 ≤ sPr N s ∧ sPr N s ≤ 10080000 := by
  have h1 := h.1
  have := prT_in h (sF N s 3).toNat (by omega)
  unfold sPr
  omega
theorem sTx_in {N : gN0} {s : Int} (h : sOk N s) : 0 ≤ sTx N s ∧ sTx N s ≤ 91000 := by
  have h1 := h.1
  have a := mul_in (a := sF N s 4) (b := sF N s 7) (A := 4) (B := 1000) (by omega) (by omega) (by omega) (by omega)
  have c := mul_in (a := sF N s 5) (b := (sF N s 7 + 1) / 2) (A := 4) (B := 500) (by omega) (by omega) (by omega) (by omega)
  have d := mul_in (a := sF N s 3) (b := sF N s 4 * sF N s 7 + sF N s 5 * ((sF N s 7 + 1) / 2)) (A := 14) (B := 6500) (by omega) (by omega) (by omega) (by omega)
  unfold sTx
  omega
theorem pct_in {N : gN0} (hI : InvC N) {k : Int} (hk0 : 0 ≤ k) (hk1 : k < N 1) (d : Int) : -200 ≤ pct N k d ∧ pct N k d ≤ 3100 := by
  have hs := hI.1
  have hk := hI.2.1 k hk0 hk1
  unfold iScal at hs
  unfold kOk at hk
  have hc := cnt_in hI k d
  have h1 := div_in (a := 4 * cnt N k d) (b := kF N k 0) (A := 240) (by omega) (by omega) (by omega)
  have h2 := pctT_in hI.2.2.1 (dateZ d % 10000) (100 + 10 * (4 * cnt N k d / kF N k 0)) (N 2).toNat (by omega)
  unfold pct
  split <;> omega
theorem nPr_in {N : gN0} (hI : InvC N) {k : Int} (hk0 : 0 ≤ k) (hk1 : k < N 1) (d : Int) : 0 ≤ nPr N k d ∧ nPr N k d ≤ 3200000 := by
  have hk := hI.2.1 k hk0 hk1
  unfold kOk at hk
  have h1 := pct_in hI hk0 hk1 d
  unfold nPr
  split
  · omega
  · have h2 := mul_in (a := kF N k 1) (b := pct N k d) (A := 100000) (B := 3100) (by omega) (by omega) (by omega) (by omega)
    omega
/-- the price of a night that can be had -/
theorem nPr_had {N : gN0} (hI : InvC N) {k : Int} (hk0 : 0 ≤ k) (hk1 : k < N 1) {d : Int} (hc : cnt N k d < kF N k 0 + kF N k 2) : 0 ≤ nPr N k d ∧ nPr N k d ≤ 720000 := by
  have hs := hI.1
  have hk := hI.2.1 k hk0 hk1
  unfold iScal at hs
  unfold kOk at hk
  have hc2 := cnt_in hI k d
  have h1 : 0 ≤ 4 * cnt N k d / kF N k 0 ∧ 4 * cnt N k d / kF N k 0 ≤ 12 := by
    refine ⟨Int.ediv_nonneg (by omega) (by omega), ?_⟩
    have : 4 * cnt N k d / kF N k 0 < 13 := by
      rw [Int.ediv_lt_iff_lt_mul (by omega)]
      omega
    omega
  have h2 := pctT_in hI.2.2.1 (dateZ d % 10000) (100 + 10 * (4 * cnt N k d / kF N k 0)) (N 2).toNat (by omega)
  have h3 : pct N k d ≤ 720 := by
    unfold pct
    split <;> omega
  unfold nPr
  split
  · omega
  · have h2 := mul_in (a := kF N k 1) (b := pct N k d) (A := 100000) (B := 720) (by omega) (by omega) (by omega) (by omega)
    omega

