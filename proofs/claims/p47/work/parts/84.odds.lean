/-! odds that more come than there are rooms: the two ways are one (laid by wip/whole/gen84.py) -/
theorem se_bs {N : gN0} (h0 : 0 ≤ N 26) (h4 : N 26 ≤ 4) (n : Nat) (hn : (n : Int) ≤ N 26) : (seT N n).1 = bsT N n := by
  have e : N 26 = 0 ∨ N 26 = 1 ∨ N 26 = 2 ∨ N 26 = 3 ∨ N 26 = 4 := by omega
  rcases e with e | e | e | e | e
  · exact sb_0 e n (by omega)
  · exact sb_1 e n (by omega)
  · exact sb_2 e n (by omega)
  · exact sb_3 e n (by omega)
  · exact sb_4 e n (by omega)
theorem bn_A (p : Int) : ∀ n : Nat, bnT p n n = pwZ p n := by
  intro n
  induction n with
  | zero => rfl
  | succ n ih =>
    unfold bnT
    rw [bnT_0 p n _ (by omega), if_neg (by omega), show ((n + 1 : Nat) : Int) - 1 = (n : Int) by omega, ih, Int.zero_mul, Int.zero_add]
    rfl
theorem bn_B (p : Int) : ∀ n : Nat, bnT p (n + 1) n = (n + 1) * (pwZ p n * (1000 - p)) := by
  intro n
  induction n with
  | zero => simp [bnT, pwZ]
  | succ n ih =>
    rw [bnT, bn_A p (n + 1), if_neg (by omega), show ((n + 1 : Nat) : Int) - 1 = (n : Int) by omega, ih]
    simp only [pwZ, Int.natCast_add, Int.natCast_one]
    grind
theorem bn_C (p : Int) : ∀ n : Nat, 2 * bnT p (n + 2) n = (n + 2) * (n + 1) * (pwZ p n * ((1000 - p) * (1000 - p))) := by
  intro n
  induction n with
  | zero => simp [bnT, pwZ]
  | succ n ih =>
    have hb := bn_B p (n + 1)
    rw [bnT, if_neg (by omega), show ((n + 1 : Nat) : Int) - 1 = (n : Int) by omega, hb]
    simp only [pwZ, Int.natCast_add, Int.natCast_one] at ih ⊢
    grind
/-- in how many ways some stay away, as the class reckons -/
def wyT (n : Int) : Nat → Int
  | 0 => 1
  | a + 1 => wyT n a * (n - a) / (a + 1)
def smC (p n m : Int) : Nat → Int
  | 0 => 0
  | a + 1 => smC p n m a + wyT n a * pwZ p (m - 1 - a).toNat * pwZ (1000 - p) a
theorem sm_eq {p : Int} {r m : Nat} (hr0 : 1 ≤ r) (hr : r ≤ 6) (hm0 : 1 ≤ m) (hm : m ≤ 3) : smT p (r + m) r m = smC p ((r : Int) + (m : Int)) m m * pwZ p (r + 1) := by
  have em : m = 1 ∨ m = 2 ∨ m = 3 := by omega
  rcases em with rfl | rfl | rfl
  · have a := bn_A p (r + 1)
    simp only [smT, smC, wyT, pwZ, Int.natCast_add, Int.natCast_one] at a ⊢
    simp [pwZ] at a ⊢
    exact a
  · have a := bn_A p (r + 2)
    have b := bn_B p (r + 1)
    simp only [smT, smC, wyT, pwZ, Int.natCast_add, Int.natCast_one] at a b ⊢
    simp [pwZ] at a b ⊢
    rw [show (r : Int) + 1 + 1 = r + 2 by omega] at *
    grind
  · have a := bn_A p (r + 3)
    have b := bn_B p (r + 2)
    have c := bn_C p (r + 1)
    have er : r = 1 ∨ r = 2 ∨ r = 3 ∨ r = 4 ∨ r = 5 ∨ r = 6 := by omega
    rcases er with rfl | rfl | rfl | rfl | rfl | rfl <;> (simp [smT, smC, wyT, pwZ] at a b c ⊢; grind)
theorem pwZ_in {b : Int} (h0 : 0 ≤ b) (h1 : b ≤ 1000) : ∀ n : Nat, 0 ≤ pwZ b n ∧ pwZ b n ≤ pw n := by
  intro n
  induction n with
  | zero => exact ⟨show (0 : Int) ≤ 1 by decide, Int.le_refl _⟩
  | succ n ih =>
    have m1 := Int.mul_nonneg ih.1 h0
    have m2 : pwZ b n * b ≤ pw n * 1000 := Int.mul_le_mul ih.2 h1 h0 (by omega)
    exact ⟨m1, m2⟩
theorem wy_in {n : Int} (h0 : 2 ≤ n) (h1 : n ≤ 9) {a : Nat} (ha : a < 3) : 0 ≤ wyT n a ∧ wyT n a ≤ 36 ∧ 0 ≤ wyT n a * (n - a) ∧ wyT n a * (n - a) ≤ 1000 := by
  have en : n = 2 ∨ n = 3 ∨ n = 4 ∨ n = 5 ∨ n = 6 ∨ n = 7 ∨ n = 8 ∨ n = 9 := by omega
  have ea : a = 0 ∨ a = 1 ∨ a = 2 := by omega
  rcases en with rfl | rfl | rfl | rfl | rfl | rfl | rfl | rfl <;> rcases ea with rfl | rfl | rfl <;> decide
/-- one step's term -/
theorem smS_in {p n m : Int} (hp0 : 0 ≤ p) (hp1 : p ≤ 1000) (hn0 : 2 ≤ n) (hn1 : n ≤ 9) (hm0 : 1 ≤ m) (hm : m ≤ 3) {a : Nat} (ha : (a : Int) < m) : (0 ≤ wyT n a * pwZ p (m - 1 - a).toNat ∧ wyT n a * pwZ p (m - 1 - a).toNat ≤ 36000000) ∧ 0 ≤ wyT n a * pwZ p (m - 1 - a).toNat * pwZ (1000 - p) a ∧ wyT n a * pwZ p (m - 1 - a).toNat * pwZ (1000 - p) a ≤ 36000000 := by
  have hw := wy_in (n := n) hn0 hn1 (a := a) (by omega)
  have h1 := pwZ_in hp0 hp1 (m - 1 - a).toNat
  have h2 := pwZ_in (b := 1000 - p) (by omega) (by omega) a
  have k1 : pw (m - 1 - a).toNat * pw a ≤ 1000000 ∧ 0 ≤ pw a ∧ 0 ≤ pw (m - 1 - a).toNat ∧ pw (m - 1 - a).toNat ≤ 1000000 := by
    have ea : ((m - 1 - a).toNat = 0 ∨ (m - 1 - a).toNat = 1 ∨ (m - 1 - a).toNat = 2) ∧ (a = 0 ∨ a = 1 ∨ a = 2) ∧ (m - 1 - a).toNat + a ≤ 2 := by omega
    obtain ⟨x, y, w⟩ := ea
    generalize (m - 1 - (a : Int)).toNat = q at *
    rcases x with rfl | rfl | rfl <;> rcases y with rfl | rfl | rfl <;> first | (exfalso; omega) | decide
  have m1 := Int.mul_nonneg hw.1 h1.1
  have m2 : wyT n a * pwZ p (m - 1 - a).toNat ≤ 36 * pw (m - 1 - a).toNat := Int.mul_le_mul hw.2.1 h1.2 h1.1 (by omega)
  have m3 := Int.mul_nonneg m1 h2.1
  have m4 : wyT n a * pwZ p (m - 1 - a).toNat * pwZ (1000 - p) a ≤ 36 * pw (m - 1 - a).toNat * pw a := Int.mul_le_mul m2 h2.2 h2.1 (by omega)
  rw [Int.mul_assoc 36] at m4
  omega
theorem smC_in {p n m : Int} (hp0 : 0 ≤ p) (hp1 : p ≤ 1000) (hn0 : 2 ≤ n) (hn1 : n ≤ 9) (hm0 : 1 ≤ m) (hm : m ≤ 3) : ∀ a : Nat, (a : Int) ≤ m → 0 ≤ smC p n m a ∧ smC p n m a ≤ 36000000 * a := by
  intro a
  induction a with
  | zero => intro _; exact ⟨Int.le_refl _, Int.le_refl _⟩
  | succ a ih =>
    intro ha
    have h1 := ih (by omega)
    have h2 := smS_in hp0 hp1 hn0 hn1 hm0 hm (a := a) (by omega)
    unfold smC
    omega
theorem pw8_in {d : Nat} (h : d ≤ 8) : 0 ≤ pw d ∧ pw d ≤ 1000000000000000000000000 := by
  have : d = 0 ∨ d = 1 ∨ d = 2 ∨ d = 3 ∨ d = 4 ∨ d = 5 ∨ d = 6 ∨ d = 7 ∨ d = 8 := by omega
  rcases this with rfl | rfl | rfl | rfl | rfl | rfl | rfl | rfl | rfl <;> decide
/-- a wide number times a factor some times -/
theorem wd_in {W f : Int} (h0 : 0 ≤ W) (h1 : W ≤ 1000000000) (f0 : 0 ≤ f) (f1 : f ≤ 1000) {t : Nat} (ht : t ≤ 8) : 0 ≤ W * pwZ f t ∧ W * pwZ f t ≤ 1000000000000000000000000000000000 := by
  have h2 := pwZ_in f0 f1 t
  have h3 := pw8_in ht
  have m1 := Int.mul_nonneg h0 h2.1
  have m2 : W * pwZ f t ≤ 1000000000 * pw t := Int.mul_le_mul h1 h2.2 h2.1 (by omega)
  omega
/-- one step of it -/
theorem wd_st {hi lo f W : Int} (e : hi * 1000000000000000 + lo = W) (l0 : 0 ≤ lo) (h0 : 0 ≤ hi) (f0 : 0 ≤ f) (f1 : f ≤ 1000) (l1 : lo < 1000000000000000) (hW : W * f ≤ 1000000000000000000000000000000000) :
    (0 ≤ lo * f ∧ lo * f < 1000000000000000000) ∧ (0 ≤ hi * f ∧ hi * f ≤ 1000000000000000000) ∧ (hi * f + lo * f / 1000000000000000) * 1000000000000000 + lo * f % 1000000000000000 = W * f ∧ hi * f + lo * f / 1000000000000000 ≤ 1000000000000000000 := by
  have m1 := Int.mul_nonneg l0 f0
  have m2 := Int.mul_nonneg h0 f0
  have m3 : lo * f ≤ 999999999999999 * 1000 := Int.mul_le_mul (by omega) f1 f0 (by omega)
  have e2 : W * f = (hi * f) * 1000000000000000 + lo * f := by rw [← e]; grind
  rw [e2] at hW ⊢
  refine ⟨⟨m1, by omega⟩, ⟨m2, by omega⟩, by omega, by omega⟩

