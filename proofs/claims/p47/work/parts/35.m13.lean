/-! the reference: what is awaited (rows laid by wip/whole/m13.py) -/
/-- thousand to the power of some days -/
def pw : Nat → Int
  | 0 => 1
  | n + 1 => pw n * 1000
def rsT (N : gN0) : Nat → Int
  | 0 => 1000
  | n + 1 => rsT N n - N (13 + n)
def inS (N : gN0) (w l c : Int) : Nat → Int
  | 0 => 0
  | n + 1 => inS N w l c n + N (13 + n) * max w (N (17 + n) * c + l)
/-- the awaited income, times a thousand to the power of the days -/
def incZ (N : gN0) : Nat → Nat → Int
  | 0, _ => 0
  | _ + 1, 0 => 0
  | d + 1, r + 1 => rsT N 4 * incZ N d (r + 1) + inS N (incZ N d (r + 1)) (incZ N d r) (pw d) 4
theorem rsT_in {N : gN0} (h : oOk N) : ∀ n : Nat, n ≤ 4 → 0 ≤ rsT N n ∧ rsT N n ≤ 1000 := by
  have h1 := h.1
  intro n hn
  have : n = 0 ∨ n = 1 ∨ n = 2 ∨ n = 3 ∨ n = 4 := by omega
  have e0 : rsT N 0 = 1000 := rfl
  have e1 : rsT N 1 = 1000 - N 13 := rfl
  have e2 : rsT N 2 = 1000 - N 13 - N 14 := rfl
  have e3 : rsT N 3 = 1000 - N 13 - N 14 - N 15 := rfl
  have e4 : rsT N 4 = 1000 - N 13 - N 14 - N 15 - N 16 := rfl
  rcases this with rfl | rfl | rfl | rfl | rfl <;> omega
theorem od_in {N : gN0} (h : oOk N) {n : Nat} (hn : n < 4) : 0 ≤ N (13 + n) ∧ N (13 + n) ≤ 1000 ∧ 0 ≤ N (17 + n) ∧ N (17 + n) ≤ 100000 := by
  obtain ⟨h1, h2, -⟩ := h
  have : n = 0 ∨ n = 1 ∨ n = 2 ∨ n = 3 := by omega
  rcases this with rfl | rfl | rfl | rfl
  · show 0 ≤ N 13 ∧ N 13 ≤ 1000 ∧ 0 ≤ N 17 ∧ N 17 ≤ 100000; omega
  · show 0 ≤ N 14 ∧ N 14 ≤ 1000 ∧ 0 ≤ N 18 ∧ N 18 ≤ 100000; omega
  · show 0 ≤ N 15 ∧ N 15 ≤ 1000 ∧ 0 ≤ N 19 ∧ N 19 ≤ 100000; omega
  · show 0 ≤ N 16 ∧ N 16 ≤ 1000 ∧ 0 ≤ N 20 ∧ N 20 ≤ 100000; omega
theorem inS_in {N : gN0} (h : oOk N) {w l c B : Int} (hw : 0 ≤ w) (hwB : w ≤ B) (hl : 0 ≤ l) (hc : 0 ≤ c) (hB : 100000 * c + l ≤ B) : ∀ n : Nat, n ≤ 4 → 0 ≤ inS N w l c n ∧ inS N w l c n ≤ (1000 - rsT N n) * B := by
  intro n
  induction n with
  | zero => intro _; refine ⟨Int.le_refl _, ?_⟩; show (0 : Int) ≤ (1000 - 1000) * B; omega
  | succ n ih =>
    intro hn
    have h1 := ih (by omega)
    have ho := od_in h (n := n) (by omega)
    have hp1 : 0 ≤ N (17 + n) * c := Int.mul_nonneg ho.2.2.1 hc
    have hp2 : N (17 + n) * c ≤ 100000 * c := Int.mul_le_mul_of_nonneg_right ho.2.2.2 hc
    have hx0 : 0 ≤ max w (N (17 + n) * c + l) := by omega
    have hx1 : max w (N (17 + n) * c + l) ≤ B := by omega
    have hm0 : 0 ≤ N (13 + n) * max w (N (17 + n) * c + l) := Int.mul_nonneg ho.1 hx0
    have hm1 : N (13 + n) * max w (N (17 + n) * c + l) ≤ N (13 + n) * B := Int.mul_le_mul_of_nonneg_left hx1 ho.1
    have e : (1000 - rsT N (n + 1)) * B = (1000 - rsT N n) * B + N (13 + n) * B := by
      rw [← Int.add_mul]
      congr 1
      show 1000 - (rsT N n - N (13 + n)) = _
      omega
    rw [e]
    unfold inS
    omega
/-- one day more, in part -/
theorem inc_st {N : gN0} (h : oOk N) {w l c B : Int} (hw : 0 ≤ w) (hwB : w ≤ B) (hl : 0 ≤ l) (hc : 0 ≤ c) (hB : 100000 * c + l ≤ B) {n : Nat} (hn : n ≤ 4) : 0 ≤ rsT N 4 * w ∧ rsT N 4 * w ≤ 1000 * B ∧ 0 ≤ rsT N 4 * w + inS N w l c n ∧ rsT N 4 * w + inS N w l c n ≤ 1000 * B := by
  have hr := rsT_in h 4 (Nat.le_refl _)
  have hs := inS_in h hw hwB hl hc hB n hn
  have h0 : 0 ≤ rsT N 4 * w := Int.mul_nonneg hr.1 hw
  have h1 : rsT N 4 * w ≤ rsT N 4 * B := Int.mul_le_mul_of_nonneg_left hwB hr.1
  have hB0 : 0 ≤ B := by omega
  have hm : rsT N 4 ≤ rsT N n := by
    have : n = 0 ∨ n = 1 ∨ n = 2 ∨ n = 3 ∨ n = 4 := by omega
    have h9 := h.1
    have e0 : rsT N 0 = 1000 := rfl
    have e1 : rsT N 1 = 1000 - N 13 := rfl
    have e2 : rsT N 2 = 1000 - N 13 - N 14 := rfl
    have e3 : rsT N 3 = 1000 - N 13 - N 14 - N 15 := rfl
    have e4 : rsT N 4 = 1000 - N 13 - N 14 - N 15 - N 16 := rfl
    rcases this with rfl | rfl | rfl | rfl | rfl <;> omega
  have h2 : rsT N 4 * B ≤ rsT N n * B := Int.mul_le_mul_of_nonneg_right hm hB0
  have h3 : rsT N n * B + (1000 - rsT N n) * B = 1000 * B := by rw [← Int.add_mul]; congr 1; omega
  have h4 : rsT N n * B ≤ 1000 * B := Int.mul_le_mul_of_nonneg_right (rsT_in h n hn).2 hB0
  omega
theorem pw_in {d : Nat} (h : d ≤ 4) : 1 ≤ pw d ∧ pw d ≤ 1000000000000 := by
  have : d = 0 ∨ d = 1 ∨ d = 2 ∨ d = 3 ∨ d = 4 := by omega
  rcases this with rfl | rfl | rfl | rfl | rfl <;> decide
/-- the greatest that can be awaited -/
def mxI (d : Nat) : Int := (d : Int) * 100000 * pw d
theorem mxI_next (d : Nat) : 1000 * ((d + 1 : Nat) * 100000 * pw d : Int) = mxI (d + 1) := by
  unfold mxI
  show _ = _ * _ * (pw d * 1000)
  rw [Int.mul_comm 1000, Int.mul_assoc]
theorem incZ_in {N : gN0} (h : oOk N) : ∀ (d r : Nat), d ≤ 4 → 0 ≤ incZ N d r ∧ incZ N d r ≤ mxI d := by
  intro d
  induction d with
  | zero => intro r _; unfold incZ; exact ⟨Int.le_refl _, by decide⟩
  | succ d ih =>
    intro r hd
    have hp := pw_in (d := d) (by omega)
    have hB : mxI d + 100000 * pw d = ((d + 1 : Nat) * 100000 * pw d : Int) := by
      have e : ((d + 1 : Nat) : Int) * 100000 = (d : Int) * 100000 + 100000 := by omega
      unfold mxI
      rw [e, Int.add_mul]
    cases r with
    | zero =>
      unfold incZ
      refine ⟨Int.le_refl _, ?_⟩
      unfold mxI
      have h1 : (0 : Int) ≤ pw (d + 1) := by have := pw_in (d := d + 1) hd; omega
      exact Int.mul_nonneg (by omega) h1
    | succ r =>
      have h1 := ih (r + 1) (by omega)
      have h2 := ih r (by omega)
      have h3 := inc_st h (w := incZ N d (r + 1)) (l := incZ N d r) (c := pw d) (B := ((d + 1 : Nat) * 100000 * pw d : Int)) h1.1 (by omega) h2.1 (by omega) (by omega) (Nat.le_refl 4)
      rw [incZ, ← mxI_next]
      exact ⟨h3.2.2.1, h3.2.2.2⟩
theorem mxI_in {d : Nat} (h : d ≤ 4) : 0 ≤ mxI d ∧ mxI d ≤ 400000000000000000 := by
  have : d = 0 ∨ d = 1 ∨ d = 2 ∨ d = 3 ∨ d = 4 := by omega
  rcases this with rfl | rfl | rfl | rfl | rfl <;> decide
/-- the memory with incomes laid -/
def inV (V : gV) (b : Int) (N : gN0) (m : Int) : gV := fun a j => if a = b + 4 ∧ 0 ≤ j ∧ j < m then incZ N (j / 6).toNat (j % 6).toNat else V a j
theorem inV_0 (V : gV) (b : Int) (N : gN0) : V = inV V b N 0 := by
  funext a j
  unfold inV
  rw [if_neg (by omega)]
theorem inV_in (V : gV) (b : Int) (N : gN0) (m m' : Int) (h : m ≤ m') : inV (inV V b N m) b N m' = inV V b N m' := by
  funext a j
  unfold inV
  by_cases q : a = b + 4 ∧ 0 ≤ j ∧ j < m'
  · rw [if_pos q, if_pos q]
  · rw [if_neg q, if_neg q, if_neg (fun g => q ⟨g.1, g.2.1, by omega⟩)]
theorem gMd_in {b : Int} {N N' : gN0} {Sh : gSh} {V : gV} (h : gMd b N Sh V) (m : Int) : gMd b N Sh (inV V b N' m) := by
  have k : ∀ a, a ≠ b + 4 → inV V b N' m a = V a := by
    intro a ha
    funext j
    unfold inV
    rw [if_neg (fun q => ha q.1)]
  obtain ⟨h1, ⟨h2, h3, h4, h5, h6⟩, h7⟩ := h
  have kb := k b (by omega)
  refine ⟨h1, ⟨?_, ?_, ?_, ?_, ?_⟩, ?_⟩
  · rw [kb]; exact h2
  · rw [kb]; exact h3
  · rw [kb]; exact h4
  · rw [kb]; exact h5
  · rw [kb]; exact h6
  · rw [k (b + 1) (by omega)]; exact h7
theorem inV_at {V : gV} {b : Int} {N : gN0} {m : Int} {d r : Nat} {j : Int} (hj : j = 6 * d + r) (hr : r < 6) (hm : j < m) : inV V b N m (b + 4) j = incZ N d r := by
  unfold inV
  rw [if_pos ⟨rfl, by omega, hm⟩, show (j / 6).toNat = d by omega, show (j % 6).toNat = r by omega]
theorem inV_up {V : gV} {b : Int} {N : gN0} {m x : Int} {d r : Nat} (hj : m = 6 * d + r) (hr : r < 6) (hx : x = incZ N d r) : up (inV V b N m) (b + 4) m x = inV V b N (m + 1) := by
  funext a i
  unfold up
  by_cases h : a = b + 4 ∧ i = m
  · obtain ⟨rfl, rfl⟩ := h
    rw [if_pos ⟨rfl, rfl⟩, inV_at (d := d) (r := r) hj hr (by omega), hx]
  · rw [if_neg h]
    unfold inV
    by_cases h2 : a = b + 4 ∧ 0 ≤ i ∧ i < m
    · rw [if_pos h2, if_pos ⟨h2.1, h2.2.1, by omega⟩]
    · rw [if_neg h2, if_neg (fun q => by omega)]
theorem up_up (V : gV) (a i x y : Int) : up (up V a i x) a i y = up V a i y := by
  funext c j
  unfold up
  split
  · rfl
  · rfl
theorem inc_st2 {N : gN0} (h : oOk N) {d : Nat} (r : Nat) (hd : d < 4) {n : Nat} (hn : n ≤ 4) : (0 ≤ rsT N 4 * incZ N d (r + 1) ∧ rsT N 4 * incZ N d (r + 1) ≤ 400000000000000000) ∧ (0 ≤ rsT N 4 * incZ N d (r + 1) + inS N (incZ N d (r + 1)) (incZ N d r) (pw d) n ∧ rsT N 4 * incZ N d (r + 1) + inS N (incZ N d (r + 1)) (incZ N d r) (pw d) n ≤ 400000000000000000) := by
  have h1 := incZ_in h d (r + 1) (by omega)
  have h2 := incZ_in h d r (by omega)
  have hp := pw_in (d := d) (by omega)
  have hB : mxI d + 100000 * pw d = ((d + 1 : Nat) * 100000 * pw d : Int) := by
    have e : ((d + 1 : Nat) : Int) * 100000 = (d : Int) * 100000 + 100000 := by omega
    unfold mxI
    rw [e, Int.add_mul]
  have h3 := inc_st h (w := incZ N d (r + 1)) (l := incZ N d r) (c := pw d) (B := ((d + 1 : Nat) * 100000 * pw d : Int)) h1.1 (by omega) h2.1 (by omega) (by omega) hn
  have hx := mxI_in (d := d + 1) (by omega)
  rw [mxI_next] at h3
  omega
theorem inc_mx {N : gN0} (h : oOk N) {d : Nat} (r : Nat) (hd : d < 4) {n : Nat} (hn : n < 4) : 0 ≤ N (17 + n) * pw d + incZ N d r ∧ N (17 + n) * pw d + incZ N d r ≤ 800000000000000000 := by
  have ho := od_in h hn
  have hp := pw_in (d := d) (by omega)
  have h2 := incZ_in h d r (by omega)
  have hx := mxI_in (d := d) (by omega)
  have hp1 : 0 ≤ N (17 + n) * pw d := Int.mul_nonneg ho.2.2.1 (by omega)
  have hp2 : N (17 + n) * pw d ≤ 100000 * pw d := Int.mul_le_mul_of_nonneg_right ho.2.2.2 (by omega)
  omega
def limZ (N : gN0) (days rooms : Int) : Int := wI (Int.tdiv (incZ N (days - 1).toNat rooms.toNat - incZ N (days - 1).toNat (rooms - 1).toNat + pw (days - 1).toNat - 1) (pw (days - 1).toNat))

/-- a sale begins -/
def selN (N : gN0) (days rooms : Int) : gN0 := upN (upN (upN (upN (upN (upN N 21 1) 22 days) 23 rooms) 24 0) 25 rooms) 26 0
theorem selN_o {N : gN0} (h : oOk N) {days rooms : Int} (h1 : 1 ≤ days ∧ days ≤ 4) (h2 : 1 ≤ rooms ∧ rooms ≤ 4) : oOk (selN N days rooms) := by
  unfold oOk at *
  have e : ∀ j, (j < 21 ∨ 26 < j) → selN N days rooms j = N j := by
    intro j hj
    unfold selN
    rw [upN_ne (by omega), upN_ne (by omega), upN_ne (by omega), upN_ne (by omega), upN_ne (by omega), upN_ne (by omega)]
  have e21 : selN N days rooms 21 = 1 := by simp [selN, upN]
  have e22 : selN N days rooms 22 = days := by simp [selN, upN]
  have e23 : selN N days rooms 23 = rooms := by simp [selN, upN]
  have e24 : selN N days rooms 24 = 0 := by simp [selN, upN]
  have e25 : selN N days rooms 25 = rooms := by simp [selN, upN]
  have e26 : selN N days rooms 26 = 0 := by simp [selN, upN]
  rw [e21, e22, e23, e24, e25, e26, e 13 (by decide), e 14 (by decide), e 15 (by decide), e 16 (by decide), e 17 (by decide), e 18 (by decide), e 19 (by decide), e 20 (by decide), e 27 (by decide), e 28 (by decide), e 29 (by decide), e 30 (by decide)]
  omega
/-- an offer comes -/
abbrev offC (N : gN0) (price : Int) : Prop := 0 < N 23 ∧ limZ N (N 22) (N 23) ≤ price
def offN (N : gN0) (price : Int) : gN0 := upN (upN (upN N (27 + N 26) price) 26 (N 26 + 1)) 22 (N 22 - 1)
def offT (N : gN0) (price : Int) : gN0 := upN (upN (offN N price) 23 (N 23 - 1)) 24 (N 24 + price)

def ubT (u k : Int) : Int := (Int32.ofInt ((Int32.ofInt u >>> (Int32.ofInt k &&& 31)).toInt) &&& Int32.ofInt 1).toInt
def uoT (u k : Int) : Int := (Int32.ofInt u ||| Int32.ofInt (shV k)).toInt
/-- the greatest offer not yet taken -/
def beT (N : gN0) (u : Int) : Nat → Int
  | 0 => -1
  | k + 1 => if ubT u k = 0 ∧ (beT N u k = -1 ∨ N (27 + beT N u k) < N (27 + k)) then k else beT N u k
theorem beT_in (N : gN0) (u : Int) : ∀ n : Nat, -1 ≤ beT N u n ∧ beT N u n < n := by
  intro n
  induction n with
  | zero => exact ⟨Int.le_refl _, by show (-1 : Int) < ((0 : Nat) : Int); omega⟩
  | succ n ih => unfold beT; split <;> omega
def seT (N : gN0) : Nat → Int × Int
  | 0 => (0, 0)
  | n + 1 => ((seT N n).1 + N (27 + beT N (seT N n).2 (N 26).toNat), uoT (seT N n).2 (beT N (seT N n).2 (N 26).toNat))
theorem seT_in (N : gN0) : ∀ n, inI (seT N n).2 := by
  intro n
  cases n with
  | zero => show inI 0; exact ⟨by decide, by decide⟩
  | succ n => exact i32_in _

