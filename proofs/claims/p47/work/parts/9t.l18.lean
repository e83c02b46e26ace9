/-! the best sale, pure (laid by wip/p47/l18.py) -/
/-! the best sale -/
theorem inS_4 (N : gN0) (w l c : Int) : inS N w l c 4 = N 13 * max w (N 17 * c + l) + N 14 * max w (N 18 * c + l) + N 15 * max w (N 19 * c + l) + N 16 * max w (N 20 * c + l) := by
  show 0 + N (13 + ((0 : Nat) : Int)) * max w (N (17 + ((0 : Nat) : Int)) * c + l) + N (13 + ((1 : Nat) : Int)) * max w (N (17 + ((1 : Nat) : Int)) * c + l) + N (13 + ((2 : Nat) : Int)) * max w (N (17 + ((2 : Nat) : Int)) * c + l) + N (13 + ((3 : Nat) : Int)) * max w (N (17 + ((3 : Nat) : Int)) * c + l) = _
  rw [Int.zero_add]; rfl
theorem rsT_4 (N : gN0) : rsT N 4 = 1000 - N 13 - N 14 - N 15 - N 16 := rfl
theorem inc_00 (N : gN0) (d : Nat) : incZ N d 0 = 0 := by cases d <;> rfl
theorem inc_0r (N : gN0) (r : Nat) : incZ N 0 r = 0 := by cases r <;> rfl
/-- what an offer of a worth makes of what is awaited -/
def oF (N : gN0) (d r : Nat) (x : Int) : Int := if r = 0 then 0 else max (incZ N d r) (x + incZ N d (r - 1))
theorem inc_F (N : gN0) (d r : Nat) : incZ N (d + 1) r = rsT N 4 * incZ N d r + N 13 * oF N d r (N 17 * pw d) + N 14 * oF N d r (N 18 * pw d) + N 15 * oF N d r (N 19 * pw d) + N 16 * oF N d r (N 20 * pw d) := by
  cases r with
  | zero => unfold oF; rw [inc_00, inc_00, if_pos rfl, if_pos rfl, if_pos rfl, if_pos rfl]; omega
  | succ r =>
    unfold oF
    rw [if_neg (by omega), if_neg (by omega), if_neg (by omega), if_neg (by omega)]
    show rsT N 4 * incZ N d (r + 1) + inS N (incZ N d (r + 1)) (incZ N d r) (pw d) 4 = _
    rw [inS_4]
    show _ = _ + _ * max _ (_ + incZ N d r) + _ * max _ (_ + incZ N d r) + _ * max _ (_ + incZ N d r) + _ * max _ (_ + incZ N d r)
    omega
theorem mul_le0 {a x y : Int} (ha : 0 ≤ a) (h : x ≤ y) : a * x ≤ a * y := Int.mul_le_mul_of_nonneg_left h ha
/-- awaited grows with rooms, each room more is worth no more than the one before -/
theorem inc_cc {N : gN0} (h : oOk N) : ∀ d r : Nat, 0 ≤ incZ N d (r + 1) - incZ N d r ∧ incZ N d (r + 2) - incZ N d (r + 1) ≤ incZ N d (r + 1) - incZ N d r := by
  have h1 := h.1
  have h2 := h.2.1
  have hr4 := rsT_4 N
  intro d
  induction d with
  | zero => intro r; rw [inc_0r, inc_0r, inc_0r]; omega
  | succ d ih =>
    have key : ∀ (r : Nat) (x : Int), 0 ≤ x → 0 ≤ oF N d (r + 1) x - oF N d r x ∧ oF N d (r + 2) x - oF N d (r + 1) x ≤ oF N d (r + 1) x - oF N d r x := by
      intro r x hx
      have a0 := ih r
      have z0 := inc_00 N d
      cases r with
      | zero =>
        unfold oF
        rw [if_neg (by omega), if_pos rfl, if_neg (by omega)]
        have a1 := ih 0
        simp only [Nat.zero_add, Nat.reduceAdd, Nat.reduceSub] at *
        omega
      | succ r =>
        have a1 := ih r
        unfold oF
        rw [if_neg (by omega), if_neg (by omega), if_neg (by omega)]
        simp only [Nat.add_sub_cancel, Nat.add_assoc, Nat.reduceAdd, show r + 3 - 1 = r + 2 by omega, show r + 2 - 1 = r + 1 by omega, show r + 1 - 1 = r by omega] at *
        omega
    have hp : 0 ≤ pw d := by
      have : ∀ n : Nat, 0 ≤ pw n := by
        intro n
        induction n with
        | zero => decide
        | succ n ih => show 0 ≤ pw n * 1000; omega
      exact this d
    have x0 : 0 ≤ N 17 * pw d := Int.mul_nonneg (by omega) hp
    have x1 : 0 ≤ N 18 * pw d := Int.mul_nonneg (by omega) hp
    have x2 : 0 ≤ N 19 * pw d := Int.mul_nonneg (by omega) hp
    have x3 : 0 ≤ N 20 * pw d := Int.mul_nonneg (by omega) hp
    intro r
    have b := ih r
    have k0 := key r _ x0
    have k1 := key r _ x1
    have k2 := key r _ x2
    have k3 := key r _ x3
    rw [inc_F, inc_F, inc_F]
    have hrs : 0 ≤ rsT N 4 := by omega
    have e0 := mul_le0 hrs b.1
    have e1 := mul_le0 (show 0 ≤ N 13 by omega) k0.1
    have e2 := mul_le0 (show 0 ≤ N 14 by omega) k1.1
    have e3 := mul_le0 (show 0 ≤ N 15 by omega) k2.1
    have e4 := mul_le0 (show 0 ≤ N 16 by omega) k3.1
    have f0 := mul_le0 hrs b.2
    have f1 := mul_le0 (show 0 ≤ N 13 by omega) k0.2
    have f2 := mul_le0 (show 0 ≤ N 14 by omega) k1.2
    have f3 := mul_le0 (show 0 ≤ N 15 by omega) k2.2
    have f4 := mul_le0 (show 0 ≤ N 16 by omega) k3.2
    simp only [Int.mul_sub, Int.mul_zero] at e0 e1 e2 e3 e4 f0 f1 f2 f3 f4
    omega
/-- a room's worth grows with the days -/
theorem inc_gr {N : gN0} (h : oOk N) (d r : Nat) : 1000 * (incZ N d (r + 1) - incZ N d r) ≤ incZ N (d + 1) (r + 1) - incZ N (d + 1) r := by
  have h1 := h.1
  have h2 := h.2.1
  have hr4 := rsT_4 N
  have key : ∀ x : Int, incZ N d (r + 1) - incZ N d r ≤ oF N d (r + 1) x - oF N d r x := by
    intro x
    have a0 := inc_cc h d r
    have z0 := inc_00 N d
    cases r with
    | zero =>
      unfold oF
      rw [if_neg (by omega), if_pos rfl]
      simp only [Nat.zero_add, Nat.reduceAdd, Nat.reduceSub] at *
      omega
    | succ r =>
      have a1 := inc_cc h d r
      unfold oF
      rw [if_neg (by omega), if_neg (by omega)]
      simp only [Nat.add_sub_cancel, Nat.add_assoc, Nat.reduceAdd, show r + 2 - 1 = r + 1 by omega, show r + 1 - 1 = r by omega] at *
      omega
  rw [inc_F, inc_F]
  have e1 := mul_le0 (show 0 ≤ N 13 by omega) (key (N 17 * pw d))
  have e2 := mul_le0 (show 0 ≤ N 14 by omega) (key (N 18 * pw d))
  have e3 := mul_le0 (show 0 ≤ N 15 by omega) (key (N 19 * pw d))
  have e4 := mul_le0 (show 0 ≤ N 16 by omega) (key (N 20 * pw d))
  have e0 : rsT N 4 * (incZ N d (r + 1) - incZ N d r) + N 13 * (incZ N d (r + 1) - incZ N d r) + N 14 * (incZ N d (r + 1) - incZ N d r) + N 15 * (incZ N d (r + 1) - incZ N d r) + N 16 * (incZ N d (r + 1) - incZ N d r) = 1000 * (incZ N d (r + 1) - incZ N d r) := by
    rw [← Int.add_mul, ← Int.add_mul, ← Int.add_mul, ← Int.add_mul]
    congr 1; omega
  simp only [Int.mul_sub] at e0 e1 e2 e3 e4 ⊢
  omega
