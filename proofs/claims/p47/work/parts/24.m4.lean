/-! the reference: stays made, those who wait (rows laid by wip/whole/m4.py) -/
theorem wrN_wr (V : gV) (b : Int) (N N' : gN0) : wrN (wrN V b N) b N' = wrN V b N' := by funext a; unfold wrN; split <;> rfl
theorem upN_ne {N : gN0} {i j x : Int} (h : i ≠ j) : upN N j x i = N i := if_neg h
theorem upN_eq (N : gN0) (j x : Int) : upN N j x j = x := if_pos rfl
theorem mkP_lo (N : gN0) (k first n : Int) {j : Int} (h5 : 0 ≤ N 5) (hj : j < 56) : mkP N k first n j = N j := by unfold mkP; rw [if_neg (by omega)]
theorem InvC_mkP {N : gN0} {k first n : Int} (hI : InvC N) (h5 : N 5 < 60) (hn : n ≤ 14) : InvC (mkP N k first n) := InvC_ag (mkP_ag N k first h5 hn) hI

/-- those who wait, from one on: the state behind, how many got a stay -/
def lkS : Nat → gN0 → Int → Int → gN0 × Int
  | 0, N, _, m => (N, m)
  | q + 1, N, a, m => if a < N 7 then
      if N (1496 + a * 5 + 1) < N 0 then lkS q (shG N (1496 + a * 5)) a m
      else if N 5 < 60 ∧ rfd N (N (1496 + a * 5)) (N (1496 + a * 5 + 1)) (N (1496 + a * 5 + 2)) = -1 then
        lkS q (shG (mkN N (N (1496 + a * 5)) (N (1496 + a * 5 + 1)) (N (1496 + a * 5 + 2)) (N (1496 + a * 5 + 3)) (N (1496 + a * 5 + 4)) (N (1496 + a * 5 + 1)) (-1)) (1496 + a * 5)) a (m + 1)
      else lkS q N (a + 1) m
    else (N, m)
def lk (N : gN0) : gN0 × Int := lkS (N 7).toNat N 0 0
/-- some of those behind have moved up -/
def shP (N : gN0) (g k : Int) : gN0 := fun j => if j = 7 then N 7 - 1 else if g ≤ j ∧ j < k then N (j + 5) else N j
theorem shP_0 {N : gN0} {g : Int} : upN N 7 (N 7 - 1) = shP N g g := by
  funext j
  unfold upN shP
  split
  · rfl
  · rw [if_neg (by omega)]
theorem shP_next {N : gN0} {g k : Int} (h0 : 8 ≤ g) (h : g ≤ k) : upN (shP N g k) k (shP N g k (k + 5)) = shP N g (k + 1) := by
  funext j
  unfold upN shP
  by_cases h1 : j = k
  · subst h1
    rw [if_pos rfl, if_neg (by omega), if_neg (by omega), if_neg (by omega), if_pos (by omega)]
  · rw [if_neg h1]
    split
    · rfl
    · by_cases h2 : g ≤ j ∧ j < k
      · rw [if_pos h2, if_pos (by omega)]
      · rw [if_neg h2, if_neg (by omega)]
theorem shP_7 (N : gN0) (g k : Int) : shP N g k 7 = N 7 - 1 := by unfold shP; rw [if_pos rfl]
theorem shP_g {N : gN0} {g k : Int} (h : k = 1496 + (N 7 - 1) * 5) : shP N g k = shG N g := by subst h; rfl

