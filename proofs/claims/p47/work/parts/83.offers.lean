/-! the offers: chosen one by one, or sorted (laid by wip/whole/gen83.py) -/
theorem ub_0_0 : ubT 0 0 = 0 := by decide
theorem uo_0_0 : uoT 0 0 = 1 := by decide
theorem ub_0_1 : ubT 0 1 = 0 := by decide
theorem uo_0_1 : uoT 0 1 = 2 := by decide
theorem ub_0_2 : ubT 0 2 = 0 := by decide
theorem uo_0_2 : uoT 0 2 = 4 := by decide
theorem ub_0_3 : ubT 0 3 = 0 := by decide
theorem uo_0_3 : uoT 0 3 = 8 := by decide
theorem ub_1_0 : ubT 1 0 = 1 := by decide
theorem ub_1_1 : ubT 1 1 = 0 := by decide
theorem uo_1_1 : uoT 1 1 = 3 := by decide
theorem ub_1_2 : ubT 1 2 = 0 := by decide
theorem uo_1_2 : uoT 1 2 = 5 := by decide
theorem ub_1_3 : ubT 1 3 = 0 := by decide
theorem uo_1_3 : uoT 1 3 = 9 := by decide
theorem ub_2_0 : ubT 2 0 = 0 := by decide
theorem uo_2_0 : uoT 2 0 = 3 := by decide
theorem ub_2_1 : ubT 2 1 = 1 := by decide
theorem ub_2_2 : ubT 2 2 = 0 := by decide
theorem uo_2_2 : uoT 2 2 = 6 := by decide
theorem ub_2_3 : ubT 2 3 = 0 := by decide
theorem uo_2_3 : uoT 2 3 = 10 := by decide
theorem ub_3_0 : ubT 3 0 = 1 := by decide
theorem ub_3_1 : ubT 3 1 = 1 := by decide
theorem ub_3_2 : ubT 3 2 = 0 := by decide
theorem uo_3_2 : uoT 3 2 = 7 := by decide
theorem ub_3_3 : ubT 3 3 = 0 := by decide
theorem uo_3_3 : uoT 3 3 = 11 := by decide
theorem ub_4_0 : ubT 4 0 = 0 := by decide
theorem uo_4_0 : uoT 4 0 = 5 := by decide
theorem ub_4_1 : ubT 4 1 = 0 := by decide
theorem uo_4_1 : uoT 4 1 = 6 := by decide
theorem ub_4_2 : ubT 4 2 = 1 := by decide
theorem ub_4_3 : ubT 4 3 = 0 := by decide
theorem uo_4_3 : uoT 4 3 = 12 := by decide
theorem ub_5_0 : ubT 5 0 = 1 := by decide
theorem ub_5_1 : ubT 5 1 = 0 := by decide
theorem uo_5_1 : uoT 5 1 = 7 := by decide
theorem ub_5_2 : ubT 5 2 = 1 := by decide
theorem ub_5_3 : ubT 5 3 = 0 := by decide
theorem uo_5_3 : uoT 5 3 = 13 := by decide
theorem ub_6_0 : ubT 6 0 = 0 := by decide
theorem uo_6_0 : uoT 6 0 = 7 := by decide
theorem ub_6_1 : ubT 6 1 = 1 := by decide
theorem ub_6_2 : ubT 6 2 = 1 := by decide
theorem ub_6_3 : ubT 6 3 = 0 := by decide
theorem uo_6_3 : uoT 6 3 = 14 := by decide
theorem ub_7_0 : ubT 7 0 = 1 := by decide
theorem ub_7_1 : ubT 7 1 = 1 := by decide
theorem ub_7_2 : ubT 7 2 = 1 := by decide
theorem ub_7_3 : ubT 7 3 = 0 := by decide
theorem uo_7_3 : uoT 7 3 = 15 := by decide
theorem ub_8_0 : ubT 8 0 = 0 := by decide
theorem uo_8_0 : uoT 8 0 = 9 := by decide
theorem ub_8_1 : ubT 8 1 = 0 := by decide
theorem uo_8_1 : uoT 8 1 = 10 := by decide
theorem ub_8_2 : ubT 8 2 = 0 := by decide
theorem uo_8_2 : uoT 8 2 = 12 := by decide
theorem ub_8_3 : ubT 8 3 = 1 := by decide
theorem ub_9_0 : ubT 9 0 = 1 := by decide
theorem ub_9_1 : ubT 9 1 = 0 := by decide
theorem uo_9_1 : uoT 9 1 = 11 := by decide
theorem ub_9_2 : ubT 9 2 = 0 := by decide
theorem uo_9_2 : uoT 9 2 = 13 := by decide
theorem ub_9_3 : ubT 9 3 = 1 := by decide
theorem ub_10_0 : ubT 10 0 = 0 := by decide
theorem uo_10_0 : uoT 10 0 = 11 := by decide
theorem ub_10_1 : ubT 10 1 = 1 := by decide
theorem ub_10_2 : ubT 10 2 = 0 := by decide
theorem uo_10_2 : uoT 10 2 = 14 := by decide
theorem ub_10_3 : ubT 10 3 = 1 := by decide
theorem ub_11_0 : ubT 11 0 = 1 := by decide
theorem ub_11_1 : ubT 11 1 = 1 := by decide
theorem ub_11_2 : ubT 11 2 = 0 := by decide
theorem uo_11_2 : uoT 11 2 = 15 := by decide
theorem ub_11_3 : ubT 11 3 = 1 := by decide
theorem ub_12_0 : ubT 12 0 = 0 := by decide
theorem uo_12_0 : uoT 12 0 = 13 := by decide
theorem ub_12_1 : ubT 12 1 = 0 := by decide
theorem uo_12_1 : uoT 12 1 = 14 := by decide
theorem ub_12_2 : ubT 12 2 = 1 := by decide
theorem ub_12_3 : ubT 12 3 = 1 := by decide
theorem ub_13_0 : ubT 13 0 = 1 := by decide
theorem ub_13_1 : ubT 13 1 = 0 := by decide
theorem uo_13_1 : uoT 13 1 = 15 := by decide
theorem ub_13_2 : ubT 13 2 = 1 := by decide
theorem ub_13_3 : ubT 13 3 = 1 := by decide
theorem ub_14_0 : ubT 14 0 = 0 := by decide
theorem uo_14_0 : uoT 14 0 = 15 := by decide
theorem ub_14_1 : ubT 14 1 = 1 := by decide
theorem ub_14_2 : ubT 14 2 = 1 := by decide
theorem ub_14_3 : ubT 14 3 = 1 := by decide
theorem ub_15_0 : ubT 15 0 = 1 := by decide
theorem ub_15_1 : ubT 15 1 = 1 := by decide
theorem ub_15_2 : ubT 15 2 = 1 := by decide
theorem ub_15_3 : ubT 15 3 = 1 := by decide
theorem sb_0 {N : gN0} (h : N 26 = 0) (n : Nat) (hn : n ≤ 0) : (seT N n).1 = bsT N n := by
  have hm : (N 26).toNat = 0 := by omega
  have e : n = 0 := by omega
  rcases e with rfl <;> simp [seT, bsT, beT, soT, isT, isP, hm, ub_0_0, ub_0_1, ub_0_2, ub_0_3, ub_1_0, ub_1_1, ub_1_2, ub_1_3, ub_2_0, ub_2_1, ub_2_2, ub_2_3, ub_3_0, ub_3_1, ub_3_2, ub_3_3, ub_4_0, ub_4_1, ub_4_2, ub_4_3, ub_5_0, ub_5_1, ub_5_2, ub_5_3, ub_6_0, ub_6_1, ub_6_2, ub_6_3, ub_7_0, ub_7_1, ub_7_2, ub_7_3, ub_8_0, ub_8_1, ub_8_2, ub_8_3, ub_9_0, ub_9_1, ub_9_2, ub_9_3, ub_10_0, ub_10_1, ub_10_2, ub_10_3, ub_11_0, ub_11_1, ub_11_2, ub_11_3, ub_12_0, ub_12_1, ub_12_2, ub_12_3, ub_13_0, ub_13_1, ub_13_2, ub_13_3, ub_14_0, ub_14_1, ub_14_2, ub_14_3, ub_15_0, ub_15_1, ub_15_2, ub_15_3, uo_0_0, uo_0_1, uo_0_2, uo_0_3, uo_1_1, uo_1_2, uo_1_3, uo_2_0, uo_2_2, uo_2_3, uo_3_2, uo_3_3, uo_4_0, uo_4_1, uo_4_3, uo_5_1, uo_5_3, uo_6_0, uo_6_3, uo_7_3, uo_8_0, uo_8_1, uo_8_2, uo_9_1, uo_9_2, uo_10_0, uo_10_2, uo_11_2, uo_12_0, uo_12_1, uo_13_1, uo_14_0]
theorem sb_1 {N : gN0} (h : N 26 = 1) (n : Nat) (hn : n ≤ 1) : (seT N n).1 = bsT N n := by
  have hm : (N 26).toNat = 1 := by omega
  have e : n = 0 ∨ n = 1 := by omega
  rcases e with rfl | rfl <;> simp [seT, bsT, beT, soT, isT, isP, hm, ub_0_0, ub_0_1, ub_0_2, ub_0_3, ub_1_0, ub_1_1, ub_1_2, ub_1_3, ub_2_0, ub_2_1, ub_2_2, ub_2_3, ub_3_0, ub_3_1, ub_3_2, ub_3_3, ub_4_0, ub_4_1, ub_4_2, ub_4_3, ub_5_0, ub_5_1, ub_5_2, ub_5_3, ub_6_0, ub_6_1, ub_6_2, ub_6_3, ub_7_0, ub_7_1, ub_7_2, ub_7_3, ub_8_0, ub_8_1, ub_8_2, ub_8_3, ub_9_0, ub_9_1, ub_9_2, ub_9_3, ub_10_0, ub_10_1, ub_10_2, ub_10_3, ub_11_0, ub_11_1, ub_11_2, ub_11_3, ub_12_0, ub_12_1, ub_12_2, ub_12_3, ub_13_0, ub_13_1, ub_13_2, ub_13_3, ub_14_0, ub_14_1, ub_14_2, ub_14_3, ub_15_0, ub_15_1, ub_15_2, ub_15_3, uo_0_0, uo_0_1, uo_0_2, uo_0_3, uo_1_1, uo_1_2, uo_1_3, uo_2_0, uo_2_2, uo_2_3, uo_3_2, uo_3_3, uo_4_0, uo_4_1, uo_4_3, uo_5_1, uo_5_3, uo_6_0, uo_6_3, uo_7_3, uo_8_0, uo_8_1, uo_8_2, uo_9_1, uo_9_2, uo_10_0, uo_10_2, uo_11_2, uo_12_0, uo_12_1, uo_13_1, uo_14_0]
theorem sb_2 {N : gN0} (h : N 26 = 2) (n : Nat) (hn : n ≤ 2) : (seT N n).1 = bsT N n := by
  have hm : (N 26).toNat = 2 := by omega
  have e : n = 0 ∨ n = 1 ∨ n = 2 := by omega
  have c01 : N 27 < N 28 ∨ ¬ N 27 < N 28 := Classical.em _
  rcases c01 with c01 | c01 <;> first | (exfalso; omega) | (
    rcases e with rfl | rfl | rfl <;> simp [seT, bsT, beT, soT, isT, isP, hm, c01, ub_0_0, ub_0_1, ub_0_2, ub_0_3, ub_1_0, ub_1_1, ub_1_2, ub_1_3, ub_2_0, ub_2_1, ub_2_2, ub_2_3, ub_3_0, ub_3_1, ub_3_2, ub_3_3, ub_4_0, ub_4_1, ub_4_2, ub_4_3, ub_5_0, ub_5_1, ub_5_2, ub_5_3, ub_6_0, ub_6_1, ub_6_2, ub_6_3, ub_7_0, ub_7_1, ub_7_2, ub_7_3, ub_8_0, ub_8_1, ub_8_2, ub_8_3, ub_9_0, ub_9_1, ub_9_2, ub_9_3, ub_10_0, ub_10_1, ub_10_2, ub_10_3, ub_11_0, ub_11_1, ub_11_2, ub_11_3, ub_12_0, ub_12_1, ub_12_2, ub_12_3, ub_13_0, ub_13_1, ub_13_2, ub_13_3, ub_14_0, ub_14_1, ub_14_2, ub_14_3, ub_15_0, ub_15_1, ub_15_2, ub_15_3, uo_0_0, uo_0_1, uo_0_2, uo_0_3, uo_1_1, uo_1_2, uo_1_3, uo_2_0, uo_2_2, uo_2_3, uo_3_2, uo_3_3, uo_4_0, uo_4_1, uo_4_3, uo_5_1, uo_5_3, uo_6_0, uo_6_3, uo_7_3, uo_8_0, uo_8_1, uo_8_2, uo_9_1, uo_9_2, uo_10_0, uo_10_2, uo_11_2, uo_12_0, uo_12_1, uo_13_1, uo_14_0] <;> omega)
theorem sb_3 {N : gN0} (h : N 26 = 3) (n : Nat) (hn : n ≤ 3) : (seT N n).1 = bsT N n := by
  have hm : (N 26).toNat = 3 := by omega
  have e : n = 0 ∨ n = 1 ∨ n = 2 ∨ n = 3 := by omega
  have c01 : N 27 < N 28 ∨ ¬ N 27 < N 28 := Classical.em _
  have c02 : N 27 < N 29 ∨ ¬ N 27 < N 29 := Classical.em _
  have c12 : N 28 < N 29 ∨ ¬ N 28 < N 29 := Classical.em _
  rcases c01 with c01 | c01 <;> rcases c02 with c02 | c02 <;> rcases c12 with c12 | c12 <;> first | (exfalso; omega) | (
    rcases e with rfl | rfl | rfl | rfl <;> simp [seT, bsT, beT, soT, isT, isP, hm, c01, c02, c12, ub_0_0, ub_0_1, ub_0_2, ub_0_3, ub_1_0, ub_1_1, ub_1_2, ub_1_3, ub_2_0, ub_2_1, ub_2_2, ub_2_3, ub_3_0, ub_3_1, ub_3_2, ub_3_3, ub_4_0, ub_4_1, ub_4_2, ub_4_3, ub_5_0, ub_5_1, ub_5_2, ub_5_3, ub_6_0, ub_6_1, ub_6_2, ub_6_3, ub_7_0, ub_7_1, ub_7_2, ub_7_3, ub_8_0, ub_8_1, ub_8_2, ub_8_3, ub_9_0, ub_9_1, ub_9_2, ub_9_3, ub_10_0, ub_10_1, ub_10_2, ub_10_3, ub_11_0, ub_11_1, ub_11_2, ub_11_3, ub_12_0, ub_12_1, ub_12_2, ub_12_3, ub_13_0, ub_13_1, ub_13_2, ub_13_3, ub_14_0, ub_14_1, ub_14_2, ub_14_3, ub_15_0, ub_15_1, ub_15_2, ub_15_3, uo_0_0, uo_0_1, uo_0_2, uo_0_3, uo_1_1, uo_1_2, uo_1_3, uo_2_0, uo_2_2, uo_2_3, uo_3_2, uo_3_3, uo_4_0, uo_4_1, uo_4_3, uo_5_1, uo_5_3, uo_6_0, uo_6_3, uo_7_3, uo_8_0, uo_8_1, uo_8_2, uo_9_1, uo_9_2, uo_10_0, uo_10_2, uo_11_2, uo_12_0, uo_12_1, uo_13_1, uo_14_0] <;> omega)
theorem sb_4 {N : gN0} (h : N 26 = 4) (n : Nat) (hn : n ≤ 4) : (seT N n).1 = bsT N n := by
  have hm : (N 26).toNat = 4 := by omega
  have e : n = 0 ∨ n = 1 ∨ n = 2 ∨ n = 3 ∨ n = 4 := by omega
  have c01 : N 27 < N 28 ∨ ¬ N 27 < N 28 := Classical.em _
  have c02 : N 27 < N 29 ∨ ¬ N 27 < N 29 := Classical.em _
  have c12 : N 28 < N 29 ∨ ¬ N 28 < N 29 := Classical.em _
  have c03 : N 27 < N 30 ∨ ¬ N 27 < N 30 := Classical.em _
  have c13 : N 28 < N 30 ∨ ¬ N 28 < N 30 := Classical.em _
  have c23 : N 29 < N 30 ∨ ¬ N 29 < N 30 := Classical.em _
  rcases c01 with c01 | c01 <;> rcases c02 with c02 | c02 <;> rcases c12 with c12 | c12 <;> rcases c03 with c03 | c03 <;> rcases c13 with c13 | c13 <;> rcases c23 with c23 | c23 <;> first | (exfalso; omega) | (
    rcases e with rfl | rfl | rfl | rfl | rfl <;> simp [seT, bsT, beT, soT, isT, isP, hm, c01, c02, c12, c03, c13, c23, ub_0_0, ub_0_1, ub_0_2, ub_0_3, ub_1_0, ub_1_1, ub_1_2, ub_1_3, ub_2_0, ub_2_1, ub_2_2, ub_2_3, ub_3_0, ub_3_1, ub_3_2, ub_3_3, ub_4_0, ub_4_1, ub_4_2, ub_4_3, ub_5_0, ub_5_1, ub_5_2, ub_5_3, ub_6_0, ub_6_1, ub_6_2, ub_6_3, ub_7_0, ub_7_1, ub_7_2, ub_7_3, ub_8_0, ub_8_1, ub_8_2, ub_8_3, ub_9_0, ub_9_1, ub_9_2, ub_9_3, ub_10_0, ub_10_1, ub_10_2, ub_10_3, ub_11_0, ub_11_1, ub_11_2, ub_11_3, ub_12_0, ub_12_1, ub_12_2, ub_12_3, ub_13_0, ub_13_1, ub_13_2, ub_13_3, ub_14_0, ub_14_1, ub_14_2, ub_14_3, ub_15_0, ub_15_1, ub_15_2, ub_15_3, uo_0_0, uo_0_1, uo_0_2, uo_0_3, uo_1_1, uo_1_2, uo_1_3, uo_2_0, uo_2_2, uo_2_3, uo_3_2, uo_3_3, uo_4_0, uo_4_1, uo_4_3, uo_5_1, uo_5_3, uo_6_0, uo_6_3, uo_7_3, uo_8_0, uo_8_1, uo_8_2, uo_9_1, uo_9_2, uo_10_0, uo_10_2, uo_11_2, uo_12_0, uo_12_1, uo_13_1, uo_14_0] <;> omega)

