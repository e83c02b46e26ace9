/-! more sold than rooms: ways counted, odds summed (laid by wip/p47/l24.py) -/
theorem bc_2 : ∀ m : Fin 4, bcF (m.val : Int) = cbB (m.val : Int) 2 := by decide +kernel
theorem bc_3 : ∀ m : Fin 8, bcF (m.val : Int) = cbB (m.val : Int) 3 := by decide +kernel
theorem bc_4 : ∀ m : Fin 16, bcF (m.val : Int) = cbB (m.val : Int) 4 := by decide +kernel
theorem bc_5 : ∀ m : Fin 32, bcF (m.val : Int) = cbB (m.val : Int) 5 := by decide +kernel
theorem bc_6 : ∀ m : Fin 64, bcF (m.val : Int) = cbB (m.val : Int) 6 := by decide +kernel
theorem hs_2 : hsT (fun m => cbB (m : Int) 2) 0 4 = 1 ∧ hsT (fun m => cbB (m : Int) 2) 1 4 = 2 ∧ hsT (fun m => cbB (m : Int) 2) 2 4 = 1 ∧ hsT (fun m => cbB (m : Int) 2) 3 4 = 0 ∧ hsT (fun m => cbB (m : Int) 2) 4 4 = 0 ∧ hsT (fun m => cbB (m : Int) 2) 5 4 = 0 ∧ hsT (fun m => cbB (m : Int) 2) 6 4 = 0 := by decide +kernel
theorem hs_3 : hsT (fun m => cbB (m : Int) 3) 0 8 = 1 ∧ hsT (fun m => cbB (m : Int) 3) 1 8 = 3 ∧ hsT (fun m => cbB (m : Int) 3) 2 8 = 3 ∧ hsT (fun m => cbB (m : Int) 3) 3 8 = 1 ∧ hsT (fun m => cbB (m : Int) 3) 4 8 = 0 ∧ hsT (fun m => cbB (m : Int) 3) 5 8 = 0 ∧ hsT (fun m => cbB (m : Int) 3) 6 8 = 0 := by decide +kernel
theorem hs_4 : hsT (fun m => cbB (m : Int) 4) 0 16 = 1 ∧ hsT (fun m => cbB (m : Int) 4) 1 16 = 4 ∧ hsT (fun m => cbB (m : Int) 4) 2 16 = 6 ∧ hsT (fun m => cbB (m : Int) 4) 3 16 = 4 ∧ hsT (fun m => cbB (m : Int) 4) 4 16 = 1 ∧ hsT (fun m => cbB (m : Int) 4) 5 16 = 0 ∧ hsT (fun m => cbB (m : Int) 4) 6 16 = 0 := by decide +kernel
theorem hs_5 : hsT (fun m => cbB (m : Int) 5) 0 32 = 1 ∧ hsT (fun m => cbB (m : Int) 5) 1 32 = 5 ∧ hsT (fun m => cbB (m : Int) 5) 2 32 = 10 ∧ hsT (fun m => cbB (m : Int) 5) 3 32 = 10 ∧ hsT (fun m => cbB (m : Int) 5) 4 32 = 5 ∧ hsT (fun m => cbB (m : Int) 5) 5 32 = 1 ∧ hsT (fun m => cbB (m : Int) 5) 6 32 = 0 := by decide +kernel
theorem hs_6 : hsT (fun m => cbB (m : Int) 6) 0 64 = 1 ∧ hsT (fun m => cbB (m : Int) 6) 1 64 = 6 ∧ hsT (fun m => cbB (m : Int) 6) 2 64 = 15 ∧ hsT (fun m => cbB (m : Int) 6) 3 64 = 20 ∧ hsT (fun m => cbB (m : Int) 6) 4 64 = 15 ∧ hsT (fun m => cbB (m : Int) 6) 5 64 = 6 ∧ hsT (fun m => cbB (m : Int) 6) 6 64 = 1 := by decide +kernel
theorem out_11 (a : Int) : smT (10 * a) 2 1 1 = 100 * sBT a (100 - a) 2 1 4 := by
  obtain ⟨h0, h1, h2, h3, h4, h5, h6⟩ := hs_2
  rw [sBT_h a (100 - a) (al := 2) (r := 1) (by decide) 4 (fun m hm => bc_2 ⟨m, hm⟩), h0, h1, h2, h3, h4, h5, h6]
  have e : smT (10 * a) 2 1 1 = 0 + bnT (10 * a) 2 (1 + 1 + ((0 : Nat) : Int)) := rfl
  have hA : bnT (10 * a) 2 2 = pwZ (10 * a) 2 := bn_A (10 * a) 2
  have i0 : (1 : Int) + 1 + ((0 : Nat) : Int) = 2 := rfl
  rw [e, i0]
  unfold hvT
  simp [pwZ] at hA ⊢
  grind
theorem out_12 (a : Int) : smT (10 * a) 3 1 2 = 1000 * sBT a (100 - a) 3 1 8 := by
  obtain ⟨h0, h1, h2, h3, h4, h5, h6⟩ := hs_3
  rw [sBT_h a (100 - a) (al := 3) (r := 1) (by decide) 8 (fun m hm => bc_3 ⟨m, hm⟩), h0, h1, h2, h3, h4, h5, h6]
  have e : smT (10 * a) 3 1 2 = 0 + bnT (10 * a) 3 (1 + 1 + ((0 : Nat) : Int)) + bnT (10 * a) 3 (1 + 1 + ((1 : Nat) : Int)) := rfl
  have hA : bnT (10 * a) 3 3 = pwZ (10 * a) 3 := bn_A (10 * a) 3
  have hB : bnT (10 * a) 3 2 = ((2 : Nat) + 1) * (pwZ (10 * a) 2 * (1000 - 10 * a)) := bn_B (10 * a) 2
  have i0 : (1 : Int) + 1 + ((0 : Nat) : Int) = 2 := rfl
  have i1 : (1 : Int) + 1 + ((1 : Nat) : Int) = 3 := rfl
  rw [e, i0, i1]
  unfold hvT
  simp [pwZ] at hA ⊢
  simp [pwZ] at hB
  grind
theorem out_13 (a : Int) : smT (10 * a) 4 1 3 = 10000 * sBT a (100 - a) 4 1 16 := by
  obtain ⟨h0, h1, h2, h3, h4, h5, h6⟩ := hs_4
  rw [sBT_h a (100 - a) (al := 4) (r := 1) (by decide) 16 (fun m hm => bc_4 ⟨m, hm⟩), h0, h1, h2, h3, h4, h5, h6]
  have e : smT (10 * a) 4 1 3 = 0 + bnT (10 * a) 4 (1 + 1 + ((0 : Nat) : Int)) + bnT (10 * a) 4 (1 + 1 + ((1 : Nat) : Int)) + bnT (10 * a) 4 (1 + 1 + ((2 : Nat) : Int)) := rfl
  have hA : bnT (10 * a) 4 4 = pwZ (10 * a) 4 := bn_A (10 * a) 4
  have hB : bnT (10 * a) 4 3 = ((3 : Nat) + 1) * (pwZ (10 * a) 3 * (1000 - 10 * a)) := bn_B (10 * a) 3
  have hC : 2 * bnT (10 * a) 4 2 = ((2 : Nat) + 2) * ((2 : Nat) + 1) * (pwZ (10 * a) 2 * ((1000 - 10 * a) * (1000 - 10 * a))) := bn_C (10 * a) 2
  have i0 : (1 : Int) + 1 + ((0 : Nat) : Int) = 2 := rfl
  have i1 : (1 : Int) + 1 + ((1 : Nat) : Int) = 3 := rfl
  have i2 : (1 : Int) + 1 + ((2 : Nat) : Int) = 4 := rfl
  rw [e, i0, i1, i2]
  unfold hvT
  simp [pwZ] at hA ⊢
  simp [pwZ] at hB
  simp [pwZ] at hC
  grind
theorem out_31 (a : Int) : smT (10 * a) 4 3 1 = 10000 * sBT a (100 - a) 4 3 16 := by
  obtain ⟨h0, h1, h2, h3, h4, h5, h6⟩ := hs_4
  rw [sBT_h a (100 - a) (al := 4) (r := 3) (by decide) 16 (fun m hm => bc_4 ⟨m, hm⟩), h0, h1, h2, h3, h4, h5, h6]
  have e : smT (10 * a) 4 3 1 = 0 + bnT (10 * a) 4 (3 + 1 + ((0 : Nat) : Int)) := rfl
  have hA : bnT (10 * a) 4 4 = pwZ (10 * a) 4 := bn_A (10 * a) 4
  have i0 : (3 : Int) + 1 + ((0 : Nat) : Int) = 4 := rfl
  rw [e, i0]
  unfold hvT
  simp [pwZ] at hA ⊢
  grind
theorem out_32 (a : Int) : smT (10 * a) 5 3 2 = 100000 * sBT a (100 - a) 5 3 32 := by
  obtain ⟨h0, h1, h2, h3, h4, h5, h6⟩ := hs_5
  rw [sBT_h a (100 - a) (al := 5) (r := 3) (by decide) 32 (fun m hm => bc_5 ⟨m, hm⟩), h0, h1, h2, h3, h4, h5, h6]
  have e : smT (10 * a) 5 3 2 = 0 + bnT (10 * a) 5 (3 + 1 + ((0 : Nat) : Int)) + bnT (10 * a) 5 (3 + 1 + ((1 : Nat) : Int)) := rfl
  have hA : bnT (10 * a) 5 5 = pwZ (10 * a) 5 := bn_A (10 * a) 5
  have hB : bnT (10 * a) 5 4 = ((4 : Nat) + 1) * (pwZ (10 * a) 4 * (1000 - 10 * a)) := bn_B (10 * a) 4
  have i0 : (3 : Int) + 1 + ((0 : Nat) : Int) = 4 := rfl
  have i1 : (3 : Int) + 1 + ((1 : Nat) : Int) = 5 := rfl
  rw [e, i0, i1]
  unfold hvT
  simp [pwZ] at hA ⊢
  simp [pwZ] at hB
  grind
theorem out_33 (a : Int) : smT (10 * a) 6 3 3 = 1000000 * sBT a (100 - a) 6 3 64 := by
  obtain ⟨h0, h1, h2, h3, h4, h5, h6⟩ := hs_6
  rw [sBT_h a (100 - a) (al := 6) (r := 3) (by decide) 64 (fun m hm => bc_6 ⟨m, hm⟩), h0, h1, h2, h3, h4, h5, h6]
  have e : smT (10 * a) 6 3 3 = 0 + bnT (10 * a) 6 (3 + 1 + ((0 : Nat) : Int)) + bnT (10 * a) 6 (3 + 1 + ((1 : Nat) : Int)) + bnT (10 * a) 6 (3 + 1 + ((2 : Nat) : Int)) := rfl
  have hA : bnT (10 * a) 6 6 = pwZ (10 * a) 6 := bn_A (10 * a) 6
  have hB : bnT (10 * a) 6 5 = ((5 : Nat) + 1) * (pwZ (10 * a) 5 * (1000 - 10 * a)) := bn_B (10 * a) 5
  have hC : 2 * bnT (10 * a) 6 4 = ((4 : Nat) + 2) * ((4 : Nat) + 1) * (pwZ (10 * a) 4 * ((1000 - 10 * a) * (1000 - 10 * a))) := bn_C (10 * a) 4
  have i0 : (3 : Int) + 1 + ((0 : Nat) : Int) = 4 := rfl
  have i1 : (3 : Int) + 1 + ((1 : Nat) : Int) = 5 := rfl
  have i2 : (3 : Int) + 1 + ((2 : Nat) : Int) = 6 := rfl
  rw [e, i0, i1, i2]
  unfold hvT
  simp [pwZ] at hA ⊢
  simp [pwZ] at hB
  simp [pwZ] at hC
  grind
/-- the same bound by exact odds -/
theorem risk_eq {a q : Int} {r m : Nat} (h : (r = 1 ∨ r = 3) ∧ 1 ≤ m ∧ m ≤ 3) (ha : 0 ≤ a ∧ a ≤ 100) : (smT (10 * a) (r + m) r m ≤ q * pw (r + m - 1) ↔ sBT a (100 - a) (r + m) r (2 ^ (r + m)) * 1000 ≤ q * pwZ 100 (r + m)) ∧ 0 ≤ sBT a (100 - a) (r + m) r (2 ^ (r + m)) ∧ sBT a (100 - a) (r + m) r (2 ^ (r + m)) ≤ 3000000000000 := by
  have hs := smT_in (p := 10 * a) (by omega) (by omega) (r + m) r m
  rcases (by omega : (r = 1 ∧ m = 1) ∨ (r = 1 ∧ m = 2) ∨ (r = 1 ∧ m = 3) ∨ (r = 3 ∧ m = 1) ∨ (r = 3 ∧ m = 2) ∨ (r = 3 ∧ m = 3)) with ⟨h1, h2⟩ | ⟨h1, h2⟩ | ⟨h1, h2⟩ | ⟨h1, h2⟩ | ⟨h1, h2⟩ | ⟨h1, h2⟩ <;> subst h1 <;> subst h2
  · have e := out_11 a
    have p1 : pw (1 + 1 - 1) = 1000 := rfl
    have p2 : pwZ 100 (1 + 1) = 10000 := rfl
    have p3 : pw (1 + 1) = 1000000 := rfl
    rw [p3] at hs
    rw [p1, p2]
    simp only [Nat.reduceAdd, Nat.reducePow] at *
    generalize sBT a (100 - a) 2 _ 4 = x at *
    show (smT (10 * a) 2 1 1 ≤ _ ↔ _) ∧ _
    have hs' : 0 ≤ smT (10 * a) 2 1 1 ∧ smT (10 * a) 2 1 1 ≤ 1 * 1000000 := hs
    generalize smT (10 * a) 2 1 1 = y at *
    omega
  · have e := out_12 a
    have p1 : pw (1 + 2 - 1) = 1000000 := rfl
    have p2 : pwZ 100 (1 + 2) = 1000000 := rfl
    have p3 : pw (1 + 2) = 1000000000 := rfl
    rw [p3] at hs
    rw [p1, p2]
    simp only [Nat.reduceAdd, Nat.reducePow] at *
    generalize sBT a (100 - a) 3 _ 8 = x at *
    show (smT (10 * a) 3 1 2 ≤ _ ↔ _) ∧ _
    have hs' : 0 ≤ smT (10 * a) 3 1 2 ∧ smT (10 * a) 3 1 2 ≤ 2 * 1000000000 := hs
    generalize smT (10 * a) 3 1 2 = y at *
    omega
  · have e := out_13 a
    have p1 : pw (1 + 3 - 1) = 1000000000 := rfl
    have p2 : pwZ 100 (1 + 3) = 100000000 := rfl
    have p3 : pw (1 + 3) = 1000000000000 := rfl
    rw [p3] at hs
    rw [p1, p2]
    simp only [Nat.reduceAdd, Nat.reducePow] at *
    generalize sBT a (100 - a) 4 _ 16 = x at *
    show (smT (10 * a) 4 1 3 ≤ _ ↔ _) ∧ _
    have hs' : 0 ≤ smT (10 * a) 4 1 3 ∧ smT (10 * a) 4 1 3 ≤ 3 * 1000000000000 := hs
    generalize smT (10 * a) 4 1 3 = y at *
    omega
  · have e := out_31 a
    have p1 : pw (3 + 1 - 1) = 1000000000 := rfl
    have p2 : pwZ 100 (3 + 1) = 100000000 := rfl
    have p3 : pw (3 + 1) = 1000000000000 := rfl
    rw [p3] at hs
    rw [p1, p2]
    simp only [Nat.reduceAdd, Nat.reducePow] at *
    generalize sBT a (100 - a) 4 _ 16 = x at *
    show (smT (10 * a) 4 3 1 ≤ _ ↔ _) ∧ _
    have hs' : 0 ≤ smT (10 * a) 4 3 1 ∧ smT (10 * a) 4 3 1 ≤ 1 * 1000000000000 := hs
    generalize smT (10 * a) 4 3 1 = y at *
    omega
  · have e := out_32 a
    have p1 : pw (3 + 2 - 1) = 1000000000000 := rfl
    have p2 : pwZ 100 (3 + 2) = 10000000000 := rfl
    have p3 : pw (3 + 2) = 1000000000000000 := rfl
    rw [p3] at hs
    rw [p1, p2]
    simp only [Nat.reduceAdd, Nat.reducePow] at *
    generalize sBT a (100 - a) 5 _ 32 = x at *
    show (smT (10 * a) 5 3 2 ≤ _ ↔ _) ∧ _
    have hs' : 0 ≤ smT (10 * a) 5 3 2 ∧ smT (10 * a) 5 3 2 ≤ 2 * 1000000000000000 := hs
    generalize smT (10 * a) 5 3 2 = y at *
    omega
  · have e := out_33 a
    have p1 : pw (3 + 3 - 1) = 1000000000000000 := rfl
    have p2 : pwZ 100 (3 + 3) = 1000000000000 := rfl
    have p3 : pw (3 + 3) = 1000000000000000000 := rfl
    rw [p3] at hs
    rw [p1, p2]
    simp only [Nat.reduceAdd, Nat.reducePow] at *
    generalize sBT a (100 - a) 6 _ 64 = x at *
    show (smT (10 * a) 6 3 3 ≤ _ ↔ _) ∧ _
    have hs' : 0 ≤ smT (10 * a) 6 3 3 ∧ smT (10 * a) 6 3 3 ≤ 3 * 1000000000000000000 := hs
    generalize smT (10 * a) 6 3 3 = y at *
    omega
