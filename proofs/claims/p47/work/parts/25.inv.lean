/-! what stays: the books, the sale; those who wait leave it -/
def phi (st : Int) : Int := if st = 0 then 0 else if st = 1 then 2016000 else if st = 4 then 12200000 else 4032000
def phT (N : gN0) : Nat → Int
  | 0 => 0
  | n + 1 => phT N n + phi (sF N n 0)
def Phi (N : gN0) : Int := phT N (N 5).toNat
theorem phi_in (st : Int) : 0 ≤ phi st ∧ phi st ≤ 12200000 := by unfold phi; (repeat' split) <;> omega
theorem phT_in (N : gN0) : ∀ n : Nat, 0 ≤ phT N n ∧ phT N n ≤ 12200000 * n := by
  intro n
  induction n with
  | zero => exact ⟨Int.le_refl _, Int.le_refl _⟩
  | succ n ih =>
    have := phi_in (sF N n 0)
    unfold phT
    omega
theorem phT_eq {N N' : gN0} : ∀ n : Nat, (∀ s : Int, 0 ≤ s → s < n → sF N' s 0 = sF N s 0) → phT N' n = phT N n := by
  intro n
  induction n with
  | zero => intro _; rfl
  | succ n ih =>
    intro h
    unfold phT
    rw [ih (fun s a b => h s a (by omega)), h n (by omega) (by omega)]
/-- one stay's state is another -/
theorem phT_up {N : gN0} {s st : Int} (h0 : 0 ≤ s) : ∀ n : Nat, phT (upN N (56 + s * 24 + 0) st) n = phT N n + (if s < n then phi st - phi (sF N s 0) else 0) := by
  intro n
  induction n with
  | zero => rw [if_neg (by omega)]; rfl
  | succ n ih =>
    unfold phT
    rw [ih]
    have e : sF (upN N (56 + s * 24 + 0) st) n 0 = if (n : Int) = s then st else sF N n 0 := by
      unfold sF upN
      by_cases h : (n : Int) = s
      · rw [if_pos h, if_pos (by omega)]
      · rw [if_neg h, if_neg (by omega)]
    rw [e]
    by_cases h : (n : Int) = s
    · rw [if_pos h, if_neg (by omega), if_pos (by omega), h]; omega
    · rw [if_neg h]
      by_cases h2 : s < n
      · rw [if_pos h2, if_pos (by omega)]; omega
      · rw [if_neg h2, if_neg (by omega)]; omega
def bOk (N : gN0) : Prop := -Phi N ≤ N 9 ∧ N 9 ≤ Phi N ∧ -Phi N ≤ N 10 ∧ N 10 ≤ Phi N ∧ -Phi N ≤ N 11 ∧ N 11 ≤ Phi N ∧ -Phi N ≤ N 12 ∧ N 12 ≤ Phi N ∧ N 9 + N 10 + N 11 + N 12 = 0
def oOk (N : gN0) : Prop := (0 ≤ N 13 ∧ 0 ≤ N 14 ∧ 0 ≤ N 15 ∧ 0 ≤ N 16 ∧ N 13 + N 14 + N 15 + N 16 ≤ 1000) ∧ (0 ≤ N 17 ∧ N 17 ≤ 100000 ∧ 0 ≤ N 18 ∧ N 18 ≤ 100000 ∧ 0 ≤ N 19 ∧ N 19 ≤ 100000 ∧ 0 ≤ N 20 ∧ N 20 ≤ 100000) ∧
  (0 ≤ N 21 ∧ N 21 ≤ 1 ∧ 0 ≤ N 22 ∧ 0 ≤ N 23 ∧ N 23 ≤ 4 ∧ 0 ≤ N 24 ∧ N 24 ≤ N 26 * 100000 ∧ 0 ≤ N 25 ∧ N 25 ≤ 4 ∧ 0 ≤ N 26 ∧ N 26 + N 22 ≤ 4) ∧ (0 ≤ N 27 ∧ N 27 ≤ 100000 ∧ 0 ≤ N 28 ∧ N 28 ≤ 100000 ∧ 0 ≤ N 29 ∧ N 29 ≤ 100000 ∧ 0 ≤ N 30 ∧ N 30 ≤ 100000)
def INV (N : gN0) : Prop := InvC N ∧ bOk N ∧ oOk N
theorem Phi_in {N : gN0} (h : InvC N) : 0 ≤ Phi N ∧ Phi N ≤ 732000000 := by
  have h1 := phT_in N (N 5).toNat
  have h2 := h.1
  unfold iScal at h2
  unfold Phi
  omega
theorem oOk_of {N N' : gN0} (h : ∀ j, 13 ≤ j → j ≤ 30 → N' j = N j) (ho : oOk N) : oOk N' := by
  unfold oOk at *
  rw [h 13 (by decide) (by decide), h 14 (by decide) (by decide), h 15 (by decide) (by decide), h 16 (by decide) (by decide), h 17 (by decide) (by decide), h 18 (by decide) (by decide), h 19 (by decide) (by decide), h 20 (by decide) (by decide), h 21 (by decide) (by decide), h 22 (by decide) (by decide), h 23 (by decide) (by decide), h 24 (by decide) (by decide), h 25 (by decide) (by decide), h 26 (by decide) (by decide), h 27 (by decide) (by decide), h 28 (by decide) (by decide), h 29 (by decide) (by decide), h 30 (by decide) (by decide)]
  exact ho
theorem bOk_of {N N' : gN0} (hp : Phi N' = Phi N) (h : ∀ j, 9 ≤ j → j ≤ 12 → N' j = N j) (ho : bOk N) : bOk N' := by
  unfold bOk at *
  rw [h 9 (by decide) (by decide), h 10 (by decide) (by decide), h 11 (by decide) (by decide), h 12 (by decide) (by decide), hp]
  exact ho
theorem INV_mk {N : gN0} {k first nights adults children till group : Int} (hI : INV N) (ho : mkOk N k first nights adults children till group) (hh : ∀ i : Int, 0 ≤ i → i < nights → cnt N k (first + i) < kF N k 0 + kF N k 2) : INV (mkN N k first nights adults children till group) := by
  obtain ⟨hC, hb, hoo⟩ := hI
  have hs := hC.1
  unfold iScal at hs
  have ho' := ho
  unfold mkOk at ho'
  have old : ∀ j, j ≠ 5 → (j < 56 + 24 * N 5 ∨ 1496 ≤ j) → mkN N k first nights adults children till group j = N j := fun j a b => mkN_old (by omega) (by omega) (by omega) a b
  refine ⟨InvC_mk hC ho hh, bOk_of ?_ (fun j a b => old j (by omega) (Or.inl (by omega))) hb, oOk_of (fun j a b => old j (by omega) (Or.inl (by omega))) hoo⟩
  unfold Phi
  rw [mkN_5, show (N 5 + 1).toNat = (N 5).toNat + 1 by omega]
  rw [show ∀ X : gN0, phT X ((N 5).toNat + 1) = phT X (N 5).toNat + phi (sF X (((N 5).toNat : Nat) : Int) 0) from fun _ => rfl]
  have f0 := (mkN_f (N := N) (k := k) (first := first) (nights := nights) (adults := adults) (children := children) (till := till) (group := group) (by omega)).1
  have e : (((N 5).toNat : Nat) : Int) = N 5 := by omega
  rw [e, f0, phT_eq (N := N) _ (fun s a b => by unfold sF; exact old _ (by omega) (Or.inl (by omega)))]
  show _ + 0 = _
  omega
theorem INV_sh {N : gN0} (hI : INV N) {a : Int} (h0 : 0 ≤ a) (h1 : a < N 7) : INV (shG N (1496 + a * 5)) := by
  obtain ⟨hC, hb, hoo⟩ := hI
  have hs := hC.1
  unfold iScal at hs
  have lo : ∀ j, j ≠ 7 → j < 1496 → shG N (1496 + a * 5) j = N j := by
    intro j p q
    unfold shG
    rw [if_neg p, if_neg (by omega)]
  refine ⟨InvC_sh hC h0 h1, bOk_of ?_ (fun j p q => lo j (by omega) (by omega)) hb, oOk_of (fun j p q => lo j (by omega) (by omega)) hoo⟩
  unfold Phi
  rw [lo 5 (by decide) (by decide), phT_eq (N := N) _ (fun s p q => by unfold sF; exact lo _ (by omega) (by omega))]
theorem shG_7 (N : gN0) (a : Int) : shG N (1496 + a * 5) 7 = N 7 - 1 := by unfold shG; rw [if_pos rfl]
theorem lkS_inv : ∀ (q : Nat) (N : gN0) (a m : Int), INV N → 0 ≤ a → (q : Int) = N 7 - a → INV (lkS q N a m).1 := by
  intro q
  induction q with
  | zero => intro N a m h _ _; exact h
  | succ q ih =>
    intro N a m h h0 hq
    have hs := h.1.1
    unfold iScal at hs
    have hlt : a < N 7 := by omega
    have hg := h.1.2.2.2.2 a h0 hlt
    unfold gOk gF at hg
    simp only [Int.add_zero] at hg
    rw [lkS, if_pos hlt]
    split
    · exact ih _ _ _ (INV_sh h h0 hlt) h0 (by rw [shG_7]; omega)
    · split
      · rename_i hl hh
        have hO : mkOk N (N (1496 + a * 5)) (N (1496 + a * 5 + 1)) (N (1496 + a * 5 + 2)) (N (1496 + a * 5 + 3)) (N (1496 + a * 5 + 4)) (N (1496 + a * 5 + 1)) (-1) := by unfold mkOk; omega
        have e7 : mkN N (N (1496 + a * 5)) (N (1496 + a * 5 + 1)) (N (1496 + a * 5 + 2)) (N (1496 + a * 5 + 3)) (N (1496 + a * 5 + 4)) (N (1496 + a * 5 + 1)) (-1) 7 = N 7 := mkN_old (by omega) (by omega) (by omega) (by decide) (Or.inl (by omega))
        exact ih _ _ _ (INV_sh (INV_mk h hO (rfd_had hh.2 (by omega) (by omega)).1) h0 (by omega)) h0 (by rw [shG_7]; omega)
      · exact ih _ _ _ h (by omega) (by omega)
theorem lk_inv {N : gN0} (h : INV N) : INV (lk N).1 := by
  have hs := h.1.1
  unfold iScal at hs
  exact lkS_inv _ _ _ _ h (Int.le_refl _) (by omega)

