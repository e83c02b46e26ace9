/-! the reference: changes (rows laid by wip/whole/m6.py) -/
theorem lkS_in : ∀ (q : Nat) (N : gN0) (a m : Int), 0 ≤ m → 0 ≤ (lkS q N a m).2 ∧ (lkS q N a m).2 ≤ m + q := by
  intro q
  induction q with
  | zero => intro N a m h; exact ⟨h, by show m ≤ m + 0; omega⟩
  | succ q ih =>
    intro N a m h
    rw [lkS]
    split
    · split
      · have := ih (shG N (1496 + a * 5)) a m h; omega
      · split
        · have := ih (shG (mkN N (N (1496 + a * 5)) (N (1496 + a * 5 + 1)) (N (1496 + a * 5 + 2)) (N (1496 + a * 5 + 3)) (N (1496 + a * 5 + 4)) (N (1496 + a * 5 + 1)) (-1)) (1496 + a * 5)) a (m + 1) (by omega); omega
        · have := ih N (a + 1) m h; omega
    · show 0 ≤ m ∧ m ≤ _; omega
theorem lk_in {N : gN0} (h : InvC N) : 0 ≤ (lk N).2 ∧ (lk N).2 ≤ 20 := by
  have := lkS_in (N 7).toNat N 0 0 (Int.le_refl _)
  have hs := h.1
  unfold iScal at hs
  unfold lk
  omega
/-- the extra places of a kind are others -/
theorem InvC_x {N : gN0} {k x : Int} (hI : InvC N) (h0 : 0 ≤ k) (h1 : k < N 1) (h2 : 0 ≤ x) (h3 : x ≤ 3) : INV N → INV (upN N (31 + k * 3 + 2) x) := by
  intro h
  obtain ⟨⟨i1, i2, i3, i4, i5⟩, hb, ho⟩ := h
  have hs := i1
  unfold iScal at hs
  have e : ∀ j, j ≠ 31 + k * 3 + 2 → upN N (31 + k * 3 + 2) x j = N j := fun j hj => upN_ne hj
  have ex := upN_eq N (31 + k * 3 + 2) x
  generalize upN N (31 + k * 3 + 2) x = M at *
  have el : ∀ j, j < 31 ∨ 40 ≤ j → M j = N j := fun j hj => e j (by omega)
  refine ⟨⟨?_, ?_, ?_, ?_, ?_⟩, bOk_of ?_ (fun j p q => el j (by omega)) hb, oOk_of (fun j p q => el j (by omega)) ho⟩
  · unfold iScal
    rw [el 0 (by decide), el 1 (by decide), el 2 (by decide), el 3 (by decide), el 4 (by decide), el 5 (by decide), el 6 (by decide), el 7 (by decide)]
    exact i1
  · intro k' a0 a1
    rw [el 1 (by decide)] at a1
    have := i2 k' a0 a1
    unfold kOk kF at this ⊢
    rw [e (31 + k' * 3 + 0) (by omega), e (31 + k' * 3 + 1) (by omega)]
    by_cases hk : k' = k
    · subst hk
      rw [ex]
      omega
    · rw [e (31 + k' * 3 + 2) (by omega)]
      exact this
  · intro i a0 a1
    rw [el 2 (by decide)] at a1
    have := i3 i a0 a1
    unfold seOk seF at this ⊢
    rw [el _ (by omega), el _ (by omega), el _ (by omega), el _ (by omega)]
    exact this
  · intro s a0 a1
    rw [el 5 (by decide)] at a1
    have := i4 s a0 a1
    have es : ∀ w, 0 ≤ w → sF M s w = sF N s w := fun w hw => el _ (by omega)
    unfold sOk at this ⊢
    rw [es 0 (by decide), es 1 (by decide), es 2 (by decide), es 3 (by decide), es 4 (by decide), es 5 (by decide), es 6 (by decide), es 7 (by decide), es 8 (by decide), es 9 (by decide), el 1 (by decide)]
    refine ⟨this.1, fun n n0 n1 => ?_⟩
    rw [es _ (by omega)]
    exact this.2 n n0 n1
  · intro g a0 a1
    rw [el 7 (by decide)] at a1
    have := i5 g a0 a1
    unfold gOk gF at this ⊢
    rw [el _ (by omega), el _ (by omega), el _ (by omega), el _ (by omega), el _ (by omega), el _ (by omega)]
    exact this
  · unfold Phi
    rw [el 5 (by decide), phT_eq (N := N) _ (fun s p q => by unfold sF; exact el _ (by omega))]

abbrev askC (N : gN0) (first nights adults children : Int) : Prop := dayZ first ≠ -1 ∧ (1 ≤ nights ∧ nights ≤ 14) ∧ (1 ≤ adults ∧ adults ≤ 4) ∧ (0 ≤ children ∧ children ≤ 4) ∧ N 0 ≤ dayZ first ∧ dayZ first + nights - 1 ≤ N 0 + 365 ∧ dayZ first + nights - 1 < 36525
abbrev tilC (N : gN0) (till first : Int) : Prop := dayZ till ≠ -1 ∧ N 0 ≤ dayZ till ∧ dayZ till ≤ dayZ first
theorem doy_in {d : Int} (h : 0 < d ∧ d < 10000 ∧ dayZ (20000000 + d) ≠ -1) : 101 ≤ d ∧ d ≤ 1231 := by
  obtain ⟨h1, h2, h3⟩ := h
  unfold dayZ at h3
  split at h3
  · rename_i h
    have : dIM ((20000000 + d) / 10000) ((20000000 + d) / 100 % 100) ≤ 31 := by unfold dIM lp; (repeat' split) <;> omega
    omega
  · omega

theorem rfd_in (N : gN0) {k first nights : Int} (h0 : 0 ≤ first) (h1 : first + nights ≤ 36525) : rfd N k first nights = -1 ∨ (0 ≤ rfd N k first nights ∧ rfd N k first nights ≤ 36524) ∨ (nights < 1) := by
  have h := rfs_in N k first nights h0 h1
  unfold rfd
  (repeat' split) <;> omega

