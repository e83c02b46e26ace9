/-! a kind, a season, one who waits: one more -/
theorem ak_inv {N : gN0} (hI : INV N) (hz : KZ N) {rooms price : Int} (h1 : 1 ≤ rooms ∧ rooms ≤ 6) (h2 : 100 ≤ price ∧ price ≤ 100000) (h3 : N 1 < 3) :
    INV (upN (upN (upN N (31 + N 1 * 3 + 0) rooms) (31 + N 1 * 3 + 1) price) 1 (N 1 + 1)) ∧ KZ (upN (upN (upN N (31 + N 1 * 3 + 0) rooms) (31 + N 1 * 3 + 1) price) 1 (N 1 + 1)) := by
  have hs := hI.1.1
  unfold iScal at hs
  have e : ∀ j, j ≠ 1 → j ≠ 31 + N 1 * 3 + 0 → j ≠ 31 + N 1 * 3 + 1 → upN (upN (upN N (31 + N 1 * 3 + 0) rooms) (31 + N 1 * 3 + 1) price) 1 (N 1 + 1) j = N j := fun j a c d => by rw [upN_ne a, upN_ne d, upN_ne c]
  have e1 : upN (upN (upN N (31 + N 1 * 3 + 0) rooms) (31 + N 1 * 3 + 1) price) 1 (N 1 + 1) 1 = N 1 + 1 := upN_eq _ _ _
  have ea : upN (upN (upN N (31 + N 1 * 3 + 0) rooms) (31 + N 1 * 3 + 1) price) 1 (N 1 + 1) (31 + N 1 * 3 + 0) = rooms := by rw [upN_ne (by omega), upN_ne (by omega), upN_eq]
  have ec : upN (upN (upN N (31 + N 1 * 3 + 0) rooms) (31 + N 1 * 3 + 1) price) 1 (N 1 + 1) (31 + N 1 * 3 + 1) = price := by rw [upN_ne (by omega), upN_eq]
  generalize upN (upN (upN N (31 + N 1 * 3 + 0) rooms) (31 + N 1 * 3 + 1) price) 1 (N 1 + 1) = M at *
  have hi : ∀ j, j ≠ 1 → (j < 31 ∨ 40 ≤ j) → M j = N j := fun j a c => e j a (by omega) (by omega)
  obtain ⟨⟨i1, i2, i3, i4, i5⟩, hb, ho⟩ := hI
  refine ⟨⟨⟨?_, ?_, ?_, ?_, ?_⟩, bOk_of ?_ (fun j a c => hi j (by omega) (by omega)) hb, oOk_of (fun j a c => hi j (by omega) (by omega)) ho⟩, ?_⟩
  · unfold iScal
    rw [e1, hi 0 (by decide) (by decide), hi 2 (by decide) (by decide), hi 3 (by decide) (by decide), hi 4 (by decide) (by decide), hi 5 (by decide) (by decide), hi 6 (by decide) (by decide), hi 7 (by decide) (by decide)]
    omega
  · intro k a0 a1
    rw [e1] at a1
    unfold kOk kF
    by_cases hk : k = N 1
    · subst hk
      have hz2 := (hz (N 1) (Int.le_refl _) h3).1
      rw [ea, ec, e (31 + N 1 * 3 + 2) (by omega) (by omega) (by omega), hz2]
      omega
    · have := i2 k a0 (by omega)
      unfold kOk kF at this
      rw [e (31 + k * 3 + 0) (by omega) (by omega) (by omega), e (31 + k * 3 + 1) (by omega) (by omega) (by omega), e (31 + k * 3 + 2) (by omega) (by omega) (by omega)]
      exact this
  · intro i a0 a1
    rw [hi 2 (by decide) (by decide)] at a1
    have := i3 i a0 a1
    have es : ∀ w, 0 ≤ w → seF M i w = seF N i w := fun w _ => hi _ (by omega) (by omega)
    unfold seOk at this ⊢
    rw [es 0 (by decide), es 1 (by decide), es 2 (by decide), es 3 (by decide)]
    exact this
  · intro s a0 a1
    rw [hi 5 (by decide) (by decide)] at a1
    have := i4 s a0 a1
    have es : ∀ w, 0 ≤ w → sF M s w = sF N s w := fun w _ => hi _ (by omega) (by omega)
    unfold sOk at this ⊢
    rw [es 0 (by decide), es 1 (by decide), es 2 (by decide), es 3 (by decide), es 4 (by decide), es 5 (by decide), es 6 (by decide), es 7 (by decide), es 8 (by decide), es 9 (by decide), e1]
    refine ⟨by omega, fun n n0 n1 => ?_⟩
    rw [es _ (by omega)]
    exact this.2 n n0 n1
  · intro g a0 a1
    rw [hi 7 (by decide) (by decide)] at a1
    have := i5 g a0 a1
    have es : ∀ w, 0 ≤ w → gF M g w = gF N g w := fun w _ => hi _ (by omega) (by omega)
    unfold gOk at this ⊢
    rw [es 0 (by decide), es 1 (by decide), es 2 (by decide), es 3 (by decide), es 4 (by decide), e1]
    omega
  · unfold Phi
    rw [hi 5 (by decide) (by decide), phT_eq (N := N) _ (fun s p q => by unfold sF; exact hi _ (by omega) (by omega))]
  · intro k a c
    rw [e1] at a
    have := hz k (by omega) c
    refine ⟨by rw [e _ (by omega) (by omega) (by omega)]; exact this.1, fun w p q => ?_⟩
    rw [hi _ (by omega) (by omega)]
    exact this.2 w p q
theorem as_inv {N : gN0} (hI : INV N) {x y pe le9 : Int} (h1 : 101 ≤ x ∧ x ≤ 1231) (h2 : 101 ≤ y ∧ y ≤ 1231) (h3 : -50 ≤ pe ∧ pe ≤ 100) (h4 : 1 ≤ le9 ∧ le9 ≤ 7) (h5 : N 2 < 4) :
    INV (upN (upN (upN (upN (upN N (40 + N 2 * 4) x) (40 + N 2 * 4 + 1) y) (40 + N 2 * 4 + 2) pe) (40 + N 2 * 4 + 3) le9) 2 (N 2 + 1)) := by
  have hs := hI.1.1
  unfold iScal at hs
  have e : ∀ j, j ≠ 2 → (j < 40 + N 2 * 4 ∨ 40 + N 2 * 4 + 3 < j) → upN (upN (upN (upN (upN N (40 + N 2 * 4) x) (40 + N 2 * 4 + 1) y) (40 + N 2 * 4 + 2) pe) (40 + N 2 * 4 + 3) le9) 2 (N 2 + 1) j = N j := fun j a c => by rw [upN_ne a, upN_ne (by omega), upN_ne (by omega), upN_ne (by omega), upN_ne (by omega)]
  have e2 : upN (upN (upN (upN (upN N (40 + N 2 * 4) x) (40 + N 2 * 4 + 1) y) (40 + N 2 * 4 + 2) pe) (40 + N 2 * 4 + 3) le9) 2 (N 2 + 1) 2 = N 2 + 1 := upN_eq _ _ _
  have f0 : seF (upN (upN (upN (upN (upN N (40 + N 2 * 4) x) (40 + N 2 * 4 + 1) y) (40 + N 2 * 4 + 2) pe) (40 + N 2 * 4 + 3) le9) 2 (N 2 + 1)) (N 2) 0 = x := by unfold seF; rw [upN_ne (by omega), upN_ne (by omega), upN_ne (by omega), upN_ne (by omega), show 40 + N 2 * 4 + 0 = 40 + N 2 * 4 by omega, upN_eq]
  have f1 : seF (upN (upN (upN (upN (upN N (40 + N 2 * 4) x) (40 + N 2 * 4 + 1) y) (40 + N 2 * 4 + 2) pe) (40 + N 2 * 4 + 3) le9) 2 (N 2 + 1)) (N 2) 1 = y := by unfold seF; rw [upN_ne (by omega), upN_ne (by omega), upN_ne (by omega), upN_eq]
  have f2 : seF (upN (upN (upN (upN (upN N (40 + N 2 * 4) x) (40 + N 2 * 4 + 1) y) (40 + N 2 * 4 + 2) pe) (40 + N 2 * 4 + 3) le9) 2 (N 2 + 1)) (N 2) 2 = pe := by unfold seF; rw [upN_ne (by omega), upN_ne (by omega), upN_eq]
  have f3 : seF (upN (upN (upN (upN (upN N (40 + N 2 * 4) x) (40 + N 2 * 4 + 1) y) (40 + N 2 * 4 + 2) pe) (40 + N 2 * 4 + 3) le9) 2 (N 2 + 1)) (N 2) 3 = le9 := by unfold seF; rw [upN_ne (by omega), upN_eq]
  generalize upN (upN (upN (upN (upN N (40 + N 2 * 4) x) (40 + N 2 * 4 + 1) y) (40 + N 2 * 4 + 2) pe) (40 + N 2 * 4 + 3) le9) 2 (N 2 + 1) = M at *
  have hi : ∀ j, j ≠ 2 → (j < 40 ∨ 56 ≤ j) → M j = N j := fun j a c => e j a (by omega)
  obtain ⟨⟨i1, i2, i3, i4, i5⟩, hb, ho⟩ := hI
  refine ⟨⟨?_, ?_, ?_, ?_, ?_⟩, bOk_of ?_ (fun j a c => hi j (by omega) (by omega)) hb, oOk_of (fun j a c => hi j (by omega) (by omega)) ho⟩
  · unfold iScal
    rw [e2, hi 0 (by decide) (by decide), hi 1 (by decide) (by decide), hi 3 (by decide) (by decide), hi 4 (by decide) (by decide), hi 5 (by decide) (by decide), hi 6 (by decide) (by decide), hi 7 (by decide) (by decide)]
    omega
  · intro k a0 a1
    rw [hi 1 (by decide) (by decide)] at a1
    have := i2 k a0 a1
    unfold kOk kF at this ⊢
    rw [hi (31 + k * 3 + 0) (by omega) (by omega), hi (31 + k * 3 + 1) (by omega) (by omega), hi (31 + k * 3 + 2) (by omega) (by omega)]
    exact this
  · intro i a0 a1
    rw [e2] at a1
    unfold seOk
    by_cases hk : i = N 2
    · subst hk
      rw [f0, f1, f2, f3]
      omega
    · have := i3 i a0 (by omega)
      have es : ∀ w, 0 ≤ w → w < 4 → seF M i w = seF N i w := fun w _ _ => e _ (by omega) (by omega)
      unfold seOk at this
      rw [es 0 (by decide) (by decide), es 1 (by decide) (by decide), es 2 (by decide) (by decide), es 3 (by decide) (by decide)]
      exact this
  · intro s a0 a1
    rw [hi 5 (by decide) (by decide)] at a1
    have := i4 s a0 a1
    have es : ∀ w, 0 ≤ w → sF M s w = sF N s w := fun w _ => hi _ (by omega) (by omega)
    unfold sOk at this ⊢
    rw [es 0 (by decide), es 1 (by decide), es 2 (by decide), es 3 (by decide), es 4 (by decide), es 5 (by decide), es 6 (by decide), es 7 (by decide), es 8 (by decide), es 9 (by decide), hi 1 (by decide) (by decide)]
    refine ⟨this.1, fun n n0 n1 => ?_⟩
    rw [es _ (by omega)]
    exact this.2 n n0 n1
  · intro g a0 a1
    rw [hi 7 (by decide) (by decide)] at a1
    have := i5 g a0 a1
    have es : ∀ w, 0 ≤ w → gF M g w = gF N g w := fun w _ => hi _ (by omega) (by omega)
    unfold gOk at this ⊢
    rw [es 0 (by decide), es 1 (by decide), es 2 (by decide), es 3 (by decide), es 4 (by decide), hi 1 (by decide) (by decide)]
    exact this
  · unfold Phi
    rw [hi 5 (by decide) (by decide), phT_eq (N := N) _ (fun s p q => by unfold sF; exact hi _ (by omega) (by omega))]
def waN (N : gN0) (k d n a c : Int) : gN0 := upN (upN (upN (upN (upN (upN N (1496 + N 7 * 5) k) (1496 + N 7 * 5 + 1) d) (1496 + N 7 * 5 + 2) n) (1496 + N 7 * 5 + 3) a) (1496 + N 7 * 5 + 4) c) 7 (N 7 + 1)
theorem wa_inv {N : gN0} (hI : INV N) {k d n a c : Int} (h0 : 0 ≤ k ∧ k < N 1) (h1 : 8822 ≤ d ∧ d + n ≤ 36525) (h2 : 1 ≤ n ∧ n ≤ 14) (h3 : 1 ≤ a ∧ a ≤ 4) (h4 : 0 ≤ c ∧ c ≤ 4) (h5 : N 7 < 20) : INV (waN N k d n a c) := by
  have hs := hI.1.1
  unfold iScal at hs
  have e : ∀ j, j ≠ 7 → (j < 1496 + N 7 * 5 ∨ 1496 + N 7 * 5 + 4 < j) → waN N k d n a c j = N j := fun j p q => by unfold waN; rw [upN_ne p, upN_ne (by omega), upN_ne (by omega), upN_ne (by omega), upN_ne (by omega), upN_ne (by omega)]
  have e7 : waN N k d n a c 7 = N 7 + 1 := upN_eq _ _ _
  have f0 : gF (waN N k d n a c) (N 7) 0 = k := by unfold gF waN; rw [upN_ne (by omega), upN_ne (by omega), upN_ne (by omega), upN_ne (by omega), upN_ne (by omega), show 1496 + N 7 * 5 + 0 = 1496 + N 7 * 5 by omega, upN_eq]
  have f1 : gF (waN N k d n a c) (N 7) 1 = d := by unfold gF waN; rw [upN_ne (by omega), upN_ne (by omega), upN_ne (by omega), upN_ne (by omega), upN_eq]
  have f2 : gF (waN N k d n a c) (N 7) 2 = n := by unfold gF waN; rw [upN_ne (by omega), upN_ne (by omega), upN_ne (by omega), upN_eq]
  have f3 : gF (waN N k d n a c) (N 7) 3 = a := by unfold gF waN; rw [upN_ne (by omega), upN_ne (by omega), upN_eq]
  have f4 : gF (waN N k d n a c) (N 7) 4 = c := by unfold gF waN; rw [upN_ne (by omega), upN_eq]
  generalize waN N k d n a c = M at *
  have hi : ∀ j, j ≠ 7 → j < 1496 → M j = N j := fun j p q => e j p (by omega)
  obtain ⟨⟨i1, i2, i3, i4, i5⟩, hb, ho⟩ := hI
  refine ⟨⟨?_, ?_, ?_, ?_, ?_⟩, bOk_of ?_ (fun j p q => hi j (by omega) (by omega)) hb, oOk_of (fun j p q => hi j (by omega) (by omega)) ho⟩
  · unfold iScal
    rw [e7, hi 0 (by decide) (by decide), hi 1 (by decide) (by decide), hi 2 (by decide) (by decide), hi 3 (by decide) (by decide), hi 4 (by decide) (by decide), hi 5 (by decide) (by decide), hi 6 (by decide) (by decide)]
    omega
  · intro k' a0 a1
    rw [hi 1 (by decide) (by decide)] at a1
    have := i2 k' a0 a1
    unfold kOk kF at this ⊢
    rw [hi (31 + k' * 3 + 0) (by omega) (by omega), hi (31 + k' * 3 + 1) (by omega) (by omega), hi (31 + k' * 3 + 2) (by omega) (by omega)]
    exact this
  · intro i a0 a1
    rw [hi 2 (by decide) (by decide)] at a1
    have := i3 i a0 a1
    have es : ∀ w, 0 ≤ w → w < 4 → seF M i w = seF N i w := fun w _ _ => hi _ (by omega) (by omega)
    unfold seOk at this ⊢
    rw [es 0 (by decide) (by decide), es 1 (by decide) (by decide), es 2 (by decide) (by decide), es 3 (by decide) (by decide)]
    exact this
  · intro s a0 a1
    rw [hi 5 (by decide) (by decide)] at a1
    have := i4 s a0 a1
    have h7 := this.1
    have es : ∀ w, 0 ≤ w → w < 24 → sF M s w = sF N s w := fun w _ _ => hi _ (by omega) (by omega)
    unfold sOk at this ⊢
    rw [es 0 (by decide) (by decide), es 1 (by decide) (by decide), es 2 (by decide) (by decide), es 3 (by decide) (by decide), es 4 (by decide) (by decide), es 5 (by decide) (by decide), es 6 (by decide) (by decide), es 7 (by decide) (by decide), es 8 (by decide) (by decide), es 9 (by decide) (by decide), hi 1 (by decide) (by decide)]
    refine ⟨this.1, fun m n0 n1 => ?_⟩
    rw [es _ (by omega) (by omega)]
    exact this.2 m n0 n1
  · intro g a0 a1
    rw [e7] at a1
    unfold gOk
    rw [hi 1 (by decide) (by decide)]
    by_cases hg : g = N 7
    · subst hg
      rw [f0, f1, f2, f3, f4]
      omega
    · have := i5 g a0 (by omega)
      have es : ∀ w, 0 ≤ w → w < 5 → gF M g w = gF N g w := fun w _ _ => e _ (by omega) (by omega)
      unfold gOk at this
      rw [es 0 (by decide) (by decide), es 1 (by decide) (by decide), es 2 (by decide) (by decide), es 3 (by decide) (by decide), es 4 (by decide) (by decide)]
      exact this
  · unfold Phi
    rw [hi 5 (by decide) (by decide), phT_eq (N := N) _ (fun s p q => by unfold sF; exact hi _ (by omega) (by omega))]

