/-! changes that stay within what stays -/
/-- kinds that aren't there have no extra places and no closed night -/
def KZ (N : gN0) : Prop := ∀ k, N 1 ≤ k → k < 3 → N (31 + k * 3 + 2) = 0 ∧ ∀ w, 0 ≤ w → w < 1142 → N (1596 + k * 1142 + w) = 0
theorem KZ_of {N M : gN0} (h : KZ N) (e1 : M 1 = N 1) (h1 : 0 ≤ N 1) (e : ∀ k, N 1 ≤ k → k < 3 → M (31 + k * 3 + 2) = N (31 + k * 3 + 2)) (e2 : ∀ k w, N 1 ≤ k → k < 3 → 0 ≤ w → w < 1142 → M (1596 + k * 1142 + w) = N (1596 + k * 1142 + w)) : KZ M := by
  intro k a c
  rw [e1] at a
  have := h k a c
  refine ⟨by rw [e k a c]; exact this.1, fun w p q => ?_⟩
  rw [e2 k w a c p q]
  exact this.2 w p q
theorem sw_inv {N : gN0} (hI : INV N) {x y : Int} (hx : 0 ≤ x ∧ x ≤ 100) (hy : 0 ≤ y ∧ y ≤ 1000) : INV (upN (upN N 3 x) 4 y) := by
  have e : ∀ j, j ≠ 3 → j ≠ 4 → upN (upN N 3 x) 4 y j = N j := fun j a c => by rw [upN_ne c, upN_ne a]
  have e3 : upN (upN N 3 x) 4 y 3 = x := by rw [upN_ne (by decide), upN_eq]
  have e4 : upN (upN N 3 x) 4 y 4 = y := upN_eq _ _ _
  have hs := hI.1.1
  refine INV_sc hI (fun j hj => e j (by omega) (by omega)) (e 1 (by decide) (by decide)) (e 2 (by decide) (by decide)) (e 5 (by decide) (by decide)) (e 7 (by decide) (by decide)) (fun j a c => e j (by omega) (by omega)) ?_ (oOk_of (fun j a c => e j (by omega) (by omega)) hI.2.2)
  unfold iScal at hs ⊢
  rw [e3, e4, e 0 (by decide) (by decide), e 1 (by decide) (by decide), e 2 (by decide) (by decide), e 5 (by decide) (by decide), e 6 (by decide) (by decide), e 7 (by decide) (by decide)]
  omega
theorem rn_inv {N : gN0} (hI : INV N) (x : Int) : INV (upN N 8 x) := by
  have e : ∀ j, j ≠ 8 → upN N 8 x j = N j := fun j a => upN_ne a
  have hs := hI.1.1
  refine INV_sc hI (fun j hj => e j (by omega)) (e 1 (by decide)) (e 2 (by decide)) (e 5 (by decide)) (e 7 (by decide)) (fun j a c => e j (by omega)) ?_ (oOk_of (fun j a c => e j (by omega)) hI.2.2)
  unfold iScal at hs ⊢
  rw [e 0 (by decide), e 1 (by decide), e 2 (by decide), e 3 (by decide), e 4 (by decide), e 5 (by decide), e 6 (by decide), e 7 (by decide)]
  exact hs
theorem gc_inv {N : gN0} (hI : INV N) {x : Int} (hx : 0 ≤ x ∧ x ≤ 10) : INV (upN N 6 x) := by
  have e : ∀ j, j ≠ 6 → upN N 6 x j = N j := fun j a => upN_ne a
  have e6 : upN N 6 x 6 = x := upN_eq _ _ _
  have hs := hI.1.1
  refine INV_sc hI (fun j hj => e j (by omega)) (e 1 (by decide)) (e 2 (by decide)) (e 5 (by decide)) (e 7 (by decide)) (fun j a c => e j (by omega)) ?_ (oOk_of (fun j a c => e j (by omega)) hI.2.2)
  unfold iScal at hs ⊢
  rw [e6, e 0 (by decide), e 1 (by decide), e 2 (by decide), e 3 (by decide), e 4 (by decide), e 5 (by decide), e 7 (by decide)]
  omega
/-- scalars from 13 to 30 are others -/
theorem o_inv {N M : gN0} (hI : INV N) (h : ∀ j, (j < 13 ∨ 30 < j) → M j = N j) (ho : oOk M) : INV M := by
  have hs := hI.1.1
  refine INV_sc hI (fun j hj => h j (by omega)) (h 1 (by decide)) (h 2 (by decide)) (h 5 (by decide)) (h 7 (by decide)) (fun j a c => h j (by omega)) ?_ ho
  unfold iScal at hs ⊢
  rw [h 0 (by decide), h 1 (by decide), h 2 (by decide), h 3 (by decide), h 4 (by decide), h 5 (by decide), h 6 (by decide), h 7 (by decide)]
  exact hs
theorem so_inv {N : gN0} (hI : INV N) {sort price odds : Int} (h1 : 0 ≤ sort ∧ sort ≤ 3) (h2 : 0 ≤ price ∧ price ≤ 100000) (h3 : 0 ≤ odds) (h4 : otT N sort 4 + odds ≤ 1000) : INV (upN (upN N (17 + sort) price) (13 + sort) odds) := by
  refine o_inv hI (fun j hj => by rw [upN_ne (by omega), upN_ne (by omega)]) ?_
  have ho := hI.2.2
  have e : otT N sort 4 = 0 + (if ((0 : Nat) : Int) ≠ sort then N 13 else 0) + (if ((1 : Nat) : Int) ≠ sort then N 14 else 0) + (if ((2 : Nat) : Int) ≠ sort then N 15 else 0) + (if ((3 : Nat) : Int) ≠ sort then N 16 else 0) := rfl
  rw [e] at h4
  have hs : sort = 0 ∨ sort = 1 ∨ sort = 2 ∨ sort = 3 := by omega
  unfold oOk at ho ⊢
  rcases hs with rfl | rfl | rfl | rfl <;> simp [upN] at h4 ⊢ <;> omega
theorem sell_inv {N : gN0} (hI : INV N) {days rooms : Int} (h1 : 1 ≤ days ∧ days ≤ 4) (h2 : 1 ≤ rooms ∧ rooms ≤ 4) : INV (selN N days rooms) := by
  refine o_inv hI (fun j hj => ?_) (selN_o hI.2.2 h1 h2)
  unfold selN
  rw [upN_ne (by omega), upN_ne (by omega), upN_ne (by omega), upN_ne (by omega), upN_ne (by omega), upN_ne (by omega)]
theorem off_inv {N : gN0} (hI : INV N) {price : Int} (h1 : 0 ≤ price ∧ price ≤ 100000) (h2 : 0 < N 22) : INV (offN N price) := by
  have ho := hI.2.2
  unfold oOk at ho
  refine o_inv hI (fun j hj => ?_) ?_
  · unfold offN
    rw [upN_ne (by omega), upN_ne (by omega), upN_ne (by omega)]
  · have hs : N 26 = 0 ∨ N 26 = 1 ∨ N 26 = 2 ∨ N 26 = 3 := by omega
    unfold oOk offN
    rcases hs with h | h | h | h <;> simp [upN, h] <;> omega
theorem offT_inv {N : gN0} (hI : INV N) {price : Int} (h1 : 0 ≤ price ∧ price ≤ 100000) (h2 : 0 < N 22) (h3 : 0 < N 23) : INV (offT N price) := by
  have ho := hI.2.2
  have ho1 := (off_inv hI h1 h2).2.2
  have e26 : offN N price 26 = N 26 + 1 := by
    unfold offN
    rw [upN_ne (by decide), upN_eq]
  refine o_inv (off_inv hI h1 h2) (fun j hj => ?_) ?_
  · unfold offT
    rw [upN_ne (by omega), upN_ne (by omega)]
  · have e : ∀ j, j ≠ 23 → j ≠ 24 → offT N price j = offN N price j := fun j a c => by unfold offT; rw [upN_ne c, upN_ne a]
    have e23 : offT N price 23 = N 23 - 1 := by unfold offT; rw [upN_ne (by decide), upN_eq]
    have e24 : offT N price 24 = N 24 + price := upN_eq _ _ _
    unfold oOk at ho ho1 ⊢
    rw [e23, e24, e 13 (by decide) (by decide), e 14 (by decide) (by decide), e 15 (by decide) (by decide), e 16 (by decide) (by decide), e 17 (by decide) (by decide), e 18 (by decide) (by decide), e 19 (by decide) (by decide), e 20 (by decide) (by decide), e 21 (by decide) (by decide), e 22 (by decide) (by decide), e 25 (by decide) (by decide), e 26 (by decide) (by decide), e 27 (by decide) (by decide), e 28 (by decide) (by decide), e 29 (by decide) (by decide), e 30 (by decide) (by decide)]
    omega
theorem pay_inv {N : gN0} {s : Int} (hI : INV N) (h0 : 0 ≤ s) (h1 : s < N 5) (ha : sF N s 0 = 0) : INV (payN N s) := by
  have hs := hI.1.2.2.2.1 s h0 h1
  have hs1 := hs.1
  have hp := sPr_in hs
  have hd : 0 ≤ dpO N s ∧ dpO N s ≤ 2016000 := by unfold dpO; omega
  have hag : AgT N (payN N s) s := by
    intro j q1 q2
    unfold payN
    rw [mvN_far _ (by decide) (by decide) q2, upN_ne (by omega), upN_ne (by omega)]
  have e : ∀ w, w ≠ 0 → w ≠ 6 → 0 ≤ w → sF (payN N s) s w = sF N s w := by
    intro w a c d
    unfold payN
    show mvN _ _ _ _ _ = _
    rw [mvN_far _ (by decide) (by decide) (by omega), upN_ne (by omega), upN_ne (by omega)]
    rfl
  have e0 : sF (payN N s) s 0 = 1 := by
    unfold payN
    show mvN _ _ _ _ _ = _
    rw [mvN_far _ (by decide) (by decide) (by omega), upN_ne (by omega), upN_eq]
  have e6 : sF (payN N s) s 6 = dpO N s := by
    unfold payN
    show mvN _ _ _ _ _ = _
    rw [mvN_far _ (by decide) (by decide) (by omega), upN_eq]
  have e1 : payN N s 1 = N 1 := hag.lo h0 (by decide)
  have hok : sOk (payN N s) s := by
    unfold sOk at hs ⊢
    rw [e0, e1, e6, e 1 (by decide) (by decide) (by decide), e 2 (by decide) (by decide) (by decide), e 3 (by decide) (by decide) (by decide), e 4 (by decide) (by decide) (by decide), e 5 (by decide) (by decide) (by decide), e 7 (by decide) (by decide) (by decide), e 8 (by decide) (by decide) (by decide), e 9 (by decide) (by decide) (by decide)]
    refine ⟨by omega, fun n a c => ?_⟩
    rw [e _ (by omega) (by omega) (by omega)]
    exact hs.2 n a c
  refine INV_s hag h0 h1 hI hok ?_
  have p0 : phi 0 = 0 := rfl
  have p1 : phi 1 = 2016000 := rfl
  rw [e0, ha, p0, p1]
  have eb : ∀ j, 9 ≤ j → j ≤ 12 → upN (upN N (56 + s * 24 + 0) 1) (56 + s * 24 + 6) (dpO N s) j = N j := fun j a c => by rw [upN_ne (by omega), upN_ne (by omega)]
  unfold payN
  have b9 := eb 9 (by decide) (by decide)
  have b10 := eb 10 (by decide) (by decide)
  have b11 := eb 11 (by decide) (by decide)
  have b12 := eb 12 (by decide) (by decide)
  generalize upN (upN N (56 + s * 24 + 0) 1) (56 + s * 24 + 6) (dpO N s) = K at *
  simp only [mvN, upN]
  simp
  omega

