/-! what the law's acts keep (laid by wip/p47/g9d.py) -/
def LI (n : Int) (N : gN0) : Prop := INV N ∧ (N 1 = 2 ∧ N 2 ≤ 1 ∧ kF N 0 0 = 3 ∧ kF N 1 0 = 1 ∧ N 0 ≤ 8822 + n ∧ N 13 = 0 ∧ N 14 = 0 ∧ N 15 = 0 ∧ N 16 = 0) ∧ (∀ s, 0 ≤ s → s < N 5 → sF N s 2 ≤ 8829 + n ∧ (sF N s 0 = 0 → sF N s 6 = 0)) ∧ (∀ g, 0 ≤ g → g < N 7 → gF N g 1 ≤ 8827 + n ∧ gF N g 2 ≤ 3) ∧ ∀ j, 1596 ≤ j → j < 5022 → inI (N j)
section LIS
variable {n : Int} {N M : gN0}
theorem LI.inv (h : LI n N) : INV N := h.1
theorem LI.gb (h : LI n N) (hn : n ≤ 90) : GB N := fun g g0 g1 => by have := h.2.2.2.1 g g0 g1; omega
theorem LI_of (h : LI n N) (hI : INV M) (e : ∀ j, j = 1 ∨ j = 2 ∨ j = 31 ∨ j = 34 ∨ (13 ≤ j ∧ j ≤ 16) → M j = N j) (e0 : M 0 ≤ 8822 + n) (es : ∀ s, 0 ≤ s → s < M 5 → sF M s 2 ≤ 8829 + n ∧ (sF M s 0 = 0 → sF M s 6 = 0)) (eg : ∀ g, 0 ≤ g → g < M 7 → gF M g 1 ≤ 8827 + n ∧ gF M g 2 ≤ 3) (ei : ∀ j, 1596 ≤ j → j < 5022 → inI (M j)) : LI n M := by
  obtain ⟨h1, ⟨a1, a2, a3, a4, a5, a6, a7, a8, a9⟩, h3, h4, h5⟩ := h
  refine ⟨hI, ⟨?_, ?_, ?_, ?_, e0, ?_, ?_, ?_, ?_⟩, es, eg, ei⟩
  · rw [e 1 (by omega)]; exact a1
  · rw [e 2 (by omega)]; exact a2
  · show M (31 + 0 * 3 + 0) = 3; rw [e _ (by omega)]; exact a3
  · show M (31 + 1 * 3 + 0) = 1; rw [e _ (by omega)]; exact a4
  · rw [e 13 (by omega)]; exact a6
  · rw [e 14 (by omega)]; exact a7
  · rw [e 15 (by omega)]; exact a8
  · rw [e 16 (by omega)]; exact a9
theorem LI_mono {m : Int} (h : LI n N) (hm : n ≤ m) : LI m N := by
  obtain ⟨h1, ⟨a1, a2, a3, a4, a5, a6, a7, a8, a9⟩, h3, h4, h5⟩ := h
  exact ⟨h1, ⟨a1, a2, a3, a4, by omega, a6, a7, a8, a9⟩, fun s s0 s1 => ⟨by have := (h3 s s0 s1).1; omega, (h3 s s0 s1).2⟩, fun g g0 g1 => ⟨by have := (h4 g g0 g1).1; omega, (h4 g g0 g1).2⟩, h5⟩
theorem LI_mk {k f d a c t g : Int} (h : LI n N) (ho : mkOk N k f d a c t g) (hh : ∀ i : Int, 0 ≤ i → i < d → cnt N k (f + i) < kF N k 0 + kF N k 2) (hf : f ≤ 8829 + n) : LI n (mkN N k f d a c t g) := by
  have hsc := h.1.1.1
  unfold iScal at hsc
  have ho2 := ho
  unfold mkOk at ho2
  have hm : ∀ j, j ≠ 5 → (j < 56 + 24 * N 5 ∨ 1496 ≤ j) → mkN N k f d a c t g j = N j := fun j j5 hj => mkN_old (by omega) (by omega) (by omega) j5 hj
  have h5 := mkN_5 N k f d a c t g
  have h7 := hm 7 (by decide) (by omega)
  refine LI_of h (INV_mk h.1 ho hh) (fun j hj => hm j (by omega) (by omega)) (by rw [hm 0 (by decide) (by omega)]; exact h.2.1.2.2.2.2.1) (fun s s0 s1 => ?_) (fun x x0 x1 => ?_) (fun j j0 j1 => by rw [hm j (by omega) (by omega)]; exact h.2.2.2.2 j j0 j1)
  · rw [h5] at s1
    by_cases hs : s = N 5
    · subst hs
      obtain ⟨m0, m1, m2, m3, m4, m5, m6, m7, m8, m9, m10⟩ := mkN_f (N := N) (k := k) (first := f) (nights := d) (adults := a) (children := c) (till := t) (group := g) (by omega)
      exact ⟨by rw [m2]; exact hf, fun _ => m6⟩
    · have e : ∀ j, 0 ≤ j → j < 24 → sF (mkN N k f d a c t g) s j = sF N s j := fun j j0 j1 => hm _ (by omega) (by omega)
      rw [e 2 (by decide) (by decide), e 0 (by decide) (by decide), e 6 (by decide) (by decide)]
      exact h.2.2.1 s s0 (by omega)
  · rw [h7] at x1
    have e : ∀ j, 0 ≤ j → j < 5 → gF (mkN N k f d a c t g) x j = gF N x j := fun j j0 j1 => hm _ (by omega) (by omega)
    rw [e 1 (by decide) (by decide), e 2 (by decide) (by decide)]
    exact h.2.2.2.1 x x0 x1
theorem LI_sh {a : Int} (h : LI n N) (h0 : 0 ≤ a) (h1 : a < N 7) : LI n (shG N (1496 + a * 5)) := by
  have hsc := h.1.1.1
  unfold iScal at hsc
  have e : ∀ j, j ≠ 7 → (j < 1496 + a * 5 ∨ 1596 ≤ j) → shG N (1496 + a * 5) j = N j := fun j j7 hj => shG_lo h0 j7 hj (by omega)
  refine LI_of h (INV_sh h.1 h0 h1) (fun j hj => e j (by omega) (by omega)) (by rw [e 0 (by decide) (by omega)]; exact h.2.1.2.2.2.2.1) (fun s s0 s1 => ?_) (fun x x0 x1 => ?_) (fun j j0 j1 => by rw [e j (by omega) (by omega)]; exact h.2.2.2.2 j j0 j1)
  · rw [e 5 (by decide) (by omega)] at s1
    have ef : ∀ j, 0 ≤ j → j < 24 → sF (shG N (1496 + a * 5)) s j = sF N s j := fun j j0 j1 => e _ (by omega) (by omega)
    rw [ef 2 (by decide) (by decide), ef 0 (by decide) (by decide), ef 6 (by decide) (by decide)]
    exact h.2.2.1 s s0 s1
  · rw [shG_7] at x1
    by_cases hx : x < a
    · have ef : ∀ j, 0 ≤ j → j < 5 → gF (shG N (1496 + a * 5)) x j = gF N x j := fun j j0 j1 => e _ (by omega) (by omega)
      rw [ef 1 (by decide) (by decide), ef 2 (by decide) (by decide)]
      exact h.2.2.2.1 x x0 (by omega)
    · rw [shG_f h0 (by omega) (by omega) (by decide) (by decide), shG_f h0 (by omega) (by omega) (by decide) (by decide)]
      exact h.2.2.2.1 (x + 1) (by omega) (by omega)
theorem LI_lkS (hn : 0 ≤ n) : ∀ (q : Nat) (M : gN0) (a m : Int), LI n M → 0 ≤ a → (q : Int) = M 7 - a → LI n (lkS q M a m).1 := by
  intro q
  induction q with
  | zero => intro M a m h _ _; exact h
  | succ q ih =>
    intro M a m h ha hq
    have hk : a < M 7 := by omega
    have hsc := h.1.1.1
    unfold iScal at hsc
    have hg := h.1.1.2.2.2.2 a ha hk
    unfold gOk gF at hg
    rw [Int.add_zero] at hg
    have hgl := h.2.2.2.1 a ha hk
    unfold gF at hgl
    rw [lkS, if_pos hk]
    by_cases h1 : M (1496 + a * 5 + 1) < M 0
    · rw [if_pos h1]
      exact ih _ _ _ (LI_sh h ha hk) ha (by rw [shG_7]; omega)
    · rw [if_neg h1]
      by_cases h2 : M 5 < 60 ∧ rfd M (M (1496 + a * 5)) (M (1496 + a * 5 + 1)) (M (1496 + a * 5 + 2)) = -1
      · rw [if_pos h2]
        have hh := rfd_had (N := M) h2.2 (by omega) (by omega)
        have hL := LI_mk (a := M (1496 + a * 5 + 3)) (c := M (1496 + a * 5 + 4)) (t := M (1496 + a * 5 + 1)) (g := -1) h (by unfold mkOk; omega) hh.1 (by omega)
        have h7 : mkN M (M (1496 + a * 5)) (M (1496 + a * 5 + 1)) (M (1496 + a * 5 + 2)) (M (1496 + a * 5 + 3)) (M (1496 + a * 5 + 4)) (M (1496 + a * 5 + 1)) (-1) 7 = M 7 := mkN_old (by omega) (by omega) (by omega) (by decide) (by omega)
        exact ih _ _ _ (LI_sh hL ha (by omega)) ha (by rw [shG_7, h7]; omega)
      · rw [if_neg h2]
        exact ih _ _ _ h (by omega) (by omega)
theorem LI_lk (hn : 0 ≤ n) (h : LI n N) : LI n (lk N).1 := by
  have hsc := h.1.1.1
  unfold iScal at hsc
  exact LI_lkS hn _ _ _ _ h (Int.le_refl _) (by omega)
/-- one stay another, and the books -/
theorem LI_T {s : Int} (h : LI n N) (hI : INV M) (ha : AgT N M s) (h0 : 0 ≤ s) (h1 : s < N 5) (hs : sF M s 2 ≤ 8829 + n ∧ (sF M s 0 = 0 → sF M s 6 = 0)) : LI n M := by
  have hsc := h.1.1.1
  unfold iScal at hsc
  have e : ∀ j, (j < 56 + s * 24 ∨ 56 + s * 24 + 24 ≤ j) → (j < 9 ∨ 12 < j) → M j = N j := ha
  refine LI_of h hI (fun j hj => e j (by omega) (by omega)) (by rw [e 0 (by omega) (by omega)]; exact h.2.1.2.2.2.2.1) (fun t t0 t1 => ?_) (fun x x0 x1 => ?_) (fun j j0 j1 => by rw [e j (by omega) (by omega)]; exact h.2.2.2.2 j j0 j1)
  · rw [e 5 (by omega) (by omega)] at t1
    by_cases ht : t = s
    · rw [ht]; exact hs
    · have ef : ∀ j, 0 ≤ j → j < 24 → sF M t j = sF N t j := fun j j0 j1 => e _ (by omega) (by omega)
      rw [ef 2 (by decide) (by decide), ef 0 (by decide) (by decide), ef 6 (by decide) (by decide)]
      exact h.2.2.1 t t0 t1
  · rw [e 7 (by omega) (by omega)] at x1
    have ef : ∀ j, 0 ≤ j → j < 5 → gF M x j = gF N x j := fun j j0 j1 => e _ (by omega) (by omega)
    rw [ef 1 (by decide) (by decide), ef 2 (by decide) (by decide)]
    exact h.2.2.2.1 x x0 x1
/-- numbers that nobody tells here -/
theorem LI_up {i x : Int} (h : LI n N) (hI : INV (upN N i x)) (hi : i = 3 ∨ i = 4 ∨ i = 6 ∨ i = 8 ∨ i = 33 ∨ i = 36) : LI n (upN N i x) := by
  have hsc := h.1.1.1
  unfold iScal at hsc
  have e : ∀ j, j ≠ i → upN N i x j = N j := fun j hj => upN_ne hj
  refine LI_of h hI (fun j hj => e j (by omega)) (by rw [e 0 (by omega)]; exact h.2.1.2.2.2.2.1) (fun t t0 t1 => ?_) (fun y y0 y1 => ?_) (fun j j0 j1 => by rw [e j (by omega)]; exact h.2.2.2.2 j j0 j1)
  · rw [e 5 (by omega)] at t1
    have ef : ∀ j, 0 ≤ j → j < 24 → sF (upN N i x) t j = sF N t j := fun j j0 j1 => e _ (by omega)
    rw [ef 2 (by decide) (by decide), ef 0 (by decide) (by decide), ef 6 (by decide) (by decide)]
    exact h.2.2.1 t t0 t1
  · rw [e 7 (by omega)] at y1
    have ef : ∀ j, 0 ≤ j → j < 5 → gF (upN N i x) y j = gF N y j := fun j j0 j1 => e _ (by omega)
    rw [ef 1 (by decide) (by decide), ef 2 (by decide) (by decide)]
    exact h.2.2.2.1 y y0 y1
theorem LI_cl {k d cl : Int} (h : LI n N) (h0 : 0 ≤ k) (h1 : 0 ≤ d) : LI n (clN N k d cl) := by
  have hsc := h.1.1.1
  unfold iScal at hsc
  have e : ∀ j, j < 1596 → clN N k d cl j = N j := fun j hj => upN_ne (by omega)
  refine LI_of h (clN_inv h.1 h0 h1) (fun j hj => e j (by omega)) (by rw [e 0 (by omega)]; exact h.2.1.2.2.2.2.1) (fun t t0 t1 => ?_) (fun y y0 y1 => ?_) (fun j j0 j1 => ?_)
  · rw [e 5 (by omega)] at t1
    have ef : ∀ j, 0 ≤ j → j < 24 → sF (clN N k d cl) t j = sF N t j := fun j j0 j1 => e _ (by omega)
    rw [ef 2 (by decide) (by decide), ef 0 (by decide) (by decide), ef 6 (by decide) (by decide)]
    exact h.2.2.1 t t0 t1
  · rw [e 7 (by omega)] at y1
    have ef : ∀ j, 0 ≤ j → j < 5 → gF (clN N k d cl) y j = gF N y j := fun j j0 j1 => e _ (by omega)
    rw [ef 1 (by decide) (by decide), ef 2 (by decide) (by decide)]
    exact h.2.2.2.1 y y0 y1
  · unfold clN
    by_cases hj : j = 1596 + k * 1142 + d / 32
    · rw [hj, upN_eq]; exact cbW_in _ _ _
    · rw [upN_ne hj]; exact h.2.2.2.2 j j0 j1
theorem LI_wa {k d c a b : Int} (h : LI n N) (hI : INV (waN N k d c a b)) (h7 : N 7 < 20) (hd : d ≤ 8827 + n) (hc : c ≤ 3) : LI n (waN N k d c a b) := by
  have hsc := h.1.1.1
  unfold iScal at hsc
  have e : ∀ j, j ≠ 7 → (j < 1496 + N 7 * 5 ∨ 1496 + N 7 * 5 + 5 ≤ j) → waN N k d c a b j = N j := fun j j7 hj => by
    unfold waN
    rw [upN_ne (by omega), upN_ne (by omega), upN_ne (by omega), upN_ne (by omega), upN_ne (by omega), upN_ne (by omega)]
  have e7 : waN N k d c a b 7 = N 7 + 1 := by unfold waN; rw [upN_eq]
  refine LI_of h hI (fun j hj => e j (by omega) (by omega)) (by rw [e 0 (by omega) (by omega)]; exact h.2.1.2.2.2.2.1) (fun t t0 t1 => ?_) (fun y y0 y1 => ?_) (fun j j0 j1 => by rw [e j (by omega) (by omega)]; exact h.2.2.2.2 j j0 j1)
  · rw [e 5 (by omega) (by omega)] at t1
    have ef : ∀ j, 0 ≤ j → j < 24 → sF (waN N k d c a b) t j = sF N t j := fun j j0 j1 => e _ (by omega) (by omega)
    rw [ef 2 (by decide) (by decide), ef 0 (by decide) (by decide), ef 6 (by decide) (by decide)]
    exact h.2.2.1 t t0 t1
  · rw [e7] at y1
    by_cases hy : y = N 7
    · subst hy
      have e1 : gF (waN N k d c a b) (N 7) 1 = d := by
        show waN N k d c a b (1496 + N 7 * 5 + 1) = d
        unfold waN
        rw [upN_ne (by omega), upN_ne (by omega), upN_ne (by omega), upN_ne (by omega), upN_eq]
      have e2 : gF (waN N k d c a b) (N 7) 2 = c := by
        show waN N k d c a b (1496 + N 7 * 5 + 2) = c
        unfold waN
        rw [upN_ne (by omega), upN_ne (by omega), upN_ne (by omega), upN_eq]
      rw [e1, e2]
      exact ⟨hd, hc⟩
    · have ef : ∀ j, 0 ≤ j → j < 5 → gF (waN N k d c a b) y j = gF N y j := fun j j0 j1 => e _ (by omega) (by omega)
      rw [ef 1 (by decide) (by decide), ef 2 (by decide) (by decide)]
      exact h.2.2.2.1 y y0 (by omega)
end LIS
