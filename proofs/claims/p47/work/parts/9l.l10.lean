/-! a stay paid, cancelled, longer, shorter (laid by wip/p47/l10.py) -/
theorem LW_k {q w r i x : Int} {N K : gN0} {Sh : gSh} {V V' : gV} (h20 : N 7 ≤ 20) (hB : LB q w K Sh V) (e : V' = up V r i x) (hr : (w ≤ r ∧ r < w + 130) ∨ r = w + 151) (H : LW q w N V) : LW q w N V' := by
  have hqw := hB.a0
  have eo : ∀ a, a ≠ r → V' a = V a := fun a ha => by rw [e]; exact up_row _ _ _ ha
  exact LW_ag rfl h20 (fun _ _ _ => rfl) hB.2.2.2.2.1 (by rw [eo q (by omega)]) (eo _ (by omega)) (fun p hp => eo p (by rcases hp.2 with h | h <;> omega)) H
theorem LW_N {q w : Int} {N M : gN0} {V : gV} (h7 : M 7 = N 7) (h20 : N 7 ≤ 20) (hN : ∀ j, 1496 ≤ j → j < 1596 → M j = N j) (H : LW q w N V) : LW q w M V := by
  refine ⟨H.1.trans h7.symm, fun g g0 g1 => ?_⟩
  rw [h7] at g1
  exact gsL_ag (fun j j0 j1 => hN _ (by omega) (by omega)) rfl (H.2 g g0 g1)
theorem LW_T {q w s : Int} {N M : gN0} {V : gV} (ha : AgT N M s) (h0 : 0 ≤ s) (h1 : s < 60) (h20 : N 7 ≤ 20) (H : LW q w N V) : LW q w M V := LW_N (ha 7 (by omega) (by omega)) h20 (fun j _ _ => ha j (by omega) (by omega)) H
theorem payN_eq (N : gN0) {s : Int} (h0 : 0 ≤ s) : upN (upN (upN (upN N (56 + s * 24 + 6) (dpO N s)) (56 + s * 24 + 0) 1) (9 + 0) (N 9 - dpO N s)) (9 + 1) (N 10 + dpO N s) = payN N s := by
  funext j
  unfold payN mvN
  generalize dpO N s = d
  simp only [upN, Int.reduceAdd]
  repeat' split
  all_goals first | omega | (exfalso; omega) | rfl
theorem pay9f (N : gN0) {s : Int} (h0 : 0 ≤ s) : sF (payN N s) s 6 = dpO N s ∧ sF (payN N s) s 0 = 1 ∧ sF (payN N s) s 2 = sF N s 2 := by
  unfold payN mvN
  refine ⟨?_, ?_, ?_⟩
  · show upN _ _ _ (56 + s * 24 + 6) = _
    rw [upN_ne (by omega), upN_ne (by omega), upN_eq]
  · show upN _ _ _ (56 + s * 24 + 0) = _
    rw [upN_ne (by omega), upN_ne (by omega), upN_ne (by omega), upN_eq]
  · show upN _ _ _ (56 + s * 24 + 2) = N (56 + s * 24 + 2)
    rw [upN_ne (by omega), upN_ne (by omega), upN_ne (by omega), upN_ne (by omega)]
theorem LI_pay {n s : Int} {N : gN0} (h : LI n N) (h0 : 0 ≤ s) (h1 : s < N 5) (ha : sF N s 0 = 0) : LI n (payN N s) := by
  have hp := pay9f N h0
  exact LI_T h (pay_inv h.1 h0 h1 ha) (payN_ag' N) h0 h1 ⟨by rw [hp.2.2]; exact (h.2.2.1 s h0 h1).1, fun q => by rw [hp.2.1] at q; exact absurd q (by decide)⟩
theorem caN_eq {N : gN0} {s : Int} (h0 : 0 ≤ s) (ha : sF N s 0 = 0 ∨ sF N s 0 = 1) (h6 : sF N s 0 = 0 → sF N s 6 = 0) : upN (upN (upN (upN N (9 + 1) (N 10 - sF N s 6)) (9 + 0) (N 9 + rfO N s)) (9 + 2) (N 11 + (sF N s 6 - rfO N s))) (56 + s * 24 + 0) 2 = caN N s := by
  unfold caN
  have hr : sF N s 0 ≠ 1 → rfO N s = 0 := fun h => by unfold rfO; rw [if_pos (Or.inl h)]
  funext j
  by_cases hj : j = 56 + s * 24 + 0
  · subst hj; rw [upN_eq, upN_eq]
  · rw [upN_ne hj, upN_ne hj]
    by_cases h1 : sF N s 0 = 1
    · rw [if_pos h1]
      unfold mvN
      generalize rfO N s = r
      generalize sF N s 6 = d
      by_cases a : j = 9
      · subst a; simp [upN]
      · by_cases b : j = 10
        · subst b; simp [upN]; omega
        · by_cases c : j = 11
          · subst c; simp [upN]
          · simp [upN, a, b, c]
    · rw [if_neg h1, hr h1, h6 (by omega)]
      by_cases a : j = 9
      · subst a; simp [upN]
      · by_cases b : j = 10
        · subst b; simp [upN]
        · by_cases c : j = 11
          · subst c; simp [upN]
          · simp [upN, a, b, c]
theorem caN_ag {N : gN0} {s : Int} : AgT N (caN N s) s := fun j h1 h2 => by
  unfold caN
  rw [upN_ne (by omega)]
  split
  · unfold mvN; rw [upN_ne (by omega), upN_ne (by omega), upN_ne (by omega), upN_ne (by omega)]
  · rfl
theorem caN_2 {N : gN0} {s : Int} (h0 : 0 ≤ s) : sF (caN N s) s 2 = sF N s 2 ∧ sF (caN N s) s 0 = 2 := by
  refine ⟨?_, upN_eq _ _ _⟩
  show caN N s (56 + s * 24 + 2) = N (56 + s * 24 + 2)
  unfold caN
  rw [upN_ne (by omega)]
  split
  · unfold mvN; rw [upN_ne (by omega), upN_ne (by omega), upN_ne (by omega), upN_ne (by omega)]
  · rfl
theorem LI_ca {n s : Int} {N : gN0} (h : LI n N) (h0 : 0 ≤ s) (h1 : s < N 5) (ha : sF N s 0 = 0 ∨ sF N s 0 = 1) : LI n (caN N s) := by
  have hp := caN_2 (N := N) h0
  exact LI_T h (caN_inv h.1 h0 h1 ha) caN_ag h0 h1 ⟨by rw [hp.1]; exact (h.2.2.1 s h0 h1).1, fun q => by rw [hp.2] at q; exact absurd q (by decide)⟩
theorem LI_lo {n s m : Int} {N : gN0} (h : LI n N) (h0 : 0 ≤ s) (h1 : s < N 5) (hn0 : 1 ≤ m) (hn : sF N s 3 + m ≤ 14) (he : sF N s 2 + sF N s 3 - 1 + m < 36525) (hh : ∀ i : Int, 0 ≤ i → i < m → cnt N (sF N s 1) (sF N s 2 + sF N s 3 + i) < kF N (sF N s 1) 0 + kF N (sF N s 1) 2) : LI n (loN N s m) := by
  have h3 := (h.1.1.2.2.2.1 s h0 h1).1
  have e : ∀ j, 0 ≤ j → j < 10 → j ≠ 3 → sF (loN N s m) s j = sF N s j := fun j j0 j1 j3 => by
    show loN N s m _ = N _
    unfold loN
    rw [upN_ne (by omega), prP_ne _ _ _ (by omega)]
  exact LI_T h (loN_inv h.1 h0 h1 hn0 hn he hh) (loN_ag (by omega) hn) h0 h1 ⟨by rw [e 2 (by decide) (by decide) (by decide)]; exact (h.2.2.1 s h0 h1).1, fun q => by rw [e 0 (by decide) (by decide) (by decide)] at q; rw [e 6 (by decide) (by decide) (by decide)]; exact (h.2.2.1 s h0 h1).2 q⟩
theorem LI_sr {n s m : Int} {N : gN0} (h : LI n N) (h0 : 0 ≤ s) (h1 : s < N 5) (hn0 : 1 ≤ m) (hn : m < sF N s 3) : LI n (shN N s m) := by
  have e : ∀ j, j ≠ 3 → sF (shN N s m) s j = sF N s j := fun j j3 => upN_ne (by omega)
  exact LI_T h (shN_inv h.1 h0 h1 hn0 hn) (fun j hj _ => upN_ne (by omega)) h0 h1 ⟨by rw [e 2 (by decide)]; exact (h.2.2.1 s h0 h1).1, fun q => by rw [e 0 (by decide)] at q; rw [e 6 (by decide)]; exact (h.2.2.1 s h0 h1).2 q⟩
/-- more nights: the prices lie there already -/
theorem LB_lo {q w s m : Int} {N : gN0} {Sh : gSh} {V V' : gV} (h60 : N 5 ≤ 60) (H : LB q w N Sh V) (e : V' = up V (w + 9 + s) 3 (sF N s 3 + m)) (s0 : 0 ≤ s) (s1 : s < N 5) (m0 : 0 ≤ m) (hm : sF N s 3 + m ≤ 14) (hp : ∀ i, 0 ≤ i → i < m → V (w + 70 + s) (sF N s 3 + i) = nPr N (sF N s 1) (sF N s 2 + sF N s 3 + i)) (h3 : ∀ s, 0 ≤ s → s < N 5 → 0 ≤ sF N s 3 ∧ sF N s 3 ≤ 14) : LB q w (loN N s m) Sh V' := by
  have hs3 := h3 s s0 s1
  have en : ∀ j, 0 ≤ j → j < 10 → j ≠ 3 → sF (loN N s m) s j = sF N s j := fun j j0 j1 j3 => by
    show loN N s m _ = N _
    unfold loN
    rw [upN_ne (by omega), prP_ne _ _ _ (by omega)]
  have e3 : sF (loN N s m) s 3 = sF N s 3 + m := upN_eq _ _ _
  have ev : ∀ j, j ≠ 3 → V' (w + 9 + s) j = V (w + 9 + s) j := fun j hj => by rw [e]; exact up_ne _ _ (Or.inr hj)
  have hl := H.t s0 s1
  refine LB_ts h60 H e s0 s1 (fun j hj => ?_) ?_ (fun i i0 i1 => ?_) h3
  · unfold loN; rw [upN_ne (by omega), prP_ne _ _ _ (by omega)]
  · have hpn : pNt (loN N s m) s = pNt N s := by unfold pNt; rw [en 4 (by decide) (by decide) (by decide), en 5 (by decide) (by decide) (by decide), en 7 (by decide) (by decide) (by decide)]
    unfold stL at hl ⊢
    rw [hpn, e3, en 0 (by decide) (by decide) (by decide), en 1 (by decide) (by decide) (by decide), en 2 (by decide) (by decide) (by decide), en 4 (by decide) (by decide) (by decide), en 5 (by decide) (by decide) (by decide), en 6 (by decide) (by decide) (by decide), en 8 (by decide) (by decide) (by decide), en 9 (by decide) (by decide) (by decide)]
    rw [ev 0 (by decide), ev 1 (by decide), ev 2 (by decide), ev 4 (by decide), ev 5 (by decide), ev 6 (by decide), ev 7 (by decide), ev 8 (by decide), ev 9 (by decide), show V' (w + 9 + s) 3 = sF N s 3 + m by rw [e, up_eq]]
    exact ⟨hl.1, hl.2.1, hl.2.2.1, rfl, hl.2.2.2.2⟩
  · rw [e3] at i1
    show _ = loN N s m (56 + s * 24 + (10 + i))
    unfold loN
    rw [upN_ne (by omega)]
    by_cases hi : i < sF N s 3
    · rw [prP_ne _ _ _ (by omega)]; exact H.tp s0 s1 i0 hi
    · rw [prP_at _ _ _ (by omega), show sF N s 2 + sF N s 3 + (56 + s * 24 + (10 + i) - (56 + s * 24 + 10 + sF N s 3)) = sF N s 2 + sF N s 3 + (i - sF N s 3) by omega, ← hp (i - sF N s 3) (by omega) (by omega)]
      congr 1; omega
