section RG
variable {h : Int} {N : gN0} {Sh : gSh} {V V' : gV}
theorem bitZ_0 (j : Nat) : bitZ 0 j = 0 := by unfold bitZ; rw [Int.zero_ediv]; rfl
theorem RH_ak {r p : Int} (H : RH h N Sh V) (hz : szO N) (kz : KZ N) (h0 : 0 ≤ N 1) (h1 : N 1 < 3) (e : V' = up (rwV (rwV V (h + 132 + 2 * N 1) (rowL [r, p, 0]) 3) (h + 132 + 2 * N 1 + 1) (fun _ => 0) 571) h 2 (N 1 + 1)) :
    RH h (upN (upN (upN N (31 + N 1 * 3 + 0) r) (31 + N 1 * 3 + 1) p) 1 (N 1 + 1)) Sh V' := by
  obtain ⟨z1, z2, z5, z7, z26, zs⟩ := hz
  obtain ⟨a1, a2, a3, a4, a5, a6, a7, a8, a9, a10⟩ := H
  obtain ⟨b0, b1, b2, b3, b4, b5, b6, b7, b8⟩ := a3
  have eN : ∀ j, (j ≠ 1 ∧ j ≠ 31 + N 1 * 3 + 0 ∧ j ≠ 31 + N 1 * 3 + 1) → upN (upN (upN N (31 + N 1 * 3 + 0) r) (31 + N 1 * 3 + 1) p) 1 (N 1 + 1) j = N j := fun j hj => by rw [upN_ne hj.1, upN_ne hj.2.2, upN_ne hj.2.1]
  have er : ∀ a, a ≠ h → a ≠ h + 132 + 2 * N 1 → a ≠ h + 132 + 2 * N 1 + 1 → V' a = V a := fun a q1 q2 q3 => by rw [e, up_row _ _ _ q1, rwV_ne q3, rwV_ne q2]
  have ej : ∀ j, j ≠ 2 → V' h j = V h j := fun j hj => by rw [e, up_ne _ _ (Or.inr hj), rwV_ne (by omega), rwV_ne (by omega)]
  have es : V' (h + 4) 1 = V (h + 4) 1 := by rw [er _ (by omega) (by omega) (by omega)]
  have ev : ∀ j, 0 ≤ j → j < 3 → V' (h + 132 + 2 * N 1) j = rowL [r, p, 0] j := fun j j0 j1 => by rw [e, up_row _ _ _ (by omega), rwV_ne (by omega)]; exact rwV_at j0 j1
  have ec : ∀ j, 0 ≤ j → j < 571 → V' (h + 132 + 2 * N 1 + 1) j = 0 := fun j j0 j1 => by rw [e, up_row _ _ _ (by omega)]; exact rwV_at j0 j1
  have M1 : upN (upN (upN N (31 + N 1 * 3 + 0) r) (31 + N 1 * 3 + 1) p) 1 (N 1 + 1) 1 = N 1 + 1 := upN_eq _ _ _
  refine ⟨a1, ptH_ag a2 (fun c j hc => ?_), ⟨by rw [ej 0 (by decide), eN 0 (by omega)]; exact b0, by rw [ej 1 (by decide), eN 8 (by omega)]; exact b1, by rw [e, up_eq, M1], by rw [ej 3 (by decide), eN 2 (by omega)]; exact b3, by rw [ej 4 (by decide), eN 7 (by omega)]; exact b4, by rw [ej 5 (by decide), eN 6 (by omega)]; exact b5, by rw [ej 6 (by decide), eN 3 (by omega)]; exact b6, by rw [ej 7 (by decide), eN 4 (by omega)]; exact b7, by rw [es, eN 5 (by omega)]; exact b8⟩, fun k k0 k1 => ?_, vE_ag (eN 2 (by omega)) z2 (fun j x y => eN j (by omega)) (fun a x y => er a (by omega) (by omega) (by omega)) a5,
    vS_ag (eN 5 (by omega)) z5 zs (fun j x y => eN j (by omega)) (fun a x y => er a (by omega) (by omega) (by omega)) a6, vG_ag (eN 7 (by omega)) z7 (fun j x y => eN j (by omega)) (fun a x y => er a (by omega) (by omega) (by omega)) a7,
    vB_ag (fun j x y => eN j (by omega)) (er _ (by omega) (by omega) (by omega)) a8, vM_ag (fun j x y => eN j (by omega)) (er _ (by omega) (by omega) (by omega)) (er _ (by omega) (by omega) (by omega)) a9, vA_ag z26 (fun j x y => eN j (by omega)) (er _ (by omega) (by omega) (by omega)) (er _ (by omega) (by omega) (by omega)) a10⟩
  · unfold isPt at hc
    by_cases q1 : h + c = h + 132 + 2 * N 1
    · rw [q1, e, up_row _ _ _ (by omega), rwV_ne (by omega), rwV_far (by omega)]
    · by_cases q2 : c = 0
      · subst q2; rw [Int.add_zero]; exact ej j (by omega)
      · rw [er _ (by omega) q1 (by omega)]
  · rw [M1] at k1
    by_cases hk : k = N 1
    · subst hk
      obtain ⟨y1, y2⟩ := kz (N 1) (Int.le_refl _) h1
      refine ⟨⟨?_, ?_, ?_⟩, fun d d0 d1 => ?_⟩
      · rw [ev 0 (by decide) (by decide)]; unfold kF; rw [upN_ne (by omega), upN_ne (by omega), upN_eq]; rfl
      · rw [ev 1 (by decide) (by decide)]; unfold kF; rw [upN_ne (by omega), upN_eq]; rfl
      · rw [ev 2 (by decide) (by decide)]; unfold kF; rw [eN _ (by omega), y1]; rfl
      · rw [ec _ (by omega) (by omega), bitZ_0, eN _ (by omega), y2 _ (by omega) (by omega), bitZ_0]
    · obtain ⟨⟨x0, x1, x2⟩, x3⟩ := a4 k k0 (by omega)
      rw [er _ (by omega) (by omega) (by omega), er (h + 132 + 2 * k + 1) (by omega) (by omega) (by omega)]
      refine ⟨⟨?_, ?_, ?_⟩, fun d d0 d1 => ?_⟩
      · unfold kF at *; rw [eN _ (by omega)]; exact x0
      · unfold kF at *; rw [eN _ (by omega)]; exact x1
      · unfold kF at *; rw [eN _ (by omega)]; exact x2
      · rw [eN _ (by omega)]; exact x3 d d0 d1
theorem RH_as {x y pe le9 : Int} (H : RH h N Sh V) (hz : szO N) (h0 : 0 ≤ N 2) (h1 : N 2 < 4) (e : V' = up (rwV V (h + 138 + N 2) (rowL [x, y, pe, le9]) 4) h 3 (N 2 + 1)) :
    RH h (upN (upN (upN (upN (upN N (40 + N 2 * 4) x) (40 + N 2 * 4 + 1) y) (40 + N 2 * 4 + 2) pe) (40 + N 2 * 4 + 3) le9) 2 (N 2 + 1)) Sh V' := by
  obtain ⟨z1, z2, z5, z7, z26, zs⟩ := hz
  obtain ⟨a1, a2, a3, a4, a5, a6, a7, a8, a9, a10⟩ := H
  obtain ⟨b0, b1, b2, b3, b4, b5, b6, b7, b8⟩ := a3
  have eN : ∀ j, (j ≠ 2 ∧ (j < 40 + N 2 * 4 ∨ 40 + N 2 * 4 + 4 ≤ j)) → upN (upN (upN (upN (upN N (40 + N 2 * 4) x) (40 + N 2 * 4 + 1) y) (40 + N 2 * 4 + 2) pe) (40 + N 2 * 4 + 3) le9) 2 (N 2 + 1) j = N j := fun j hj => by rw [upN_ne hj.1, upN_ne (by omega), upN_ne (by omega), upN_ne (by omega), upN_ne (by omega)]
  have er : ∀ a, a ≠ h → a ≠ h + 138 + N 2 → V' a = V a := fun a q1 q2 => by rw [e, up_row _ _ _ q1, rwV_ne q2]
  have ej : ∀ j, j ≠ 3 → V' h j = V h j := fun j hj => by rw [e, up_ne _ _ (Or.inr hj), rwV_ne (by omega)]
  have es : V' (h + 4) 1 = V (h + 4) 1 := by rw [er _ (by omega) (by omega)]
  have ev : ∀ j, 0 ≤ j → j < 4 → V' (h + 138 + N 2) j = rowL [x, y, pe, le9] j := fun j j0 j1 => by rw [e, up_row _ _ _ (by omega)]; exact rwV_at j0 j1
  have M2 : upN (upN (upN (upN (upN N (40 + N 2 * 4) x) (40 + N 2 * 4 + 1) y) (40 + N 2 * 4 + 2) pe) (40 + N 2 * 4 + 3) le9) 2 (N 2 + 1) 2 = N 2 + 1 := upN_eq _ _ _
  refine ⟨a1, ptH_ag a2 (fun c j hc => ?_), ⟨by rw [ej 0 (by decide), eN 0 (by omega)]; exact b0, by rw [ej 1 (by decide), eN 8 (by omega)]; exact b1, by rw [ej 2 (by decide), eN 1 (by omega)]; exact b2, by rw [e, up_eq, M2], by rw [ej 4 (by decide), eN 7 (by omega)]; exact b4, by rw [ej 5 (by decide), eN 6 (by omega)]; exact b5, by rw [ej 6 (by decide), eN 3 (by omega)]; exact b6, by rw [ej 7 (by decide), eN 4 (by omega)]; exact b7, by rw [es, eN 5 (by omega)]; exact b8⟩, vK_ag (eN 1 (by omega)) z1 (fun j hj => eN j (by omega)) (fun a x y => er a (by omega) (by omega)) a4, fun i i0 i1 => ?_,
    vS_ag (eN 5 (by omega)) z5 zs (fun j x y => eN j (by omega)) (fun a x y => er a (by omega) (by omega)) a6, vG_ag (eN 7 (by omega)) z7 (fun j x y => eN j (by omega)) (fun a x y => er a (by omega) (by omega)) a7,
    vB_ag (fun j x y => eN j (by omega)) (er _ (by omega) (by omega)) a8, vM_ag (fun j x y => eN j (by omega)) (er _ (by omega) (by omega)) (er _ (by omega) (by omega)) a9, vA_ag z26 (fun j x y => eN j (by omega)) (er _ (by omega) (by omega)) (er _ (by omega) (by omega)) a10⟩
  · unfold isPt at hc
    by_cases q2 : c = 0
    · subst q2; rw [Int.add_zero]; exact ej j (by omega)
    · rw [er _ (by omega) (by omega)]
  · rw [M2] at i1
    by_cases hi : i = N 2
    · subst hi
      rw [ev 0 (by decide) (by decide), ev 1 (by decide) (by decide), ev 2 (by decide) (by decide), ev 3 (by decide) (by decide)]
      unfold seF
      refine ⟨?_, ?_, ?_, ?_⟩
      · rw [Int.add_zero, upN_ne (by omega), upN_ne (by omega), upN_ne (by omega), upN_ne (by omega), upN_eq]; rfl
      · rw [upN_ne (by omega), upN_ne (by omega), upN_ne (by omega), upN_eq]; rfl
      · rw [upN_ne (by omega), upN_ne (by omega), upN_eq]; rfl
      · rw [upN_ne (by omega), upN_eq]; rfl
    · have := a5 i i0 (by omega)
      rw [er _ (by omega) (by omega)]
      unfold seF at *
      rw [eN _ (by omega), eN _ (by omega), eN _ (by omega), eN _ (by omega)]
      exact this
theorem RH_wa {k d n a c w9 : Int} (H : RH h N Sh V) (hz : szO N) (h0 : 0 ≤ N 7) (h1 : N 7 < 20) (w0 : V w9 0 = k) (w1 : V w9 1 = d) (w2 : V w9 2 = n) (w3 : V w9 3 = a) (w4 : V w9 4 = c) (e : V' = up (rwV V (h + 142 + N 7) (V w9) 5) h 4 (N 7 + 1)) : RH h (waN N k d n a c) Sh V' := by
  obtain ⟨z1, z2, z5, z7, z26, zs⟩ := hz
  obtain ⟨a1, a2, a3, a4, a5, a6, a7, a8, a9, a10⟩ := H
  obtain ⟨b0, b1, b2, b3, b4, b5, b6, b7, b8⟩ := a3
  have eN : ∀ j, (j ≠ 7 ∧ (j < 1496 + N 7 * 5 ∨ 1496 + N 7 * 5 + 5 ≤ j)) → waN N k d n a c j = N j := fun j hj => by unfold waN; rw [upN_ne hj.1, upN_ne (by omega), upN_ne (by omega), upN_ne (by omega), upN_ne (by omega), upN_ne (by omega)]
  have er : ∀ b, b ≠ h → b ≠ h + 142 + N 7 → V' b = V b := fun b q1 q2 => by rw [e, up_row _ _ _ q1, rwV_ne q2]
  have ej : ∀ j, j ≠ 4 → V' h j = V h j := fun j hj => by rw [e, up_ne _ _ (Or.inr hj), rwV_ne (by omega)]
  have es : V' (h + 4) 1 = V (h + 4) 1 := by rw [er _ (by omega) (by omega)]
  have ev : ∀ j, 0 ≤ j → j < 5 → V' (h + 142 + N 7) j = V w9 j := fun j j0 j1 => by rw [e, up_row _ _ _ (by omega)]; exact rwV_at j0 j1
  have M7 : waN N k d n a c 7 = N 7 + 1 := upN_eq _ _ _
  refine ⟨a1, ptH_ag a2 (fun c j hc => ?_), ⟨by rw [ej 0 (by decide), eN 0 (by omega)]; exact b0, by rw [ej 1 (by decide), eN 8 (by omega)]; exact b1, by rw [ej 2 (by decide), eN 1 (by omega)]; exact b2, by rw [ej 3 (by decide), eN 2 (by omega)]; exact b3, by rw [e, up_eq, M7], by rw [ej 5 (by decide), eN 6 (by omega)]; exact b5, by rw [ej 6 (by decide), eN 3 (by omega)]; exact b6, by rw [ej 7 (by decide), eN 4 (by omega)]; exact b7, by rw [es, eN 5 (by omega)]; exact b8⟩, vK_ag (eN 1 (by omega)) z1 (fun j hj => eN j (by omega)) (fun a x y => er a (by omega) (by omega)) a4, vE_ag (eN 2 (by omega)) z2 (fun j x y => eN j (by omega)) (fun a x y => er a (by omega) (by omega)) a5,
    vS_ag (eN 5 (by omega)) z5 zs (fun j x y => eN j (by omega)) (fun a x y => er a (by omega) (by omega)) a6, fun g g0 g1 => ?_,
    vB_ag (fun j x y => eN j (by omega)) (er _ (by omega) (by omega)) a8, vM_ag (fun j x y => eN j (by omega)) (er _ (by omega) (by omega)) (er _ (by omega) (by omega)) a9, vA_ag z26 (fun j x y => eN j (by omega)) (er _ (by omega) (by omega)) (er _ (by omega) (by omega)) a10⟩
  · unfold isPt at hc
    by_cases q2 : c = 0
    · subst q2; rw [Int.add_zero]; exact ej j (by omega)
    · rw [er _ (by omega) (by omega)]
  · rw [M7] at g1
    by_cases hg : g = N 7
    · subst hg
      rw [ev 0 (by decide) (by decide), ev 1 (by decide) (by decide), ev 2 (by decide) (by decide), ev 3 (by decide) (by decide), ev 4 (by decide) (by decide), w0, w1, w2, w3, w4]
      unfold gF waN
      refine ⟨?_, ?_, ?_, ?_, ?_⟩
      · rw [Int.add_zero, upN_ne (by omega), upN_ne (by omega), upN_ne (by omega), upN_ne (by omega), upN_ne (by omega), upN_eq]
      · rw [upN_ne (by omega), upN_ne (by omega), upN_ne (by omega), upN_ne (by omega), upN_eq]
      · rw [upN_ne (by omega), upN_ne (by omega), upN_ne (by omega), upN_eq]
      · rw [upN_ne (by omega), upN_ne (by omega), upN_eq]
      · rw [upN_ne (by omega), upN_eq]
    · have := a7 g g0 (by omega)
      rw [er _ (by omega) (by omega)]
      unfold gF at *
      rw [eN _ (by omega), eN _ (by omega), eN _ (by omega), eN _ (by omega), eN _ (by omega)]
      exact this
theorem RH_ex {k x : Int} (H : RH h N Sh V) (hz : szO N) (h0 : 0 ≤ k) (h1 : k < N 1) (e : V' = up V (h + 132 + 2 * k) 2 x) : RH h (upN N (31 + k * 3 + 2) x) Sh V' := by
  obtain ⟨z1, z2, z5, z7, z26, zs⟩ := hz
  obtain ⟨a1, a2, a3, a4, a5, a6, a7, a8, a9, a10⟩ := H
  obtain ⟨b0, b1, b2, b3, b4, b5, b6, b7, b8⟩ := a3
  have eN : ∀ j, j ≠ 31 + k * 3 + 2 → upN N (31 + k * 3 + 2) x j = N j := fun j hj => upN_ne hj
  have er : ∀ b, b ≠ h + 132 + 2 * k → V' b = V b := fun b q1 => by rw [e, up_row _ _ _ q1]
  have ej : ∀ j, j ≠ 100 → V' h j = V h j := fun j _ => by rw [er _ (by omega)]
  have es : V' (h + 4) 1 = V (h + 4) 1 := by rw [er _ (by omega)]
  refine ⟨a1, ptH_ag a2 (fun c j hc => by rw [e, up_ne _ _ (by unfold isPt at hc; omega)]), ⟨by rw [ej 0 (by decide), eN 0 (by omega)]; exact b0, by rw [ej 1 (by decide), eN 8 (by omega)]; exact b1, by rw [ej 2 (by decide), eN 1 (by omega)]; exact b2, by rw [ej 3 (by decide), eN 2 (by omega)]; exact b3, by rw [ej 4 (by decide), eN 7 (by omega)]; exact b4, by rw [ej 5 (by decide), eN 6 (by omega)]; exact b5, by rw [ej 6 (by decide), eN 3 (by omega)]; exact b6, by rw [ej 7 (by decide), eN 4 (by omega)]; exact b7, by rw [es, eN 5 (by omega)]; exact b8⟩, fun t t0 t1 => ?_, vE_ag (eN 2 (by omega)) z2 (fun j x y => eN j (by omega)) (fun a x y => er a (by omega)) a5,
    vS_ag (eN 5 (by omega)) z5 zs (fun j x y => eN j (by omega)) (fun a x y => er a (by omega)) a6, vG_ag (eN 7 (by omega)) z7 (fun j x y => eN j (by omega)) (fun a x y => er a (by omega)) a7,
    vB_ag (fun j x y => eN j (by omega)) (er _ (by omega)) a8, vM_ag (fun j x y => eN j (by omega)) (er _ (by omega)) (er _ (by omega)) a9, vA_ag z26 (fun j x y => eN j (by omega)) (er _ (by omega)) (er _ (by omega)) a10⟩
  rw [eN 1 (by omega)] at t1
  obtain ⟨⟨x0, x1, x2⟩, x3⟩ := a4 t t0 t1
  have e3 : V' (h + 132 + 2 * t + 1) = V (h + 132 + 2 * t + 1) := er _ (by omega)
  refine ⟨⟨?_, ?_, ?_⟩, fun d d0 d1 => ?_⟩
  · rw [e, up_ne _ _ (Or.inr (by decide)), x0]; unfold kF; exact (eN _ (by omega)).symm
  · rw [e, up_ne _ _ (Or.inr (by decide)), x1]; unfold kF; exact (eN _ (by omega)).symm
  · by_cases ht : t = k
    · subst ht; rw [e, up_eq]; exact (upN_eq _ _ _).symm
    · rw [er _ (by omega), x2]; unfold kF; exact (eN _ (by omega)).symm
  · rw [e3, eN _ (by omega)]; exact x3 d d0 d1
theorem RH_cl {k d cl : Int} (H : RH h N Sh V) (hz : szO N) (h0 : 0 ≤ k) (h1 : k < N 1) (d0 : 0 ≤ d) (d1 : d < 36525) (hc : cl = 0 ∨ cl = 1) (hN : inI (N (1596 + k * 1142 + d / 32))) (hV : inL (V (h + 132 + 2 * k + 1) (d / 64))) (e : V' = up V (h + 132 + 2 * k + 1) (d / 64) (cbL (V (h + 132 + 2 * k + 1) (d / 64)) (d % 64) cl)) : RH h (clN N k d cl) Sh V' := by
  obtain ⟨z1, z2, z5, z7, z26, zs⟩ := hz
  obtain ⟨a1, a2, a3, a4, a5, a6, a7, a8, a9, a10⟩ := H
  obtain ⟨b0, b1, b2, b3, b4, b5, b6, b7, b8⟩ := a3
  have eN : ∀ j, j ≠ 1596 + k * 1142 + d / 32 → clN N k d cl j = N j := fun j hj => upN_ne hj
  have er : ∀ b, b ≠ h + 132 + 2 * k + 1 → V' b = V b := fun b q1 => by rw [e, up_row _ _ _ q1]
  have ej : ∀ j, j ≠ 100 → V' h j = V h j := fun j _ => by rw [er _ (by omega)]
  have es : V' (h + 4) 1 = V (h + 4) 1 := by rw [er _ (by omega)]
  refine ⟨a1, ptH_ag a2 (fun c j hc => by rw [e, up_ne _ _ (by unfold isPt at hc; omega)]), ⟨by rw [ej 0 (by decide), eN 0 (by omega)]; exact b0, by rw [ej 1 (by decide), eN 8 (by omega)]; exact b1, by rw [ej 2 (by decide), eN 1 (by omega)]; exact b2, by rw [ej 3 (by decide), eN 2 (by omega)]; exact b3, by rw [ej 4 (by decide), eN 7 (by omega)]; exact b4, by rw [ej 5 (by decide), eN 6 (by omega)]; exact b5, by rw [ej 6 (by decide), eN 3 (by omega)]; exact b6, by rw [ej 7 (by decide), eN 4 (by omega)]; exact b7, by rw [es, eN 5 (by omega)]; exact b8⟩, fun t t0 t1 => ?_, vE_ag (eN 2 (by omega)) z2 (fun j x y => eN j (by omega)) (fun a x y => er a (by omega)) a5,
    vS_ag (eN 5 (by omega)) z5 zs (fun j x y => eN j (by omega)) (fun a x y => er a (by omega)) a6, vG_ag (eN 7 (by omega)) z7 (fun j x y => eN j (by omega)) (fun a x y => er a (by omega)) a7,
    vB_ag (fun j x y => eN j (by omega)) (er _ (by omega)) a8, vM_ag (fun j x y => eN j (by omega)) (er _ (by omega)) (er _ (by omega)) a9, vA_ag z26 (fun j x y => eN j (by omega)) (er _ (by omega)) (er _ (by omega)) a10⟩
  rw [eN 1 (by omega)] at t1
  obtain ⟨⟨x0, x1, x2⟩, x3⟩ := a4 t t0 t1
  rw [er (h + 132 + 2 * t) (by omega)]
  refine ⟨⟨?_, ?_, ?_⟩, fun f f0 f1 => ?_⟩
  · rw [x0]; unfold kF; exact (eN _ (by omega)).symm
  · rw [x1]; unfold kF; exact (eN _ (by omega)).symm
  · rw [x2]; unfold kF; exact (eN _ (by omega)).symm
  by_cases ht : t = k
  · subst ht
    have y := x3 f f0 f1
    by_cases q1 : f / 64 = d / 64
    · rw [e, q1, up_eq, cbL_bit cl hV (by omega) (by omega) (by omega)]
      rw [q1] at y
      by_cases q2 : f = d
      · rw [if_pos (by omega), q2]
        unfold clN
        rw [upN_eq, cbW_bit cl hN (by omega) (by omega) (by omega), if_pos (show (((d % 32).toNat : Nat) : Int) = d % 32 by omega)]
      · rw [if_neg (by omega), y]
        by_cases q3 : f / 32 = d / 32
        · unfold clN
          rw [q3, upN_eq, cbW_bit cl hN (by omega) (by omega) (by omega), if_neg (by omega)]
        · rw [eN _ (by omega)]
    · rw [e, up_ne _ _ (Or.inr q1), y, eN _ (by omega)]
  · rw [er _ (by omega), eN _ (by omega)]
    exact x3 f f0 f1
theorem RH_sw {x y : Int} (H : RH h N Sh V) (hz : szO N) (e : V' = up (up V h 6 x) h 7 y) : RH h (upN (upN N 3 x) 4 y) Sh V' := by
  subst e
  have ej : ∀ j, j ≠ 6 → j ≠ 7 → up (up V h 6 x) h 7 y h j = V h j := fun j h6 h7 => by rw [up_ne _ _ (Or.inr h7), up_ne _ _ (Or.inr h6)]
  have eN : ∀ j, j ≠ 3 → j ≠ 4 → upN (upN N 3 x) 4 y j = N j := fun j h3 h4 => by rw [upN_ne h4, upN_ne h3]
  refine RH_H H hz (fun j hj => eN j (by omega) (by omega)) (eN 1 (by decide) (by decide)) (eN 2 (by decide) (by decide)) (eN 5 (by decide) (by decide)) (eN 7 (by decide) (by decide)) (fun a ha => by rw [up_row _ _ _ ha, up_row _ _ _ ha]) (fun j x _ => ej j (by omega) (by omega)) ?_ ?_ ?_ ?_ ?_ ?_ ?_ ?_
  · rw [ej 0 (by decide) (by decide), eN 0 (by decide) (by decide)]; exact H.t0
  · rw [ej 1 (by decide) (by decide), eN 8 (by decide) (by decide)]; exact H.t1
  · rw [ej 2 (by decide) (by decide), eN 1 (by decide) (by decide)]; exact H.t2
  · rw [ej 3 (by decide) (by decide), eN 2 (by decide) (by decide)]; exact H.t3
  · rw [ej 4 (by decide) (by decide), eN 7 (by decide) (by decide)]; exact H.t4
  · rw [ej 5 (by decide) (by decide), eN 6 (by decide) (by decide)]; exact H.t5
  · rw [up_ne _ _ (Or.inr (by decide)), up_eq, upN_ne (by decide), upN_eq]
  · rw [up_eq, upN_eq]
/-- the market, the sale alone -/
theorem RH_ma {M : gN0} (H : RH h N Sh V) (hz : szO N) (hN : ∀ j, (j < 13 ∨ 31 ≤ j) → M j = N j) (er : ∀ b, b ≠ h + 128 → b ≠ h + 129 → b ≠ h + 130 → b ≠ h + 131 → V' b = V b) (e6 : V' (h + 130) 6 = V (h + 130) 6) (gM : vM h M V') (gA : vA h M V') : RH h M Sh V' := by
  obtain ⟨z1, z2, z5, z7, z26, zs⟩ := hz
  obtain ⟨a1, a2, a3, a4, a5, a6, a7, a8, a9, a10⟩ := H
  obtain ⟨b0, b1, b2, b3, b4, b5, b6, b7, b8⟩ := a3
  have eN := hN
  have ej : ∀ j, j ≠ 100 → V' h j = V h j := fun j _ => by rw [er _ (by omega) (by omega) (by omega) (by omega)]
  have es : V' (h + 4) 1 = V (h + 4) 1 := by rw [er _ (by omega) (by omega) (by omega) (by omega)]
  refine ⟨a1, ptH_ag a2 (fun c j hc => ?_), ⟨by rw [ej 0 (by decide), eN 0 (by omega)]; exact b0, by rw [ej 1 (by decide), eN 8 (by omega)]; exact b1, by rw [ej 2 (by decide), eN 1 (by omega)]; exact b2, by rw [ej 3 (by decide), eN 2 (by omega)]; exact b3, by rw [ej 4 (by decide), eN 7 (by omega)]; exact b4, by rw [ej 5 (by decide), eN 6 (by omega)]; exact b5, by rw [ej 6 (by decide), eN 3 (by omega)]; exact b6, by rw [ej 7 (by decide), eN 4 (by omega)]; exact b7, by rw [es, eN 5 (by omega)]; exact b8⟩, vK_ag (eN 1 (by omega)) z1 (fun j hj => eN j (by omega)) (fun a x y => er a (by omega) (by omega) (by omega) (by omega)) a4, vE_ag (eN 2 (by omega)) z2 (fun j x y => eN j (by omega)) (fun a x y => er a (by omega) (by omega) (by omega) (by omega)) a5,
    vS_ag (eN 5 (by omega)) z5 zs (fun j x y => eN j (by omega)) (fun a x y => er a (by omega) (by omega) (by omega) (by omega)) a6, vG_ag (eN 7 (by omega)) z7 (fun j x y => eN j (by omega)) (fun a x y => er a (by omega) (by omega) (by omega) (by omega)) a7,
    vB_ag (fun j x y => eN j (by omega)) (er _ (by omega) (by omega) (by omega) (by omega)) a8, gM, gA⟩
  by_cases q : c = 130
  · subst q
    unfold isPt at hc
    obtain rfl : j = 6 := by omega
    exact e6
  · rw [er _ (by unfold isPt at hc; omega) (by unfold isPt at hc; omega) (by omega) (by unfold isPt at hc; omega)]
theorem RH_so {s p o : Int} (H : RH h N Sh V) (hz : szO N) (h0 : 0 ≤ s) (h1 : s < 4) (e : V' = up (up V (h + 128) s p) (h + 129) s o) : RH h (upN (upN N (17 + s) p) (13 + s) o) Sh V' := by
  subst e
  have eN : ∀ j, j ≠ 17 + s → j ≠ 13 + s → upN (upN N (17 + s) p) (13 + s) o j = N j := fun j a b => by rw [upN_ne b, upN_ne a]
  refine RH_ma H hz (fun j hj => eN j (by omega) (by omega)) (fun b q1 q2 _ _ => by rw [up_row _ _ _ q2, up_row _ _ _ q1]) (by rw [up_row _ _ _ (by omega), up_row _ _ _ (by omega)]) (fun i i0 i1 => ⟨?_, ?_⟩) (vA_ag hz.2.2.2.2.1 (fun j x y => eN j (by omega) (by omega)) (by rw [up_row _ _ _ (by omega), up_row _ _ _ (by omega)]) (by rw [up_row _ _ _ (by omega), up_row _ _ _ (by omega)]) H.2.2.2.2.2.2.2.2.2)
  · rw [up_ne _ _ (by omega)]
    by_cases q : i = s
    · rw [q, up_eq, upN_ne (by omega), upN_eq]
    · rw [up_ne _ _ (Or.inr q), eN _ (by omega) (by omega)]; exact H.mp i0 i1
  · by_cases q : i = s
    · rw [q, up_eq, upN_eq]
    · rw [up_ne _ _ (Or.inr q), up_ne _ _ (by omega), eN _ (by omega) (by omega)]; exact H.mo i0 i1
theorem RH_sl {d r : Int} (H : RH h N Sh V) (hz : szO N) (e : V' = rwV V (h + 130) (rowL [1, d, r, 0, r, 0]) 6) : RH h (selN N d r) Sh V' := by
  subst e
  have eN : ∀ j, (j < 21 ∨ 27 ≤ j) → selN N d r j = N j := fun j hj => by unfold selN; rw [upN_ne (by omega), upN_ne (by omega), upN_ne (by omega), upN_ne (by omega), upN_ne (by omega), upN_ne (by omega)]
  have ev : ∀ j, 0 ≤ j → j < 6 → rwV V (h + 130) (rowL [1, d, r, 0, r, 0]) 6 (h + 130) j = rowL [1, d, r, 0, r, 0] j := fun j j0 j1 => rwV_at j0 j1
  have s21 : selN N d r 21 = 1 := by unfold selN; rw [upN_ne (by decide), upN_ne (by decide), upN_ne (by decide), upN_ne (by decide), upN_ne (by decide), upN_eq]
  have s22 : selN N d r 22 = d := by unfold selN; rw [upN_ne (by decide), upN_ne (by decide), upN_ne (by decide), upN_ne (by decide), upN_eq]
  have s23 : selN N d r 23 = r := by unfold selN; rw [upN_ne (by decide), upN_ne (by decide), upN_ne (by decide), upN_eq]
  have s24 : selN N d r 24 = 0 := by unfold selN; rw [upN_ne (by decide), upN_ne (by decide), upN_eq]
  have s25 : selN N d r 25 = r := by unfold selN; rw [upN_ne (by decide), upN_eq]
  have s26 : selN N d r 26 = 0 := by unfold selN; rw [upN_eq]
  refine RH_ma H hz (fun j hj => eN j (by omega)) (fun b _ _ q _ => rwV_ne q) (rwV_far (by omega)) (vM_ag (fun j x y => eN j (by omega)) (rwV_ne (by omega)) (rwV_ne (by omega)) H.2.2.2.2.2.2.2.2.1) ⟨⟨?_, ?_, ?_, ?_, ?_, ?_⟩, fun i i0 i1 => by rw [s26] at i1; omega⟩
  · rw [ev 0 (by decide) (by decide), s21]; rfl
  · rw [ev 1 (by decide) (by decide), s22]; rfl
  · rw [ev 2 (by decide) (by decide), s23]; rfl
  · rw [ev 3 (by decide) (by decide), s24]; rfl
  · rw [ev 4 (by decide) (by decide), s25]; rfl
  · rw [ev 5 (by decide) (by decide), s26]; rfl
/-- an offer came -/
theorem RH_of {p : Int} (H : RH h N Sh V) (hz : szO N) (h0 : 0 ≤ N 26) (h1 : N 26 < 4) (er : ∀ b, b ≠ h + 130 → b ≠ h + 131 → V' b = V b) (e1 : V' (h + 130) 1 = N 22 - 1) (e5 : V' (h + 130) 5 = N 26 + 1) (eo : ∀ j, j ≠ 1 → j ≠ 5 → V' (h + 130) j = V (h + 130) j) (ef : ∀ i : Int, 0 ≤ i → i ≤ N 26 → V' (h + 131) i = isT (V (h + 131)) (N 26).toNat p i) : RH h (offN N p) Sh V' := by
  have eN : ∀ j, j ≠ 27 + N 26 → j ≠ 26 → j ≠ 22 → offN N p j = N j := fun j a b c => by unfold offN; rw [upN_ne c, upN_ne b, upN_ne a]
  have s22 : offN N p 22 = N 22 - 1 := by unfold offN; rw [upN_eq]
  have s26 : offN N p 26 = N 26 + 1 := by unfold offN; rw [upN_ne (by decide), upN_eq]
  have sp : offN N p (27 + N 26) = p := by unfold offN; rw [upN_ne (by omega), upN_ne (by omega), upN_eq]
  refine RH_ma H hz (fun j hj => eN j (by omega) (by omega) (by omega)) (fun b _ _ q1 q2 => er b q1 q2) (eo 6 (by decide) (by decide)) (vM_ag (fun j x y => eN j (by omega) (by omega) (by omega)) (er _ (by omega) (by omega)) (er _ (by omega) (by omega)) H.2.2.2.2.2.2.2.2.1) ⟨⟨?_, ?_, ?_, ?_, ?_, ?_⟩, fun i i0 i1 => ?_⟩
  · rw [eo 0 (by decide) (by decide), eN 21 (by omega) (by decide) (by decide)]; exact H.a0
  · rw [e1, s22]
  · rw [eo 2 (by decide) (by decide), eN 23 (by omega) (by decide) (by decide)]; exact H.a2
  · rw [eo 3 (by decide) (by decide), eN 24 (by omega) (by decide) (by decide)]; exact H.a3
  · rw [eo 4 (by decide) (by decide), eN 25 (by omega) (by decide) (by decide)]; exact H.a4
  · rw [e5, s26]
  · rw [s26] at i1 ⊢
    rw [ef i i0 (by omega), show (N 26 + 1).toNat = (N 26).toNat + 1 by omega, soT, show (((N 26).toNat : Nat) : Int) = N 26 by omega, sp, soT_ag (N := N) _ (fun j a b => eN j (by omega) (by omega) (by omega))]
    exact isT_ag (fun t t0 t1 => H.of t0 (by omega)) i0 (by omega)
/-- it is taken -/
theorem RH_ot {p : Int} (H : RH h (offN N p) Sh V) (hz : szO (offN N p)) (h0 : 0 ≤ N 26) (e : V' = up (up V (h + 130) 2 (N 23 - 1)) (h + 130) 3 (N 24 + p)) : RH h (offT N p) Sh V' := by
  subst e
  have eN : ∀ j, j ≠ 23 → j ≠ 24 → offT N p j = offN N p j := fun j a b => by unfold offT; rw [upN_ne b, upN_ne a]
  refine RH_ma H hz (fun j hj => eN j (by omega) (by omega)) (fun b _ _ q _ => by rw [up_row _ _ _ q, up_row _ _ _ q]) (by rw [up_ne _ _ (Or.inr (by decide)), up_ne _ _ (Or.inr (by decide))]) (vM_ag (fun j x y => eN j (by omega) (by omega)) (by rw [up_row _ _ _ (by omega), up_row _ _ _ (by omega)]) (by rw [up_row _ _ _ (by omega), up_row _ _ _ (by omega)]) H.2.2.2.2.2.2.2.2.1) ⟨⟨?_, ?_, ?_, ?_, ?_, ?_⟩, fun i i0 i1 => ?_⟩
  · rw [up_ne _ _ (Or.inr (by decide)), up_ne _ _ (Or.inr (by decide)), eN 21 (by decide) (by decide)]; exact H.a0
  · rw [up_ne _ _ (Or.inr (by decide)), up_ne _ _ (Or.inr (by decide)), eN 22 (by decide) (by decide)]; exact H.a1
  · rw [up_ne _ _ (Or.inr (by decide)), up_eq]; unfold offT; rw [upN_ne (by decide), upN_eq]
  · rw [up_eq]; unfold offT; rw [upN_eq]
  · rw [up_ne _ _ (Or.inr (by decide)), up_ne _ _ (Or.inr (by decide)), eN 25 (by decide) (by decide)]; exact H.a4
  · rw [up_ne _ _ (Or.inr (by decide)), up_ne _ _ (Or.inr (by decide)), eN 26 (by decide) (by decide)]; exact H.a5
  · rw [eN 26 (by decide) (by decide)] at i1 ⊢
    have z26 := hz.2.2.2.2.1
    rw [up_ne _ _ (by omega), up_ne _ _ (by omega), soT_ag (N := offN N p) _ (fun j a b => eN j (by omega) (by omega))]
    exact H.of i0 i1
end RG
