/-! stays and books change: states; looking at those who wait -/
theorem e90 : (9 : Int) + 0 = 9 := rfl
theorem e91 : (9 : Int) + 1 = 10 := rfl
theorem e92 : (9 : Int) + 2 = 11 := rfl
theorem e93 : (9 : Int) + 3 = 12 := rfl
section BK
variable {h : Int} {N M : gN0} {Sh : gSh} {V V' : gV}
theorem RH_bk {s : Int} (H : RH h N Sh V) (hz : szO N) (h0 : 0 ≤ s) (h1 : s < N 5) (hA : AgT N M s) (eN : ∀ w, 0 ≤ w → w < 24 → w ≠ 0 → w ≠ 6 → sF M s w = sF N s w) (hV : ∀ a, a ≠ h + 6 + 2 * s → a ≠ h + 126 → V' a = V a) (er : ∀ j, j ≠ 0 → j ≠ 8 → V' (h + 6 + 2 * s) j = V (h + 6 + 2 * s) j)
    (e0 : V' (h + 6 + 2 * s) 0 = sF M s 0) (e8 : V' (h + 6 + 2 * s) 8 = sF M s 6) (b0 : V' (h + 126) 0 = M 9) (b1 : V' (h + 126) 1 = M 10) (b2 : V' (h + 126) 2 = M 11) (b3 : V' (h + 126) 3 = M 12) : RH h M Sh V' := by
  have z5 := hz.2.2.1
  refine RH_T (s := s) H hz h0 (by omega) hA (fun a q1 _ q3 => hV a q1 q3) ?_ (fun _ => ?_) (fun i i0 i1 => ?_)
  · rw [er 11 (by decide) (by decide)]; exact H.2.1.pn h0 (by omega)
  · exact stR_of (H.st h0 h1) (hz.2.2.2.2.2 s h0 h1) e0 e8 er eN (hV _ (by omega) (by omega))
  · obtain rfl | rfl | rfl | rfl : i = 0 ∨ i = 1 ∨ i = 2 ∨ i = 3 := by omega
    · exact b0
    · exact b1
    · exact b2
    · exact b3
end BK
theorem payN_ag' (N : gN0) {s : Int} : AgT N (payN N s) s := fun j h1 h2 => by
  unfold payN mvN
  simp only [upN, e90, e91, e92, e93]
  (repeat' split) <;> first | omega | rfl | simp_all
theorem payN_w (N : gN0) {s : Int} (hs : 0 ≤ s) : ∀ w, 0 ≤ w → w < 24 → w ≠ 0 → w ≠ 6 → sF (payN N s) s w = sF N s w := fun w w0 w1 w2 w3 => by
  unfold sF
  unfold payN mvN
  simp only [upN, e90, e91, e92, e93]
  (repeat' split) <;> first | omega | rfl | simp_all
theorem payN_b0 (N : gN0) {s : Int} (hs : 0 ≤ s) : payN N s 9 = N 9 - dpO N s := by
  unfold payN mvN
  simp only [upN, e90, e91, e92, e93, Int.add_zero]
  (repeat' split) <;> first | omega | rfl | simp_all
theorem payN_b1 (N : gN0) {s : Int} (hs : 0 ≤ s) : payN N s 10 = N 10 + dpO N s := by
  unfold payN mvN
  simp only [upN, e90, e91, e92, e93, Int.add_zero]
  (repeat' split) <;> first | omega | rfl | simp_all
theorem payN_b2 (N : gN0) {s : Int} (hs : 0 ≤ s) : payN N s 11 = N 11 := by
  unfold payN mvN
  simp only [upN, e90, e91, e92, e93, Int.add_zero]
  (repeat' split) <;> first | omega | rfl | simp_all
theorem payN_b3 (N : gN0) {s : Int} (hs : 0 ≤ s) : payN N s 12 = N 12 := by
  unfold payN mvN
  simp only [upN, e90, e91, e92, e93, Int.add_zero]
  (repeat' split) <;> first | omega | rfl | simp_all
theorem payN_0 (N : gN0) {s : Int} (hs : 0 ≤ s) : sF (payN N s) s 0 = 1 := by
  unfold sF
  unfold payN mvN
  simp only [upN, e90, e91, e92, e93, Int.add_zero]
  (repeat' split) <;> first | omega | rfl | simp_all
theorem payN_6 (N : gN0) {s : Int} (hs : 0 ≤ s) : sF (payN N s) s 6 = dpO N s := by
  unfold sF
  unfold payN mvN
  simp only [upN, e90, e91, e92, e93, Int.add_zero]
  (repeat' split) <;> first | omega | rfl | simp_all
theorem enN_ag' (N : gN0) {s : Int} : AgT N (enN N s) s := fun j h1 h2 => by
  unfold enN
  simp only [upN, e90, e91, e92, e93]
  (repeat' split) <;> first | omega | rfl | simp_all
theorem enN_w (N : gN0) {s : Int} (hs : 0 ≤ s) : ∀ w, 0 ≤ w → w < 24 → w ≠ 0 → w ≠ 6 → sF (enN N s) s w = sF N s w := fun w w0 w1 w2 w3 => by
  unfold sF
  unfold enN
  simp only [upN, e90, e91, e92, e93]
  (repeat' split) <;> first | omega | rfl | simp_all
theorem enN_b0 (N : gN0) {s : Int} (hs : 0 ≤ s) : enN N s 9 = N 9 - (sPr N s + sTx N s - sF N s 6) := by
  unfold enN
  simp only [upN, e90, e91, e92, e93, Int.add_zero]
  (repeat' split) <;> first | omega | rfl | simp_all
theorem enN_b1 (N : gN0) {s : Int} (hs : 0 ≤ s) : enN N s 10 = N 10 - sF N s 6 := by
  unfold enN
  simp only [upN, e90, e91, e92, e93, Int.add_zero]
  (repeat' split) <;> first | omega | rfl | simp_all
theorem enN_b2 (N : gN0) {s : Int} (hs : 0 ≤ s) : enN N s 11 = N 11 + sPr N s := by
  unfold enN
  simp only [upN, e90, e91, e92, e93, Int.add_zero]
  (repeat' split) <;> first | omega | rfl | simp_all
theorem enN_b3 (N : gN0) {s : Int} (hs : 0 ≤ s) : enN N s 12 = N 12 + sTx N s := by
  unfold enN
  simp only [upN, e90, e91, e92, e93, Int.add_zero]
  (repeat' split) <;> first | omega | rfl | simp_all
theorem enN_0 (N : gN0) {s : Int} (hs : 0 ≤ s) : sF (enN N s) s 0 = 4 := by
  unfold sF
  unfold enN
  simp only [upN, e90, e91, e92, e93, Int.add_zero]
  (repeat' split) <;> first | omega | rfl | simp_all
theorem enN_6 (N : gN0) {s : Int} (hs : 0 ≤ s) : sF (enN N s) s 6 = sF N s 6 := by
  unfold sF
  unfold enN
  simp only [upN, e90, e91, e92, e93, Int.add_zero]
  (repeat' split) <;> first | omega | rfl | simp_all
theorem sdN_ag' (N : gN0) {s : Int} : AgT N (sdN N s) s := fun j h1 h2 => by
  unfold sdN mvN
  simp only [upN, e90, e91, e92, e93]
  (repeat' split) <;> first | omega | rfl | simp_all
theorem sdN_w (N : gN0) {s : Int} (hs : 0 ≤ s) : ∀ w, 0 ≤ w → w < 24 → w ≠ 0 → w ≠ 6 → sF (sdN N s) s w = sF N s w := fun w w0 w1 w2 w3 => by
  unfold sF
  unfold sdN mvN
  simp only [upN, e90, e91, e92, e93]
  (repeat' split) <;> first | omega | rfl | simp_all
theorem sdN_b0 (N : gN0) {s : Int} (hs : 0 ≤ s) : sdN N s 9 = N 9 + sF N s 6 := by
  unfold sdN mvN
  simp only [upN, e90, e91, e92, e93, Int.add_zero]
  (repeat' split) <;> first | omega | rfl | simp_all
theorem sdN_b1 (N : gN0) {s : Int} (hs : 0 ≤ s) : sdN N s 10 = N 10 - sF N s 6 := by
  unfold sdN mvN
  simp only [upN, e90, e91, e92, e93, Int.add_zero]
  (repeat' split) <;> first | omega | rfl | simp_all
theorem sdN_b2 (N : gN0) {s : Int} (hs : 0 ≤ s) : sdN N s 11 = N 11 := by
  unfold sdN mvN
  simp only [upN, e90, e91, e92, e93, Int.add_zero]
  (repeat' split) <;> first | omega | rfl | simp_all
theorem sdN_b3 (N : gN0) {s : Int} (hs : 0 ≤ s) : sdN N s 12 = N 12 := by
  unfold sdN mvN
  simp only [upN, e90, e91, e92, e93, Int.add_zero]
  (repeat' split) <;> first | omega | rfl | simp_all
theorem sdN_0 (N : gN0) {s : Int} (hs : 0 ≤ s) : sF (sdN N s) s 0 = 3 := by
  unfold sF
  unfold sdN mvN
  simp only [upN, e90, e91, e92, e93, Int.add_zero]
  (repeat' split) <;> first | omega | rfl | simp_all
theorem sdN_6 (N : gN0) {s : Int} (hs : 0 ≤ s) : sF (sdN N s) s 6 = sF N s 6 := by
  unfold sF
  unfold sdN mvN
  simp only [upN, e90, e91, e92, e93, Int.add_zero]
  (repeat' split) <;> first | omega | rfl | simp_all
def caP (N : gN0) (s : Int) : gN0 := upN (mvN (mvN N 1 0 (rfO N s)) 1 2 (sF N s 6 - rfO N s)) (56 + s * 24 + 0) 2
theorem caN_p {N : gN0} {s : Int} (h : sF N s 0 = 1) : caN N s = caP N s := by unfold caN caP; rw [if_pos h]
theorem caN_n {N : gN0} {s : Int} (h : sF N s 0 ≠ 1) : caN N s = upN N (56 + s * 24 + 0) 2 := by unfold caN; rw [if_neg h]
theorem caP_ag' (N : gN0) {s : Int} : AgT N (caP N s) s := fun j h1 h2 => by
  unfold caP mvN
  simp only [upN, e90, e91, e92, e93]
  (repeat' split) <;> first | omega | rfl | simp_all
theorem caP_w (N : gN0) {s : Int} (hs : 0 ≤ s) : ∀ w, 0 ≤ w → w < 24 → w ≠ 0 → w ≠ 6 → sF (caP N s) s w = sF N s w := fun w w0 w1 w2 w3 => by
  unfold sF
  unfold caP mvN
  simp only [upN, e90, e91, e92, e93]
  (repeat' split) <;> first | omega | rfl | simp_all
theorem caP_b0 (N : gN0) {s : Int} (hs : 0 ≤ s) : caP N s 9 = N 9 + rfO N s := by
  unfold caP mvN
  simp only [upN, e90, e91, e92, e93, Int.add_zero]
  (repeat' split) <;> first | omega | rfl | simp_all
theorem caP_b1 (N : gN0) {s : Int} (hs : 0 ≤ s) : caP N s 10 = N 10 - sF N s 6 := by
  unfold caP mvN
  simp only [upN, e90, e91, e92, e93, Int.add_zero]
  (repeat' split) <;> first | omega | rfl | simp_all
theorem caP_b2 (N : gN0) {s : Int} (hs : 0 ≤ s) : caP N s 11 = N 11 + (sF N s 6 - rfO N s) := by
  unfold caP mvN
  simp only [upN, e90, e91, e92, e93, Int.add_zero]
  (repeat' split) <;> first | omega | rfl | simp_all
theorem caP_b3 (N : gN0) {s : Int} (hs : 0 ≤ s) : caP N s 12 = N 12 := by
  unfold caP mvN
  simp only [upN, e90, e91, e92, e93, Int.add_zero]
  (repeat' split) <;> first | omega | rfl | simp_all
theorem caP_0 (N : gN0) {s : Int} (hs : 0 ≤ s) : sF (caP N s) s 0 = 2 := by
  unfold sF
  unfold caP mvN
  simp only [upN, e90, e91, e92, e93, Int.add_zero]
  (repeat' split) <;> first | omega | rfl | simp_all
theorem caP_6 (N : gN0) {s : Int} (hs : 0 ≤ s) : sF (caP N s) s 6 = sF N s 6 := by
  unfold sF
  unfold caP mvN
  simp only [upN, e90, e91, e92, e93, Int.add_zero]
  (repeat' split) <;> first | omega | rfl | simp_all
/-- a guest's row over another's -/
def cgN (N : gN0) (a i : Int) : gN0 := fun j => if 1496 + a * 5 ≤ j ∧ j < 1496 + a * 5 + 5 then N (j + (i - a) * 5) else N j
theorem cgN_ne {N : gN0} {a i j : Int} (h : j < 1496 + a * 5 ∨ 1496 + a * 5 + 5 ≤ j) : cgN N a i j = N j := by unfold cgN; rw [if_neg (by omega)]
theorem cgN_at (N : gN0) (a i : Int) {w : Int} (h0 : 0 ≤ w) (h1 : w < 5) : cgN N a i (1496 + a * 5 + w) = N (1496 + i * 5 + w) := by
  unfold cgN
  rw [if_pos (by omega)]
  congr 1
  omega
theorem gF_cg {N : gN0} {a i g w : Int} (h0 : 0 ≤ w) (h1 : w < 5) : gF (cgN N a i) g w = if g = a then gF N i w else gF N g w := by
  unfold gF
  by_cases h : g = a
  · rw [if_pos h, h]; exact cgN_at N a i h0 h1
  · rw [if_neg h]; exact cgN_ne (by omega)
theorem INV_cg {N : gN0} {a i : Int} (hI : INV N) (ha : 0 ≤ a) (ha2 : a < 20) (hi : 0 ≤ i) (hi2 : i < N 7) : INV (cgN N a i) := by
  have e : ∀ j, (j < 1496 ∨ 1596 ≤ j) → cgN N a i j = N j := fun j hj => cgN_ne (by omega)
  obtain ⟨⟨h1, h2, h3, h4, h5⟩, hb, hoo⟩ := hI
  have hs := h1
  unfold iScal at hs
  refine ⟨⟨?_, fun k k0 k1 => ?_, fun i i0 i1 => ?_, fun s s0 s1 => ?_, fun g g0 g1 => ?_⟩, bOk_of ?_ (fun j a b => e j (Or.inl (by omega))) hb, oOk_of (fun j a b => e j (Or.inl (by omega))) hoo⟩
  · unfold iScal
    rw [e 0 (by omega), e 1 (by omega), e 2 (by omega), e 3 (by omega), e 4 (by omega), e 5 (by omega), e 6 (by omega), e 7 (by omega)]
    exact h1
  · rw [e 1 (by omega)] at k1
    have := h2 k k0 k1
    unfold kOk kF at *
    rw [e _ (by omega), e _ (by omega), e _ (by omega)]
    exact this
  · rw [e 2 (by omega)] at i1
    have := h3 i i0 i1
    unfold seOk seF at *
    rw [e _ (by omega), e _ (by omega), e _ (by omega), e _ (by omega)]
    exact this
  · rw [e 5 (by omega)] at s1
    have := h4 s s0 s1
    have es : ∀ w, 0 ≤ w → w < 24 → sF (cgN N a i) s w = sF N s w := fun w a b => e _ (by omega)
    unfold sOk at *
    rw [e 1 (by omega), es 0 (by decide) (by decide), es 1 (by decide) (by decide), es 2 (by decide) (by decide), es 3 (by decide) (by decide), es 4 (by decide) (by decide), es 5 (by decide) (by decide), es 6 (by decide) (by decide), es 7 (by decide) (by decide), es 8 (by decide) (by decide), es 9 (by decide) (by decide)]
    refine ⟨this.1, fun n n0 n1 => ?_⟩
    rw [es _ (by omega) (by omega)]
    exact this.2 n n0 n1
  · rw [e 7 (by omega)] at g1
    have hg : ∀ g, 0 ≤ g → g < N 7 → gOk N g := h5
    unfold gOk at hg ⊢
    rw [e 1 (by omega), gF_cg (by decide) (by decide), gF_cg (by decide) (by decide), gF_cg (by decide) (by decide), gF_cg (by decide) (by decide), gF_cg (by decide) (by decide)]
    by_cases h : g = a
    · simp only [if_pos h]; exact hg i hi hi2
    · simp only [if_neg h]; exact hg g g0 g1
  · unfold Phi
    have ep : phT (cgN N a i) (N 5).toNat = phT N (N 5).toNat := phT_eq _ (fun s s0 s1 => by unfold sF; exact e _ (by omega))
    rw [e 5 (by omega), ep]
section CG
variable {h : Int} {N M : gN0} {Sh : gSh} {V V' : gV}
theorem RH_cg {a i : Int} (H : RH h N Sh V) (hI : INV N) (ha : 0 ≤ a) (ha2 : a < 20) (hi : 0 ≤ i) (hi2 : i < N 7) (e : V' = rwV V (h + 142 + a) (V (h + 142 + i)) 5) : RH h (cgN N a i) Sh V' := by
  subst e
  obtain ⟨z1, z2, z5, z7, z26, zs⟩ := hI.szO
  obtain ⟨a1, a2, a3, a4, a5, a6, a7, a8, a9, a10⟩ := H
  have er : ∀ b, b ≠ h + 142 + a → rwV V (h + 142 + a) (V (h + 142 + i)) 5 b = V b := fun b hb => rwV_ne hb
  have eN : ∀ j, (j < 1496 ∨ 1596 ≤ j) → cgN N a i j = N j := fun j hj => cgN_ne (by omega)
  refine ⟨a1, ptH_ag a2 (fun c j hc => by unfold isPt at hc; rw [er _ (by omega)]), vH_ag (fun j x y => eN j (by omega)) (fun j _ _ => by rw [er _ (by omega)]) (by rw [er _ (by omega)]) a3,
    vK_ag (eN 1 (by omega)) z1 (fun j hj => eN j (by omega)) (fun b x y => er b (by omega)) a4, vE_ag (eN 2 (by omega)) z2 (fun j x y => eN j (by omega)) (fun b x y => er b (by omega)) a5,
    vS_ag (eN 5 (by omega)) z5 zs (fun j x y => eN j (by omega)) (fun b x y => er b (by omega)) a6, fun g g0 g1 => ?_,
    vB_ag (fun j x y => eN j (by omega)) (er _ (by omega)) a8, vM_ag (fun j x y => eN j (by omega)) (er _ (by omega)) (er _ (by omega)) a9, vA_ag z26 (fun j x y => eN j (by omega)) (er _ (by omega)) (er _ (by omega)) a10⟩
  rw [eN 7 (by omega)] at g1
  rw [gF_cg (by decide) (by decide), gF_cg (by decide) (by decide), gF_cg (by decide) (by decide), gF_cg (by decide) (by decide), gF_cg (by decide) (by decide)]
  by_cases hg : g = a
  · simp only [if_pos hg, hg]
    have := a7 i hi hi2
    have ev : ∀ w, 0 ≤ w → w < 5 → rwV V (h + 142 + a) (V (h + 142 + i)) 5 (h + 142 + a) w = V (h + 142 + i) w := fun w w0 w1 => rwV_at w0 w1
    rw [ev 0 (by decide) (by decide), ev 1 (by decide) (by decide), ev 2 (by decide) (by decide), ev 3 (by decide) (by decide), ev 4 (by decide) (by decide)]
    exact this
  · simp only [if_neg hg]
    rw [er _ (by omega)]
    exact a7 g g0 g1
/-- those who wait are fewer now -/
theorem RH_gs {K : gN0} (H : RH h K Sh V) (hz : szO K) (hN : ∀ j, j ≠ 7 → (j < 1496 ∨ 1596 ≤ j) → M j = K j) (hg : ∀ g w, 0 ≤ g → g < M 7 → 0 ≤ w → w < 5 → M (1496 + g * 5 + w) = K (1496 + g * 5 + w)) (h7 : M 7 ≤ K 7) (e : V' = up V h 4 (M 7)) : RH h M Sh V' := by
  subst e
  obtain ⟨z1, z2, z5, z7, z26, zs⟩ := hz
  obtain ⟨a1, a2, a3, a4, a5, a6, a7, a8, a9, a10⟩ := H
  have er : ∀ b, b ≠ h → up V h 4 (M 7) b = V b := fun b hb => up_row _ _ _ hb
  obtain ⟨b0, b1, b2, b3, b4, b5, b6, b7, b8⟩ := a3
  have ej : ∀ j, j ≠ 4 → up V h 4 (M 7) h j = V h j := fun j hj => up_ne _ _ (Or.inr hj)
  refine ⟨a1, ptH_ag a2 (fun c j hc => up_ne _ _ (by unfold isPt at hc; omega)), ⟨?_, ?_, ?_, ?_, ?_, ?_, ?_, ?_, ?_⟩,
    vK_ag (hN 1 (by decide) (by omega)) z1 (fun j hj => hN j (by omega) (by omega)) (fun b x y => er b (by omega)) a4, vE_ag (hN 2 (by decide) (by omega)) z2 (fun j x y => hN j (by omega) (by omega)) (fun b x y => er b (by omega)) a5,
    vS_ag (hN 5 (by decide) (by omega)) z5 zs (fun j x y => hN j (by omega) (by omega)) (fun b x y => er b (by omega)) a6, fun g g0 g1 => ?_,
    vB_ag (fun j x y => hN j (by omega) (by omega)) (er _ (by omega)) a8, vM_ag (fun j x y => hN j (by omega) (by omega)) (er _ (by omega)) (er _ (by omega)) a9, vA_ag z26 (fun j x y => hN j (by omega) (by omega)) (er _ (by omega)) (er _ (by omega)) a10⟩
  · rw [ej 0 (by decide), hN 0 (by decide) (by omega)]; exact b0
  · rw [ej 1 (by decide), hN 8 (by decide) (by omega)]; exact b1
  · rw [ej 2 (by decide), hN 1 (by decide) (by omega)]; exact b2
  · rw [ej 3 (by decide), hN 2 (by decide) (by omega)]; exact b3
  · rw [up_eq]
  · rw [ej 5 (by decide), hN 6 (by decide) (by omega)]; exact b5
  · rw [ej 6 (by decide), hN 3 (by decide) (by omega)]; exact b6
  · rw [ej 7 (by decide), hN 4 (by decide) (by omega)]; exact b7
  · rw [er _ (by omega), hN 5 (by decide) (by omega)]; exact b8
  · have := a7 g g0 (by omega)
    rw [er _ (by omega)]
    unfold gF at *
    rw [hg g 0 g0 g1 (by decide) (by decide), hg g 1 g0 g1 (by decide) (by decide), hg g 2 g0 g1 (by decide) (by decide), hg g 3 g0 g1 (by decide) (by decide), hg g 4 g0 g1 (by decide) (by decide)]
    exact this
end CG
/-- alike but for those who wait -/
def AgW (K M : gN0) : Prop := ∀ j, j ≠ 7 → (j < 1496 ∨ 1596 ≤ j) → M j = K j
theorem cnt_W {K M : gN0} (h : AgW K M) (h5 : 0 ≤ K 5) (h6 : K 5 ≤ 60) (k d : Int) : cnt M k d = cnt K k d := by
  have key : ∀ n : Nat, (n : Int) ≤ 60 → cntT M k d n = cntT K k d n := by
    intro n
    induction n with
    | zero => intro _; rfl
    | succ n ih =>
      intro hn
      have es : ∀ w, 0 ≤ w → w < 24 → sF M n w = sF K n w := fun w a b => h _ (by omega) (by omega)
      unfold cntT
      rw [ih (by omega), es 0 (by decide) (by decide), es 1 (by decide) (by decide), es 2 (by decide) (by decide), es 3 (by decide) (by decide)]
  unfold cnt
  rw [h 5 (by decide) (by omega), key _ (by omega)]
theorem nPr_W {K M : gN0} (h : AgW K M) (hI : InvC K) {k : Int} (k0 : 0 ≤ k) (k1 : k < K 1) (d : Int) : nPr M k d = nPr K k d := by
  have hs := hI.1
  unfold iScal at hs
  exact nPr_of hI k0 k1 (fun j a b => h j (by omega) (by omega)) (h 2 (by decide) (by omega)) (h 3 (by decide) (by omega)) (cnt_W h (by omega) (by omega) k d)
theorem rfd_W {K M : gN0} (h : AgW K M) (hI : InvC K) {k : Int} (k0 : 0 ≤ k) (k1 : k < K 1) {f n : Int} (f0 : 0 ≤ f) (hn : 0 ≤ n) (hf : f + n ≤ 36525) : rfd M k f n = rfd K k f n := by
  have hs := hI.1
  unfold iScal at hs
  have ek : ∀ w, 0 ≤ w → w < 3 → kF M k w = kF K k w := fun w _ _ => h _ (by omega) (by omega)
  have er : ∀ (n : Nat) (d : Int), 0 ≤ d → d + n ≤ 36525 → rfsT M k d n = rfsT K k d n := by
    intro n
    induction n with
    | zero => intro d _ _; rfl
    | succ n ih =>
      intro d d0 d1
      unfold rfsT
      rw [h (1596 + k * 1142 + d / 32) (by omega) (by omega), ek 0 (by decide) (by decide), ek 2 (by decide) (by decide), cnt_W h (by omega) (by omega), ih (d + 1) (by omega) (by omega)]
  have el : ∀ (md : Int) (n : Nat), (n : Int) ≤ K 2 → lstT M md n = lstT K md n := by
    intro md n
    induction n with
    | zero => intro _; rfl
    | succ n ih =>
      intro hn
      have e : ∀ w, 0 ≤ w → w < 4 → seF M n w = seF K n w := fun w _ _ => h _ (by omega) (by omega)
      unfold lstT
      rw [ih (by omega), e 0 (by decide) (by decide), e 1 (by decide) (by decide), e 3 (by decide) (by decide)]
  unfold rfd rfs lstN
  rw [er _ _ f0 (by omega), h 2 (by decide) (by omega), el _ _ (by omega)]
theorem mkN_W {K M : gN0} (h : AgW K M) (hI : InvC K) {k f n a c t g : Int} (k0 : 0 ≤ k) (k1 : k < K 1) : AgW (mkN K k f n a c t g) (mkN M k f n a c t g) := by
  intro j j7 hj
  have e5 := h 5 (by decide) (by omega)
  have e4 := h 4 (by decide) (by omega)
  have ej := h j j7 hj
  have ep : ∀ d, nPr M k d = nPr K k d := fun d => nPr_W h hI k0 k1 d
  unfold mkN mkP
  rw [e5, e4, ej]
  simp only [ep]

