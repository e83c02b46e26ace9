/-! the law: those who wait (rows laid by wip/p47/l3.py) -/
abbrev RSL {a b c d e f g h : Nat} (h1 : Nat.ble a b = true) (h2 : Nat.ble c d = true) (h3 : e ≤ f) (h4 : g ≤ h) : (a ≤ b ∧ c ≤ d) ∧ (e ≤ f ∧ g ≤ h) := ⟨⟨Nat.le_of_ble_eq_true h1, Nat.le_of_ble_eq_true h2⟩, h3, h4⟩

/-- those who wait have no night behind the hundredth -/
def GB (N : gN0) : Prop := ∀ g, 0 ≤ g → g < N 7 → gF N g 1 + gF N g 2 ≤ 8922
def lkI (q w : Int) (Sh : gSh) (V : gV) (N M : gN0) (V1 : gV) (kept : Int) (gg m : Nat) : Prop :=
  (LB q w M Sh V1 ∧ INV M ∧ OUQ q w V V1 ∧ V1 q 20 = N 7 ∧ lkS m M kept gg = lk N) ∧ ((m : Int) = M 7 - kept ∧ 0 ≤ kept ∧ kept + m ≤ N 7 ∧ gg + m ≤ 20 ∧ N 7 ≤ 20 ∧ M 2 ≤ 1 ∧ GB M) ∧
  (∀ i, 0 ≤ i → i < kept → gsL (V1 (w + 130) i) i M V1) ∧ ∀ j, 0 ≤ j → j < (m : Int) → gsL (V1 (w + 130) (N 7 - m + j)) (kept + j) M V1
section LKI
variable {q w : Int} {Sh : gSh} {V V1 V2 V3 : gV} {N M : gN0} {kept : Int} {gg m : Nat}
theorem shG_lo {a j : Int} (h0 : 0 ≤ a) (h : j ≠ 7) (hj : j < 1496 + a * 5 ∨ 1596 ≤ j) (h7 : M 7 ≤ 20) : shG M (1496 + a * 5) j = M j := by
  unfold shG
  rw [if_neg h, if_neg (by omega)]
theorem shG_f {a g j : Int} (h0 : 0 ≤ a) (ha : a ≤ g) (hg : g < M 7 - 1) (j0 : 0 ≤ j) (j1 : j < 5) : gF (shG M (1496 + a * 5)) g j = gF M (g + 1) j := by
  show shG M (1496 + a * 5) (1496 + g * 5 + j) = M (1496 + (g + 1) * 5 + j)
  unfold shG
  rw [if_neg (by omega), if_pos (by omega)]
  congr 1
  omega
theorem LB_shG {a : Int} (hI : INV M) (h0 : 0 ≤ a) (h7 : M 7 ≤ 20) (H : LB q w M Sh V1) : LB q w (shG M (1496 + a * 5)) Sh V1 := by
  have hsc := hI.1.1
  unfold iScal at hsc
  have hs3 := fun s s0 s1 => (hI.1.2.2.2.1 s s0 s1).1
  refine LB_N (by omega) H (fun j j0 j1 j7 => shG_lo h0 j7 (by omega) h7) (fun j hj => shG_lo h0 (by omega) (by omega) h7) (fun s j s0 s1 j0 j1 => ?_) (fun s s0 s1 => by have := hs3 s s0 s1; omega)
  have := hs3 s s0 s1
  exact shG_lo h0 (by omega) (by omega) h7
theorem GB_sh {a : Int} (h0 : 0 ≤ a) (ha : a < M 7) (h7 : M 7 ≤ 20) (H : GB M) : GB (shG M (1496 + a * 5)) := fun g g0 g1 => by
  rw [shG_7] at g1
  by_cases hg : g < a
  · have e : ∀ j, 0 ≤ j → j < 5 → gF (shG M (1496 + a * 5)) g j = gF M g j := fun j j0 j1 => shG_lo h0 (by omega) (by omega) h7
    rw [e 1 (by decide) (by decide), e 2 (by decide) (by decide)]
    exact H g g0 (by omega)
  · rw [shG_f h0 (by omega) (by omega) (by decide) (by decide), shG_f h0 (by omega) (by omega) (by decide) (by decide)]
    exact H (g + 1) (by omega) (by omega)
theorem lkS_late (h : lkI q w Sh V N M V1 kept gg (m + 1)) (hl : M (1496 + kept * 5 + 1) < M 0) : lkI q w Sh V N (shG M (1496 + kept * 5)) V1 kept gg m := by
  obtain ⟨⟨a1, a2, a3, a4, a5⟩, ⟨b1, b2, b3, b4, b5, b6, b7⟩, c, d⟩ := h
  have hk : kept < M 7 := by omega
  have h7 : M 7 ≤ 20 := by have := a2.1.1; unfold iScal at this; omega
  rw [lkS, if_pos hk, if_pos hl] at a5
  refine ⟨⟨LB_shG a2 b2 h7 a1, INV_sh a2 b2 hk, a3, a4, a5⟩, ⟨by rw [shG_7]; omega, b2, by omega, by omega, b5, by rw [shG_lo b2 (by decide) (by omega) h7]; exact b6, GB_sh b2 hk h7 b7⟩, fun i i0 i1 => ?_, fun j j0 j1 => ?_⟩
  · exact gsL_ag (fun x x0 x1 => shG_lo b2 (by omega) (by omega) h7) rfl (c i i0 i1)
  · have e := d (j + 1) (by omega) (by omega)
    rw [show N 7 - ((m + 1 : Nat) : Int) + (j + 1) = N 7 - (m : Int) + j by omega] at e
    obtain ⟨e0, e1, e2, e3, e4⟩ := e
    have ef : ∀ x, 0 ≤ x → x < 5 → gF (shG M (1496 + kept * 5)) (kept + j) x = gF M (kept + (j + 1)) x := fun x x0 x1 => by rw [shG_f b2 (by omega) (by omega) x0 x1]; congr 1; omega
    exact ⟨by rw [ef 0 (by decide) (by decide)]; exact e0, by rw [ef 1 (by decide) (by decide)]; exact e1, by rw [ef 2 (by decide) (by decide)]; exact e2, by rw [ef 3 (by decide) (by decide)]; exact e3, by rw [ef 4 (by decide) (by decide)]; exact e4⟩
theorem lkS_get (h : lkI q w Sh V N M V1 kept gg (m + 1)) (hl : ¬ M (1496 + kept * 5 + 1) < M 0) (h5 : M 5 < 60) (hr : rfd M (M (1496 + kept * 5)) (M (1496 + kept * 5 + 1)) (M (1496 + kept * 5 + 2)) = -1)
    (e1 : LB q w (mkN M (M (1496 + kept * 5)) (M (1496 + kept * 5 + 1)) (M (1496 + kept * 5 + 2)) (M (1496 + kept * 5 + 3)) (M (1496 + kept * 5 + 4)) (M (1496 + kept * 5 + 1)) (-1)) Sh V2) (e2 : OUQ q w V1 V2) (e3 : ∀ a sh, Sh a = some sh → w + 130 ≤ a → V2 a = V1 a) (e4 : V2 q 20 = V1 q 20) :
    lkI q w Sh V N (shG (mkN M (M (1496 + kept * 5)) (M (1496 + kept * 5 + 1)) (M (1496 + kept * 5 + 2)) (M (1496 + kept * 5 + 3)) (M (1496 + kept * 5 + 4)) (M (1496 + kept * 5 + 1)) (-1)) (1496 + kept * 5)) V2 kept (gg + 1) m := by
  obtain ⟨⟨a1, a2, a3, a4, a5⟩, ⟨b1, b2, b3, b4, b5, b6, b7⟩, c, d⟩ := h
  have hk : kept < M 7 := by omega
  have hsc := a2.1.1
  unfold iScal at hsc
  have hg := a2.1.2.2.2.2 kept b2 hk
  unfold gOk gF at hg
  rw [Int.add_zero] at hg
  rw [lkS, if_pos hk, if_neg hl, if_pos ⟨h5, hr⟩] at a5
  have ho : mkOk M (M (1496 + kept * 5)) (M (1496 + kept * 5 + 1)) (M (1496 + kept * 5 + 2)) (M (1496 + kept * 5 + 3)) (M (1496 + kept * 5 + 4)) (M (1496 + kept * 5 + 1)) (-1) := by unfold mkOk; omega
  have hh := rfd_had (N := M) hr (by omega) (by omega)
  have hI2 := INV_mk a2 ho hh.1
  generalize hM2 : mkN M (M (1496 + kept * 5)) (M (1496 + kept * 5 + 1)) (M (1496 + kept * 5 + 2)) (M (1496 + kept * 5 + 3)) (M (1496 + kept * 5 + 4)) (M (1496 + kept * 5 + 1)) (-1) = M2 at a5 e1 hI2 ⊢
  have hm : ∀ j, j ≠ 5 → (j < 56 ∨ 1496 ≤ j) → M2 j = M j := fun j j5 hj => by rw [← hM2]; exact mkN_old (by omega) (by omega) (by omega) j5 (by omega)
  have h7 : M2 7 = M 7 := hm 7 (by decide) (by omega)
  have hB : GB M2 := fun g g0 g1 => by
    rw [h7] at g1
    have f1 : gF M2 g 1 = gF M g 1 := hm _ (by omega) (by omega)
    have f2 : gF M2 g 2 = gF M g 2 := hm _ (by omega) (by omega)
    rw [f1, f2]
    exact b7 g g0 g1
  have e130 : V2 (w + 130) = V1 (w + 130) := e3 _ _ a1.sgO (Int.le_refl _)
  have egp : ∀ i, 0 ≤ i → i < 20 → V2 (V1 (w + 130) i) = V1 (V1 (w + 130) i) := fun i i0 i1 => by
    have hp := a1.gp i0 i1
    exact e3 _ _ hp.1 (by rcases hp.2 with h | h <;> omega)
  refine ⟨⟨LB_shG hI2 b2 (by omega) e1, INV_sh hI2 b2 (by omega), a3.tr e2, e4.trans a4, by rw [show ((gg + 1 : Nat) : Int) = (gg : Int) + 1 by omega]; exact a5⟩, ⟨by rw [shG_7, h7]; omega, b2, by omega, by omega, b5, by rw [shG_lo b2 (by decide) (by omega) (by omega), hm 2 (by decide) (by omega)]; exact b6, GB_sh b2 (by omega) (by omega) hB⟩, fun i i0 i1 => ?_, fun j j0 j1 => ?_⟩
  · rw [e130]
    exact gsL_ag (fun x x0 x1 => (shG_lo b2 (by omega) (by omega) (by omega)).trans (hm _ (by omega) (by omega))) (egp i i0 (by omega)) (c i i0 i1)
  · have e := d (j + 1) (by omega) (by omega)
    rw [show N 7 - ((m + 1 : Nat) : Int) + (j + 1) = N 7 - (m : Int) + j by omega] at e
    obtain ⟨f0, f1, f2, f3, f4⟩ := e
    have ef : ∀ x, 0 ≤ x → x < 5 → gF (shG M2 (1496 + kept * 5)) (kept + j) x = gF M (kept + (j + 1)) x := fun x x0 x1 => by
      rw [shG_f b2 (by omega) (by omega) x0 x1, show kept + j + 1 = kept + (j + 1) by omega]
      exact hm _ (by omega) (by omega)
    rw [e130]
    have eg := egp (N 7 - (m : Int) + j) (by omega) (by omega)
    exact ⟨by rw [eg, ef 0 (by decide) (by decide)]; exact f0, by rw [eg, ef 1 (by decide) (by decide)]; exact f1, by rw [eg, ef 2 (by decide) (by decide)]; exact f2, by rw [eg, ef 3 (by decide) (by decide)]; exact f3, by rw [eg, ef 4 (by decide) (by decide)]; exact f4⟩
theorem LB_g {i p : Int} (h60 : M 5 ≤ 60) (H : LB q w M Sh V1) (hp : gpOk w Sh p) (e : V2 = up V1 (w + 130) i p) : LB q w M Sh V2 := by
  have hqw := H.a0
  have eo : ∀ a, a ≠ w + 130 → V2 a = V1 a := fun a ha => by rw [e]; exact up_row _ _ _ ha
  obtain ⟨a1, a2, a3, a4, a5, a6, a7, a8, a9, a10⟩ := H
  have eq' : V2 q = V1 q := eo q (by omega)
  refine ⟨a1, a2, llP_ag (by rw [eq']; exact ⟨rfl, rfl, rfl, rfl, rfl, rfl, rfl, rfl, rfl, rfl, rfl, rfl⟩) (eo _ (by omega)) (eo _ (by omega)) (eo _ (by omega)) a3, llD_ag (eo _ (by omega)) (eo _ (by omega)) a4, fun j j0 j1 => ?_, by unfold llV at *; rw [eq']; exact a6, by unfold llE at *; rw [eq']; exact a7, llK_ag (fun _ _ => rfl) (fun a h1 h2 _ => eo a (by omega)) a8, llB_ag (fun _ _ _ => rfl) (eo _ (by omega)) a9, fun s s0 s1 => ?_⟩
  · by_cases h : j = i
    · subst h; rw [e, up_eq]; exact hp
    · rw [e, up_ne _ _ (Or.inr h)]; exact a5 j j0 j1
  · obtain ⟨b1, b2⟩ := a10 s s0 s1
    exact ⟨by unfold stL at *; rw [eo _ (by omega)]; exact b1, fun n n0 n1 => by rw [eo _ (by omega)]; exact b2 n n0 n1⟩
theorem lkS_keep {g : Int} (h : lkI q w Sh V N M V1 kept gg (m + 1)) (hl : ¬ M (1496 + kept * 5 + 1) < M 0) (hn : ¬ (M 5 < 60 ∧ rfd M (M (1496 + kept * 5)) (M (1496 + kept * 5 + 1)) (M (1496 + kept * 5 + 2)) = -1)) (hg : g = N 7 - ((m + 1 : Nat) : Int))
    (e1 : V2 = up V1 (w + 130) kept (V1 (w + 130) g)) (e2 : V3 = up V2 (w + 130) g (V1 (w + 130) kept)) : lkI q w Sh V N M V3 (kept + 1) gg m := by
  obtain ⟨⟨a1, a2, a3, a4, a5⟩, ⟨b1, b2, b3, b4, b5, b6, b7⟩, c, d⟩ := h
  have hqw := a1.a0
  have hk : kept < M 7 := by omega
  have hsc := a2.1.1
  unfold iScal at hsc
  rw [lkS, if_pos hk, if_neg hl, if_neg hn] at a5
  have hL2 := LB_g (by omega) a1 (a1.gp (i := g) (by omega) (by omega)) e1
  have hL3 := LB_g (by omega) hL2 (a1.gp (i := kept) (by omega) (by omega)) e2
  have eo : ∀ a, a ≠ w + 130 → V3 a = V1 a := fun a ha => by rw [e2, up_row _ _ _ ha, e1, up_row _ _ _ ha]
  have egp : ∀ i, 0 ≤ i → i < 20 → V3 (V1 (w + 130) i) = V1 (V1 (w + 130) i) := fun i i0 i1 => by
    have hp := (a1.gp i0 i1).2
    exact eo _ (by rcases hp with h | h <;> omega)
  have v1 : V3 (w + 130) kept = V1 (w + 130) g := by
    by_cases hkg : kept = g
    · rw [hkg] at e1 e2 ⊢
      rw [e2, up_eq]
    · rw [e2, up_ne _ _ (Or.inr hkg), e1, up_eq]
  have v2 : ∀ i, i ≠ kept → i ≠ g → V3 (w + 130) i = V1 (w + 130) i := fun i i1 i2 => by rw [e2, up_ne _ _ (Or.inr i2), e1, up_ne _ _ (Or.inr i1)]
  refine ⟨⟨hL3, a2, fun a a0 a9 => (eo a (by omega)).trans (a3 a a0 a9), by rw [eo q (by omega)]; exact a4, a5⟩, ⟨by omega, by omega, by omega, by omega, b5, b6, b7⟩, fun i i0 i1 => ?_, fun j j0 j1 => ?_⟩
  · by_cases hik : i = kept
    · have e := d 0 (Int.le_refl _) (by omega)
      rw [Int.add_zero, Int.add_zero, ← hg] at e
      rw [hik, v1]
      exact gsL_ag (fun _ _ _ => rfl) (egp g (by omega) (by omega)) e
    · rw [v2 i hik (by omega)]
      exact gsL_ag (fun _ _ _ => rfl) (egp i i0 (by omega)) (c i i0 (by omega))
  · have e := d (j + 1) (by omega) (by omega)
    rw [show N 7 - ((m + 1 : Nat) : Int) + (j + 1) = N 7 - (m : Int) + j by omega, show kept + (j + 1) = kept + 1 + j by omega] at e
    rw [v2 _ (by omega) (by omega)]
    exact gsL_ag (fun _ _ _ => rfl) (egp _ (by omega) (by omega)) e
end LKI
