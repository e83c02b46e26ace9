/-! both sides of what can be taken back (laid by wip/whole/gen9a.py) -/
theorem XR_N {x c : Int} {N M : gN0} {P : Int → gN0} {Sh : gSh} {V : gV} (H : XR x N P c Sh V) (hI : INV N) (e : ∀ j, 0 ≤ j → j < 5022 → M j = N j) : XR x M P c Sh V :=
  ⟨H.1, H.2.1, RH_ag H.rh hI.szO e (fun _ _ _ => rfl), H.hy⟩
theorem KZ_N {N M : gN0} (h1 : 0 ≤ N 1) (H : KZ N) (e : ∀ j, 0 ≤ j → j < 5022 → M j = N j) : KZ M := by
  intro k k0 k1
  rw [e 1 (by decide) (by decide)] at k0
  have := H k k0 k1
  exact ⟨(e _ (by omega) (by omega)).trans this.1, fun w w0 w1 => (e _ (by omega) (by omega)).trans (this.2 w w0 w1)⟩
/-- the rows of the reference tell what the class can bring back -/
def HB (b : Int) (P : Int → gN0) (c : Int) (V : gV) : Prop := V b 2 = c ∧ 0 ≤ c ∧ c ≤ 6 ∧ ∀ i, 0 ≤ i → i < c → ∀ j, 0 ≤ j → j < 5022 → P i j = V (b + 2) (i * 5022 + j)
theorem HB_0 {b : Int} {P : Int → gN0} {V : gV} (h : V b 2 = 0) : HB b P 0 V := ⟨h, Int.le_refl _, by decide, fun i i0 i1 => by omega⟩
theorem HB_ag {b c : Int} {P : Int → gN0} {V V' : gV} (H : HB b P c V) (e2 : V' b 2 = V b 2) (e : V' (b + 2) = V (b + 2)) : HB b P c V' := ⟨e2.trans H.1, H.2.1, H.2.2.1, fun i i0 i1 j j0 j1 => by rw [e]; exact H.2.2.2 i i0 i1 j j0 j1⟩
theorem HB_kp {b c : Int} {P : Int → gN0} {N N' : gN0} {V : gV} (H : HB b P c V) (hN : V (b + 1) = N) : HB b (kpP P c N) (min (c + 1) 6) (wrN (kpV (up V b 3 0) b) b N') := by
  obtain ⟨h1, h2, h3, h4⟩ := H
  have u1 : up V b 3 0 (b + 1) = N := (up_row _ _ _ (by omega)).trans hN
  have u2 : up V b 3 0 (b + 2) = V (b + 2) := up_row _ _ _ (by omega)
  have u3 : up V b 3 0 b 2 = c := (up_ne _ _ (Or.inr (by decide))).trans h1
  have e0 : ∀ a, a ≠ b + 1 → wrN (kpV (up V b 3 0) b) b N' a = kpV (up V b 3 0) b a := fun a ha => if_neg ha
  refine ⟨?_, by omega, by omega, fun i i0 i1 j j0 j1 => ?_⟩
  · rw [e0 b (by omega)]
    unfold kpV kpC
    rw [if_neg (by omega), if_pos ⟨rfl, rfl⟩, u3]
    split <;> omega
  · rw [e0 (b + 2) (by omega)]
    unfold kpV kpC kpP
    rw [if_pos rfl, u3, u1, u2]
    by_cases c6 : c = 6
    · subst c6
      rw [if_pos rfl]
      by_cases q : i = 5
      · rw [if_pos q, if_pos (by omega), if_pos rfl]; congr 1; omega
      · rw [if_neg q, if_neg (by omega), if_pos (by omega), h4 (i + 1) (by omega) (by omega) j j0 j1]; congr 1; omega
    · rw [if_neg c6, if_neg c6]
      by_cases q : i = c
      · rw [if_pos q, if_pos (by omega)]; congr 1; omega
      · rw [if_neg q, if_neg (by omega), if_neg (by omega)]; exact h4 i i0 (by omega) j j0 j1
