/-! no sale brings more than the greatest offers (laid by wip/p47/l20.py) -/
theorem be_mx (N : gN0) (u : Int) : ∀ n : Nat, (beT N u n = -1 ∧ ∀ k : Int, 0 ≤ k → k < n → ubT u k ≠ 0) ∨ (0 ≤ beT N u n ∧ beT N u n < n ∧ ubT u (beT N u n) = 0 ∧ ∀ k : Int, 0 ≤ k → k < n → ubT u k = 0 → N (27 + k) ≤ N (27 + beT N u n)) := by
  intro n
  induction n with
  | zero => exact Or.inl ⟨rfl, fun k k0 k1 => by have : k < ((0 : Nat) : Int) := k1; omega⟩
  | succ n ih =>
    unfold beT
    by_cases hc : ubT u n = 0 ∧ (beT N u n = -1 ∨ N (27 + beT N u n) < N (27 + n))
    · rw [if_pos hc]
      refine Or.inr ⟨by omega, by omega, hc.1, fun k k0 k1 hk => ?_⟩
      by_cases hkn : k = n
      · rw [hkn]; omega
      · rcases ih with h | h
        · exact absurd hk (h.2 k k0 (by omega))
        · have := h.2.2.2 k k0 (by omega) hk; omega
    · rw [if_neg hc]
      rcases ih with h | h
      · refine Or.inl ⟨h.1, fun k k0 k1 hk => ?_⟩
        by_cases hkn : k = n
        · rw [hkn] at hk; exact hc ⟨hk, Or.inl h.1⟩
        · exact h.2 k k0 (by omega) hk
      · refine Or.inr ⟨h.1, by omega, h.2.2.1, fun k k0 k1 hk => ?_⟩
        by_cases hkn : k = n
        · rw [hkn] at hk ⊢
          have : ¬ (N (27 + beT N u n) < N (27 + n)) := fun q => hc ⟨hk, Or.inr q⟩
          omega
        · exact h.2.2.2 k k0 (by omega) hk
theorem be_fr (K : gN0) (u : Int) {D : Nat} {j : Int} (j0 : 0 ≤ j) (j1 : j < D) (hj : ubT u j = 0) : 0 ≤ beT K u D ∧ beT K u D < D ∧ ubT u (beT K u D) = 0 ∧ ∀ k : Int, 0 ≤ k → k < D → ubT u k = 0 → K (27 + k) ≤ K (27 + beT K u D) := by
  rcases be_mx K u D with h | h
  · exact absurd hj (h.2 j j0 j1)
  · exact h
theorem ub_0 : ubT 0 0 = 0 ∧ ubT 0 1 = 0 ∧ ubT 0 2 = 0 := by decide
theorem ub_1 : ubT 1 0 = 1 ∧ ubT 1 1 = 0 ∧ ubT 1 2 = 0 := by decide
theorem ub_2 : ubT 2 0 = 0 ∧ ubT 2 1 = 1 ∧ ubT 2 2 = 0 := by decide
theorem ub_3 : ubT 3 0 = 1 ∧ ubT 3 1 = 1 ∧ ubT 3 2 = 0 := by decide
theorem ub_4 : ubT 4 0 = 0 ∧ ubT 4 1 = 0 ∧ ubT 4 2 = 1 := by decide
theorem ub_5 : ubT 5 0 = 1 ∧ ubT 5 1 = 0 ∧ ubT 5 2 = 1 := by decide
theorem ub_6 : ubT 6 0 = 0 ∧ ubT 6 1 = 1 ∧ ubT 6 2 = 1 := by decide
theorem uo_0 : uoT 0 0 = 1 ∧ uoT 0 1 = 2 ∧ uoT 0 2 = 4 := by decide
theorem uo_1 : uoT 1 1 = 3 ∧ uoT 1 2 = 5 ∧ uoT 2 0 = 3 ∧ uoT 2 2 = 6 ∧ uoT 4 0 = 5 ∧ uoT 4 1 = 6 := by decide
/-- the first, the first two, all three of the greatest -/
theorem se_1 (K : gN0) {D : Nat} (hD : 1 ≤ D ∧ D ≤ 3) (h26 : K 26 = D) : ∃ b : Int, 0 ≤ b ∧ b < D ∧ (seT K 1).1 = K (27 + b) ∧ (seT K 1).2 = uoT 0 b ∧ ∀ k : Int, 0 ≤ k → k < D → K (27 + k) ≤ K (27 + b) := by
  have hb := be_fr K 0 (D := D) (j := 0) (by omega) (by omega) ub_0.1
  have eD : (K 26).toNat = D := by omega
  refine ⟨beT K 0 D, hb.1, hb.2.1, ?_, ?_, fun k k0 k1 => hb.2.2.2 k k0 k1 ?_⟩
  · show 0 + K (27 + beT K 0 (K 26).toNat) = _
    rw [eD, Int.zero_add]
  · show uoT 0 (beT K 0 (K 26).toNat) = _
    rw [eD]
  · rcases (by omega : k = 0 ∨ k = 1 ∨ k = 2) with h | h | h <;> subst h
    · exact ub_0.1
    · exact ub_0.2.1
    · exact ub_0.2.2
theorem se_2 (K : gN0) {D : Nat} (hD : 2 ≤ D ∧ D ≤ 3) (h26 : K 26 = D) : ∃ b c : Int, (0 ≤ b ∧ b < D) ∧ (0 ≤ c ∧ c < D) ∧ b ≠ c ∧ (seT K 2).1 = K (27 + b) + K (27 + c) ∧ (seT K 2).2 = uoT (uoT 0 b) c ∧ (∀ k : Int, 0 ≤ k → k < D → K (27 + k) ≤ K (27 + b)) ∧ ∀ k : Int, 0 ≤ k → k < D → k ≠ b → K (27 + k) ≤ K (27 + c) := by
  obtain ⟨b, b0, b1, e1, e2, e3⟩ := se_1 K (by omega) h26
  have eD : (K 26).toNat = D := by omega
  have s1 : (seT K 2).1 = (seT K 1).1 + K (27 + beT K (seT K 1).2 (K 26).toNat) := rfl
  have s2 : (seT K 2).2 = uoT (seT K 1).2 (beT K (seT K 1).2 (K 26).toNat) := rfl
  rw [eD, e1, e2] at s1
  rw [eD, e2] at s2
  have key : ∀ k : Int, 0 ≤ k → k < 3 → (ubT (uoT 0 b) k = 0 ↔ k ≠ b) := by
    intro k k0 k1
    rcases (by omega : b = 0 ∨ b = 1 ∨ b = 2) with h | h | h <;> rcases (by omega : k = 0 ∨ k = 1 ∨ k = 2) with g | g | g <;> subst h <;> subst g <;> decide
  have hfr : ∃ j : Int, 0 ≤ j ∧ j < D ∧ j ≠ b := by
    by_cases h : b = 0
    · exact ⟨1, by omega, by omega, by omega⟩
    · exact ⟨0, by omega, by omega, by omega⟩
  obtain ⟨j, j0, j1, j2⟩ := hfr
  have hb := be_fr K (uoT 0 b) (D := D) (j := j) j0 j1 ((key j j0 (by omega)).mpr j2)
  exact ⟨b, beT K (uoT 0 b) D, ⟨b0, b1⟩, ⟨hb.1, hb.2.1⟩, fun h => ((key _ hb.1 (by omega)).mp hb.2.2.1) h.symm, s1, s2, e3, fun k k0 k1 k2 => hb.2.2.2 k k0 k1 ((key k k0 (by omega)).mpr k2)⟩
theorem se_3 (K : gN0) (h26 : K 26 = 3) : (seT K 3).1 = K 27 + K 28 + K 29 := by
  obtain ⟨b, c, ⟨b0, b1⟩, ⟨c0, c1⟩, hbc, e1, e2, -, -⟩ := se_2 K (D := 3) (by omega) h26
  have eD : (K 26).toNat = 3 := by omega
  have s1 : (seT K 3).1 = (seT K 2).1 + K (27 + beT K (seT K 2).2 (K 26).toNat) := rfl
  rw [eD, e1, e2] at s1
  have key : ∀ k : Int, 0 ≤ k → k < 3 → (ubT (uoT (uoT 0 b) c) k = 0 ↔ k ≠ b ∧ k ≠ c) := by
    intro k k0 k1
    rcases (by omega : (b = 0 ∧ c = 1) ∨ (b = 0 ∧ c = 2) ∨ (b = 1 ∧ c = 0) ∨ (b = 1 ∧ c = 2) ∨ (b = 2 ∧ c = 0) ∨ (b = 2 ∧ c = 1)) with ⟨h, i⟩ | ⟨h, i⟩ | ⟨h, i⟩ | ⟨h, i⟩ | ⟨h, i⟩ | ⟨h, i⟩ <;> rcases (by omega : k = 0 ∨ k = 1 ∨ k = 2) with g | g | g <;> subst h <;> subst i <;> subst g <;> decide
  have hb := be_fr K (uoT (uoT 0 b) c) (D := 3) (j := 3 - b - c) (by omega) (by omega) ((key _ (by omega) (by omega)).mpr (by omega))
  have hx := (key _ hb.1 (by omega)).mp hb.2.2.1
  have h3 : beT K (uoT (uoT 0 b) c) 3 = 3 - b - c := by omega
  rw [h3] at s1
  rw [s1]
  rcases (by omega : (b = 0 ∧ c = 1) ∨ (b = 0 ∧ c = 2) ∨ (b = 1 ∧ c = 0) ∨ (b = 1 ∧ c = 2) ∨ (b = 2 ∧ c = 0) ∨ (b = 2 ∧ c = 1)) with ⟨h, i⟩ | ⟨h, i⟩ | ⟨h, i⟩ | ⟨h, i⟩ | ⟨h, i⟩ | ⟨h, i⟩ <;> subst h <;> subst i
  · show K 27 + K 28 + K 29 = _; omega
  · show K 27 + K 29 + K 28 = _; omega
  · show K 28 + K 27 + K 29 = _; omega
  · show K 28 + K 29 + K 27 = _; omega
  · show K 29 + K 27 + K 28 = _; omega
  · show K 29 + K 28 + K 27 = _; omega
theorem ofS_or (N f : gN0) (D R k : Nat) : ((ofS N f D R (k + 1)).1 = (ofS N f D R k).1 ∧ (ofS N f D R (k + 1)).2 = (ofS N f D R k).2) ∨ (0 < (ofS N f D R k).1 ∧ (ofS N f D R (k + 1)).1 = (ofS N f D R k).1 - 1 ∧ (ofS N f D R (k + 1)).2 = (ofS N f D R k).2 + f k) := by
  rw [ofS]
  split
  · rename_i h; exact Or.inr ⟨h.1, rfl, rfl⟩
  · exact Or.inl ⟨rfl, rfl⟩
/-- no sale brings more than the greatest offers -/
theorem OKs_hs {N K f : gN0} {D R : Nat} {lim : Int} (H : OKs N f D R lim K D) (hD : 1 ≤ D ∧ D ≤ 3) (hR : 1 ≤ R ∧ R ≤ 3) (hf : ∀ i : Int, 0 ≤ i → i < 3 → 0 ≤ f i ∧ f i ≤ 100000) : K 24 ≤ wI (seT K (min (K 25) (K 26)).toNat).1 ∧ 0 ≤ K 24 ∧ K 24 ≤ 300000 := by
  obtain ⟨h1, h2, h3, h4, h5, h6, h7, h8, h9, h10⟩ := H
  have f0 := hf 0 (by decide) (by decide)
  have f1 := hf 1 (by decide) (by decide)
  have f2 := hf 2 (by decide) (by decide)
  have z0 : (ofS N f D R 0).1 = R ∧ (ofS N f D R 0).2 = 0 := ⟨rfl, rfl⟩
  have o0 := ofS_or N f D R 0
  have o1 := ofS_or N f D R 1
  have o2 := ofS_or N f D R 2
  simp only [Nat.zero_add, Nat.reduceAdd] at o0 o1 o2
  have c0 : ((0 : Nat) : Int) = 0 := rfl
  have c1 : ((1 : Nat) : Int) = 1 := rfl
  have c2 : ((2 : Nat) : Int) = 2 := rfl
  rw [c0] at o0
  rw [c1] at o1
  rw [c2] at o2
  rcases (by omega : D = 1 ∨ D = 2 ∨ D = 3) with hd | hd | hd <;> subst hd
  · have k0 : K 27 = f 0 := h9 0 (by omega) (by omega)
    obtain ⟨b, b0, b1, e1, e2, e3⟩ := se_1 K (D := 1) (by omega) h8
    rw [show (min (K 25) (K 26)).toNat = 1 by omega, e1, show b = 0 by omega]
    show K 24 ≤ wI (K 27) ∧ _
    rw [wI_i (by omega)]
    omega
  · have k0 : K 27 = f 0 := h9 0 (by omega) (by omega)
    have k1 : K 28 = f 1 := h9 1 (by omega) (by omega)
    by_cases hr : R = 1
    · obtain ⟨b, b0, b1, e1, e2, e3⟩ := se_1 K (D := 2) (by omega) h8
      have g0 : K 27 ≤ K (27 + b) := e3 0 (by omega) (by omega)
      have g1 : K 28 ≤ K (27 + b) := e3 1 (by omega) (by omega)
      have g2 : K (27 + b) ≤ 100000 := by rcases (by omega : b = 0 ∨ b = 1) with h | h <;> subst h; exact (show K 27 ≤ 100000 by omega); exact (show K 28 ≤ 100000 by omega)
      rw [show (min (K 25) (K 26)).toNat = 1 by omega, e1, wI_i (by omega)]
      omega
    · obtain ⟨b, c, ⟨b0, b1⟩, ⟨c0, c1⟩, hbc, e1, e2, -, -⟩ := se_2 K (D := 2) (by omega) h8
      have g2 : K (27 + b) + K (27 + c) = K 27 + K 28 := by rcases (by omega : (b = 0 ∧ c = 1) ∨ (b = 1 ∧ c = 0)) with ⟨h, i⟩ | ⟨h, i⟩ <;> subst h <;> subst i; rfl; exact (show K 28 + K 27 = K 27 + K 28 by omega)
      rw [show (min (K 25) (K 26)).toNat = 2 by omega, e1, g2, wI_i (by omega)]
      omega
  · have k0 : K 27 = f 0 := h9 0 (by omega) (by omega)
    have k1 : K 28 = f 1 := h9 1 (by omega) (by omega)
    have k2 : K 29 = f 2 := h9 2 (by omega) (by omega)
    rcases (by omega : R = 1 ∨ R = 2 ∨ R = 3) with hr | hr | hr
    · obtain ⟨b, b0, b1, e1, e2, e3⟩ := se_1 K (D := 3) (by omega) h8
      have g0 : K 27 ≤ K (27 + b) := e3 0 (by omega) (by omega)
      have g1 : K 28 ≤ K (27 + b) := e3 1 (by omega) (by omega)
      have g3 : K 29 ≤ K (27 + b) := e3 2 (by omega) (by omega)
      have g2 : K (27 + b) ≤ 100000 := by rcases (by omega : b = 0 ∨ b = 1 ∨ b = 2) with h | h | h <;> subst h; exact (show K 27 ≤ 100000 by omega); exact (show K 28 ≤ 100000 by omega); exact (show K 29 ≤ 100000 by omega)
      rw [show (min (K 25) (K 26)).toNat = 1 by omega, e1, wI_i (by omega)]
      omega
    · obtain ⟨b, c, ⟨b0, b1⟩, ⟨c0, c1⟩, hbc, e1, e2, e3, e4⟩ := se_2 K (D := 3) (by omega) h8
      have g0 : K 27 ≤ K (27 + b) := e3 0 (by omega) (by omega)
      have g1 : K 28 ≤ K (27 + b) := e3 1 (by omega) (by omega)
      have g3 : K 29 ≤ K (27 + b) := e3 2 (by omega) (by omega)
      have q0 : 0 ≠ b → K 27 ≤ K (27 + c) := e4 0 (by omega) (by omega)
      have q1 : 1 ≠ b → K 28 ≤ K (27 + c) := e4 1 (by omega) (by omega)
      have q3 : 2 ≠ b → K 29 ≤ K (27 + c) := e4 2 (by omega) (by omega)
      have u : ∀ x : Int, 0 ≤ x → x < 3 → 0 ≤ K (27 + x) ∧ K (27 + x) ≤ 100000 := fun x x0 x1 => by rw [h9 x x0 (by omega)]; exact hf x x0 x1
      have u1 := u b b0 (by omega)
      have u2 := u c c0 (by omega)
      have v : K (27 + b) = (if b = 0 then K 27 else if b = 1 then K 28 else K 29) := by rcases (by omega : b = 0 ∨ b = 1 ∨ b = 2) with h | h | h <;> subst h <;> rfl
      rw [show (min (K 25) (K 26)).toNat = 2 by omega, e1, wI_i (by omega)]
      rcases (by omega : b = 0 ∨ b = 1 ∨ b = 2) with h | h | h
      · rw [if_pos h] at v; omega
      · rw [if_neg (by omega), if_pos h] at v; omega
      · rw [if_neg (by omega), if_neg (by omega)] at v; omega
    · rw [show (min (K 25) (K 26)).toNat = 3 by omega, se_3 K h8, wI_i (by omega)]
      omega
