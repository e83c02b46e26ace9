theorem fdF {mo : Int} (h1 : inI mo) : ∃ F, F = (if 200001 ≤ mo ∧ mo ≤ 209912 then mo * 100 + 1 else -1) ∧ ((((2000 ≤ mo / 100 ∧ mo / 100 ≤ 2099) ∧ 1 ≤ mo % 100 ∧ mo % 100 ≤ 12) ∧ F = mo * 100 + 1 ∧ dayZ F = yB (mo / 100) + bM (mo / 100) (mo % 100) ∧ 0 ≤ dayZ F) ∨ ((¬ ((2000 ≤ mo / 100 ∧ mo / 100 ≤ 2099) ∧ 1 ≤ mo % 100 ∧ mo % 100 ≤ 12)) ∧ dayZ F = -1)) ∧ inI F := by
  refine ⟨_, rfl, ?_, by split <;> omega⟩
  by_cases h : (2000 ≤ mo / 100 ∧ mo / 100 ≤ 2099) ∧ 1 ≤ mo % 100 ∧ mo % 100 ≤ 12
  · rw [if_pos (by omega)]
    refine Or.inl ⟨h, rfl, mon_day h.1 h.2, ?_⟩
    have := yB_in h.1.1 h.1.2
    have := bM_in (y := mo / 100) h.2.1 h.2.2
    rw [mon_day h.1 h.2]; omega
  · refine Or.inr ⟨h, ?_⟩
    split
    · unfold dayZ
      rw [if_neg]
      intro q
      exact h ⟨by omega, by omega⟩
    · rfl

