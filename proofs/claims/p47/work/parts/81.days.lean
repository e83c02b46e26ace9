/-! counts by days, months: the two ways are one -/
theorem cntT_mono {N : gN0} {k d e : Int} : ∀ n : Nat, (∀ s : Int, 0 ≤ s → s < n → alK N k s → sF N s 2 ≤ d → d ≤ sF N s 2 + sF N s 3 - 1 → sF N s 2 ≤ e ∧ e ≤ sF N s 2 + sF N s 3 - 1) → cntT N k d n ≤ cntT N k e n := by
  intro n
  induction n with
  | zero => intro _; exact Int.le_refl _
  | succ n ih =>
    intro h
    have h1 := ih (fun s s0 s1 => h s s0 (by omega))
    have h2 := h n (by omega) (by omega)
    unfold cntT
    split
    · rename_i q
      have := h2 ⟨q.1, q.2.1⟩ q.2.2.1 q.2.2.2
      rw [if_pos ⟨q.1, q.2.1, this.1, this.2⟩]
      omega
    · split <;> omega
theorem cnt_mono {N : gN0} {k d e : Int} (h5 : 0 ≤ N 5) (h : ∀ s : Int, 0 ≤ s → s < N 5 → alK N k s → sF N s 2 ≤ d → d ≤ sF N s 2 + sF N s 3 - 1 → sF N s 2 ≤ e ∧ e ≤ sF N s 2 + sF N s 3 - 1) : cnt N k d ≤ cnt N k e := by
  unfold cnt
  exact cntT_mono _ (fun s s0 s1 => h s s0 (by omega))
theorem moN_ge {N : gN0} {k x y : Int} : ∀ n : Nat, cnt N k x ≤ moN N k x y n ∧ ∀ s : Int, 0 ≤ s → s < n → alK N k s → x < sF N s 2 → sF N s 2 ≤ y → cnt N k (sF N s 2) ≤ moN N k x y n := by
  intro n
  induction n with
  | zero => exact ⟨Int.le_refl _, fun s s0 s1 => by have : s < 0 := s1; omega⟩
  | succ n ih =>
    unfold moN
    split
    · refine ⟨by omega, fun s s0 s1 sa sx sy => ?_⟩
      by_cases h : s = (n : Int)
      · rw [h]; omega
      · have := ih.2 s s0 (by omega) sa sx sy; omega
    · rename_i q
      refine ⟨ih.1, fun s s0 s1 sa sx sy => ?_⟩
      by_cases h : s = (n : Int)
      · rw [h] at sa sx sy; exact absurd ⟨sa.1, sa.2, sx, sy⟩ q
      · exact ih.2 s s0 (by omega) sa sx sy
theorem moN_le {N : gN0} {k x y B : Int} (h0 : cnt N k x ≤ B) : ∀ n : Nat, (∀ s : Int, 0 ≤ s → s < n → alK N k s → x < sF N s 2 → sF N s 2 ≤ y → cnt N k (sF N s 2) ≤ B) → moN N k x y n ≤ B := by
  intro n
  induction n with
  | zero => intro _; exact h0
  | succ n ih =>
    intro h
    have h1 := ih (fun s s0 s1 => h s s0 (by omega))
    unfold moN
    split
    · rename_i q
      have := h n (by omega) (by omega) ⟨q.1, q.2.1⟩ q.2.2.1 q.2.2.2
      omega
    · exact h1
/-- every night's count is under the greatest one -/
theorem cnt_moN {N : gN0} {k x y : Int} (h5 : 0 ≤ N 5) : ∀ j : Nat, x + j ≤ y → cnt N k (x + j) ≤ moN N k x y (N 5).toNat := by
  intro j
  induction j with
  | zero => intro _; have := (moN_ge (N := N) (k := k) (x := x) (y := y) (N 5).toNat).1; rwa [show x + ((0 : Nat) : Int) = x by omega]
  | succ j ih =>
    intro hj
    by_cases h : ∃ s : Int, 0 ≤ s ∧ s < N 5 ∧ alK N k s ∧ sF N s 2 = x + ((j + 1 : Nat) : Int)
    · obtain ⟨s, s0, s1, sa, sf⟩ := h
      have := (moN_ge (N := N) (k := k) (x := x) (y := y) (N 5).toNat).2 s s0 (by omega) sa (by omega) (by omega)
      rwa [sf] at this
    · have h2 := ih (by omega)
      have h3 : cnt N k (x + ((j + 1 : Nat) : Int)) ≤ cnt N k (x + (j : Int)) := cnt_mono h5 (fun s s0 s1 sa c1 c2 => by
        have : sF N s 2 ≠ x + ((j + 1 : Nat) : Int) := fun q => h ⟨s, s0, s1, sa, q⟩
        omega)
      omega
theorem grZ_ge (N : gN0) (k d : Int) : ∀ n : Nat, ∀ i : Int, 0 ≤ i → i < n → cnt N k (d + i) ≤ grZ N k d n := by
  intro n
  induction n with
  | zero => intro i i0 i1; have : i < 0 := i1; omega
  | succ n ih =>
    intro i i0 i1
    unfold grZ
    by_cases h : i = (n : Int)
    · rw [h]; omega
    · have := ih i i0 (by omega); omega
theorem grZ_le {N : gN0} {k d B : Int} (hB : 0 ≤ B) : ∀ n : Nat, (∀ i : Int, 0 ≤ i → i < n → cnt N k (d + i) ≤ B) → grZ N k d n ≤ B := by
  intro n
  induction n with
  | zero => intro _; exact hB
  | succ n ih =>
    intro h
    have h1 := ih (fun i i0 i1 => h i i0 (by omega))
    have h2 := h n (by omega) (by omega)
    unfold grZ
    omega
theorem gr_mo {N : gN0} (hI : InvC N) {k x y : Int} (h : x ≤ y) : moN N k x y (N 5).toNat = grZ N k x (y - x + 1).toNat := by
  have hs := hI.1
  unfold iScal at hs
  have h1 : grZ N k x (y - x + 1).toNat ≤ moN N k x y (N 5).toNat := grZ_le (moN_in hI k x y _).1 _ (fun i i0 i1 => by
    have := cnt_moN (N := N) (k := k) (x := x) (y := y) (by omega) i.toNat (by omega)
    rwa [show ((i.toNat : Nat) : Int) = i by omega] at this)
  have h2 : moN N k x y (N 5).toNat ≤ grZ N k x (y - x + 1).toNat := by
    have g := grZ_ge N k x (y - x + 1).toNat
    refine moN_le ?_ _ (fun s s0 s1 sa sx sy => ?_)
    · have := g 0 (Int.le_refl _) (by omega); rwa [Int.add_zero] at this
    · have := g (sF N s 2 - x) (by omega) (by omega); rwa [show x + (sF N s 2 - x) = sF N s 2 by omega] at this
  omega
/-- the month found: its first day is not behind, the next one's is -/
theorem mZ_ch {y k : Int} (h0 : 0 ≤ k) : bM y (mZ y k) ≤ k ∧ (mZ y k = 12 ∨ k < bM y (mZ y k + 1)) := by
  have hl := lp_01 y
  have e1 : bM y 1 = 0 := by simp [bM, bmT]
  have e2 : bM y 2 = 31 := by simp [bM, bmT]
  have e3 : bM y 3 = 59 + lp y := by simp [bM, bmT]
  have e4 : bM y 4 = 90 + lp y := by simp [bM, bmT]
  have e5 : bM y 5 = 120 + lp y := by simp [bM, bmT]
  have e6 : bM y 6 = 151 + lp y := by simp [bM, bmT]
  have e7 : bM y 7 = 181 + lp y := by simp [bM, bmT]
  have e8 : bM y 8 = 212 + lp y := by simp [bM, bmT]
  have e9 : bM y 9 = 243 + lp y := by simp [bM, bmT]
  have e10 : bM y 10 = 273 + lp y := by simp [bM, bmT]
  have e11 : bM y 11 = 304 + lp y := by simp [bM, bmT]
  have e12 : bM y 12 = 334 + lp y := by simp [bM, bmT]
  unfold mZ
  by_cases q2 : k < bM y 2
  · rw [if_pos q2]; exact ⟨by omega, Or.inr q2⟩
  rw [if_neg q2]
  by_cases q3 : k < bM y 3
  · rw [if_pos q3]; exact ⟨by omega, Or.inr q3⟩
  rw [if_neg q3]
  by_cases q4 : k < bM y 4
  · rw [if_pos q4]; exact ⟨by omega, Or.inr q4⟩
  rw [if_neg q4]
  by_cases q5 : k < bM y 5
  · rw [if_pos q5]; exact ⟨by omega, Or.inr q5⟩
  rw [if_neg q5]
  by_cases q6 : k < bM y 6
  · rw [if_pos q6]; exact ⟨by omega, Or.inr q6⟩
  rw [if_neg q6]
  by_cases q7 : k < bM y 7
  · rw [if_pos q7]; exact ⟨by omega, Or.inr q7⟩
  rw [if_neg q7]
  by_cases q8 : k < bM y 8
  · rw [if_pos q8]; exact ⟨by omega, Or.inr q8⟩
  rw [if_neg q8]
  by_cases q9 : k < bM y 9
  · rw [if_pos q9]; exact ⟨by omega, Or.inr q9⟩
  rw [if_neg q9]
  by_cases q10 : k < bM y 10
  · rw [if_pos q10]; exact ⟨by omega, Or.inr q10⟩
  rw [if_neg q10]
  by_cases q11 : k < bM y 11
  · rw [if_pos q11]; exact ⟨by omega, Or.inr q11⟩
  rw [if_neg q11]
  by_cases q12 : k < bM y 12
  · rw [if_pos q12]; exact ⟨by omega, Or.inr q12⟩
  rw [if_neg q12]
  exact ⟨by omega, Or.inl rfl⟩
/-- the days of a month -/
theorem mon_day {mo : Int} (h1 : 2000 ≤ mo / 100 ∧ mo / 100 ≤ 2099) (h2 : 1 ≤ mo % 100 ∧ mo % 100 ≤ 12) : dayZ (mo * 100 + 1) = yB (mo / 100) + bM (mo / 100) (mo % 100) := by
  have hd := bM_in (y := mo / 100) h2.1 h2.2
  have e1 : (mo * 100 + 1) / 10000 = mo / 100 := by omega
  have e2 : (mo * 100 + 1) / 100 % 100 = mo % 100 := by omega
  have e3 : (mo * 100 + 1) % 100 = 1 := by omega
  unfold dayZ
  rw [e1, e2, e3, if_pos ⟨by omega, h1.1, h1.2, h2.1, h2.2, by omega, by omega⟩]
  omega
theorem mon_iff {mo d : Int} (h1 : 2000 ≤ mo / 100 ∧ mo / 100 ≤ 2099) (h2 : 1 ≤ mo % 100 ∧ mo % 100 ≤ 12) (d0 : 0 ≤ d) (d1 : d ≤ 36524) : dateZ d / 100 = mo ↔ yB (mo / 100) + bM (mo / 100) (mo % 100) ≤ d ∧ d ≤ yB (mo / 100) + bM (mo / 100) (mo % 100) + dIM (mo / 100) (mo % 100) - 1 := by
  have hdd := day_date d0 d1
  have hdi := dateZ_in d0 d1
  have hb := bM_in (y := mo / 100) h2.1 h2.2
  have hyn := yB_next (mo / 100) h1.1
  have hyi := yr_in d0
  constructor
  · intro h
    have ey : yr d = mo / 100 := by omega
    have em : mZ (yr d) (d - yB (yr d)) = mo % 100 := by omega
    have hm2 := bM_in (y := yr d) hdi.2.2.1 hdi.2.2.2.1
    rw [em] at hdi hdd
    rw [ey] at hdi hdd hyi
    refine ⟨by omega, ?_⟩
    -- the day lies ahead of the month behind
    by_cases h12 : mo % 100 = 12
    · have := bM_13 (mo / 100)
      rw [h12] at hb ⊢
      omega
    · have hn := bM_next (mo / 100) (mo % 100) h2.1 (by omega)
      by_cases q : d ≤ yB (mo / 100) + bM (mo / 100) (mo % 100) + dIM (mo / 100) (mo % 100) - 1
      · exact q
      · exfalso
        have key : mZ (mo / 100) (d - yB (mo / 100)) ≠ mo % 100 := by
          intro e
          -- the month found has its end behind the day
          have hc := mZ_ch (y := mo / 100) (k := d - yB (mo / 100)) (by omega)
          rw [e] at hc
          omega
        rw [ey] at em
        exact key em
  · rintro ⟨h3, h4⟩
    have ey : yr d = mo / 100 := yr_of h1.1 (by omega) (by omega)
    have em : mZ (mo / 100) (d - yB (mo / 100)) = mo % 100 := by
      refine mZ_of h2.1 h2.2 (by omega) ?_
      by_cases h12 : mo % 100 = 12
      · exact Or.inl h12
      · right
        have hn := bM_next (mo / 100) (mo % 100) h2.1 (by omega)
        omega
    rw [ey] at hdd
    rw [em] at hdd
    omega
theorem mnI_eq {N : gN0} {mo s F T : Int} (h : ∀ d, 0 ≤ d → d ≤ 36524 → (dateZ d / 100 = mo ↔ F ≤ d ∧ d ≤ T)) (h0 : 0 ≤ sF N s 2) : ∀ n : Nat, sF N s 2 + n ≤ 36525 → mnI N mo s n = max 0 (min T (sF N s 2 + n - 1) - max F (sF N s 2) + 1) ∨ (n = 0 ∧ mnI N mo s n = 0) := by
  intro n
  induction n with
  | zero => intro _; exact Or.inr ⟨rfl, rfl⟩
  | succ n ih =>
    intro hn
    left
    have hi := h (sF N s 2 + n) (by omega) (by omega)
    unfold mnI
    have ih := ih (by omega)
    split
    · rename_i q
      have := hi.mp q
      rcases ih with ih | ⟨ih0, ih⟩
      · rw [ih]; omega
      · rw [ih]; omega
    · rename_i q
      have hq : ¬ (F ≤ sF N s 2 + n ∧ sF N s 2 + n ≤ T) := fun g => q (hi.mpr g)
      rcases ih with ih | ⟨ih0, ih⟩
      · rw [ih]; omega
      · rw [ih]; omega
theorem mnT_pn {N : gN0} (hI : InvC N) {mo F T : Int} (h : ∀ d, 0 ≤ d → d ≤ 36524 → (dateZ d / 100 = mo ↔ F ≤ d ∧ d ≤ T)) : ∀ n : Nat, (n : Int) ≤ N 5 → mnT N mo n = pnT N F T n := by
  intro n
  induction n with
  | zero => intro _; rfl
  | succ n ih =>
    intro hn
    have hs := (hI.2.2.2.1 n (by omega) (by omega)).1
    have e := mnI_eq (N := N) (s := n) h (by omega) (sF N n 3).toNat (by omega)
    unfold mnT pnT
    rw [ih (by omega)]
    split
    · rcases e with e | ⟨e, _⟩
      · rw [e, show (((sF N n 3).toNat : Nat) : Int) = sF N n 3 by omega]
      · omega
    · rfl
theorem miI_iw {N : gN0} {mo s F T : Int} (h : ∀ d, 0 ≤ d → d ≤ 36524 → (dateZ d / 100 = mo ↔ F ≤ d ∧ d ≤ T)) (h0 : 0 ≤ sF N s 2) : ∀ n : Nat, sF N s 2 + n ≤ 36525 → miI N mo s n = iwT N s F T n := by
  intro n
  induction n with
  | zero => intro _; rfl
  | succ n ih =>
    intro hn
    have hi := h (sF N s 2 + n) (by omega) (by omega)
    unfold miI iwT
    rw [ih (by omega)]
    by_cases q : dateZ (sF N s 2 + n) / 100 = mo
    · rw [if_pos q, if_pos (hi.mp q)]
    · rw [if_neg q, if_neg (fun g => q (hi.mpr g))]
theorem miT_pi {N : gN0} (hI : InvC N) {mo F T : Int} (h : ∀ d, 0 ≤ d → d ≤ 36524 → (dateZ d / 100 = mo ↔ F ≤ d ∧ d ≤ T)) : ∀ n : Nat, (n : Int) ≤ N 5 → miT N mo n = piT N F T n := by
  intro n
  induction n with
  | zero => intro _; rfl
  | succ n ih =>
    intro hn
    have hs := (hI.2.2.2.1 n (by omega) (by omega)).1
    unfold miT piT
    rw [ih (by omega), miI_iw (N := N) (s := n) h (by omega) (sF N n 3).toNat (by omega)]

