/-! the reference: what is awaited (rows laid by wip/whole/m13.py) -/
/-- thousand to the power of some days -/
def pw : Nat → Int
  | 0 => 1
  | n + 1 => pw n * 1000
def rsT (N : gN0) : Nat → Int
  | 0 => 1000
  | n + 1 => rsT N n - N (13 + n)
def inS (N : gN0) (w l c : Int) : Nat → Int
  | 0 => 0
  | n + 1 => inS N w l c n + N (13 + n) * max w (N (17 + n) * c + l)
/-- the awaited income, times a thousand to the power of the days -/
def incZ (N : gN0) : Nat → Nat → Int
  | 0, _ => 0
  | _ + 1, 0 => 0
  | d + 1, r + 1 => rsT N 4 * incZ N d (r + 1) + inS N (incZ N d (r + 1)) (incZ N d r) (pw d) 4
theorem rsT_in {N : gN0} (h : oOk N) : ∀ n : Nat, n ≤ 4 → 0 ≤ rsT N n ∧ rsT N n ≤ 1000 := by
  have h1 := h.1
  intro n hn
  have : n = 0 ∨ n = 1 ∨ n = 2 ∨ n = 3 ∨ n = 4 := by omega
  have e0 : rsT N 0 = 1000 := rfl
  have e1 : rsT N 1 = 1000 - N 13 := rfl
  have e2 : rsT N 2 = 1000 - N 13 - N 14 := rfl
  have e3 : rsT N 3 = 1000 - N 13 - N 14 - N 15 := rfl
  have e4 : rsT N 4 = 1000 - N 13 - N 14 - N 15 - N 16 := rfl
  rcases this with rfl | rfl | rfl | rfl | rfl <;> omega
theorem od_in {N : gN0} (h : oOk N) {n : Nat} (hn : n < 4) : 0 ≤ N (13 + n) ∧ N (13 + n) ≤ 1000 ∧ 0 ≤ N (17 + n) ∧ N (17 + n) ≤ 100000 := by
  obtain ⟨h1, h2, -⟩ := h
  have : n = 0 ∨ n = 1 ∨ n = 2 ∨ n = 3 := by omega
  rcases this with rfl | rfl | rfl | rfl
  · show 0 ≤ N 13 ∧ N 13 ≤ 1000 ∧ 0 ≤ N 17 ∧ N 17 ≤ 100000; omega
  · show 0 ≤ N 14 ∧ N 14 ≤ 1000 ∧ 0 ≤ N 18 ∧ N 18 ≤ 100000; omega
  · show 0 ≤ N 15 ∧ N 15 ≤ 1000 ∧ 0 ≤ N 19 ∧ N 19 ≤ 100000; omega
  · show 0 ≤ N 16 ∧ N 16 ≤ 1000 ∧ 0 ≤ N 20 ∧ N 20 ≤ 100000; omega
theorem inS_in {N : gN0} (h : oOk N) {w l c B : Int} (hw : 0 ≤ w) (hwB : w ≤ B) (hl : 0 ≤ l) (hc : 0 ≤ c) (hB : 100000 * c + l ≤ B) : ∀ n : Nat, n ≤ 4 → 0 ≤ inS N w l c n ∧ inS N w l c n ≤ (1000 - rsT N n) * B := by
  intro n
  induction n with
  | zero => intro _; refine ⟨Int.le_refl _, ?_⟩; show (0 : Int) ≤ (1000 - 1000) * B; omega
  | succ n ih =>
    intro hn
    have h1 := ih (by omega)
    have ho := od_in h (n := n) (by omega)
    have hp1 : 0 ≤ N (17 + n) * c := Int.mul_nonneg ho.2.2.1 hc
    have hp2 : N (17 + n) * c ≤ 100000 * c := Int.mul_le_mul_of_nonneg_right ho.2.2.2 hc
    have hx0 : 0 ≤ max w (N (17 + n) * c + l) := by omega
    have hx1 : max w (N (17 + n) * c + l) ≤ B := by omega
    have hm0 : 0 ≤ N (13 + n) * max w (N (17 + n) * c + l) := Int.mul_nonneg ho.1 hx0
    have hm1 : N (13 + n) * max w (N (17 + n) * c + l) ≤ N (13 + n) * B := Int.mul_le_mul_of_nonneg_left hx1 ho.1
    have e : (1000 - rsT N (n + 1)) * B = (1000 - rsT N n) * B + N (13 + n) * B := by
      rw [← Int.add_mul]
      congr 1
      show 1000 - (rsT N n - N (13 + n)) = _
      omega
    rw [e]
    unfold inS
    omega
/-- one day more, in part -/
theorem inc_st {N : gN0} (h : oOk N) {w l c B : Int} (hw : 0 ≤ w) (hwB : w ≤ B) (hl : 0 ≤ l) (hc : 0 ≤ c) (hB : 100000 * c + l ≤ B) {n : Nat} (hn : n ≤ 4) : 0 ≤ rsT N 4 * w ∧ rsT N 4 * w ≤ 1000 * B ∧ 0 ≤ rsT N 4 * w + inS N w l c n ∧ rsT N 4 * w + inS N w l c n ≤ 1000 * B := by
  have hr := rsT_in h 4 (Nat.le_refl _)
  have hs := inS_in h hw hwB hl hc hB n hn
  have h0 : 0 ≤ rsT N 4 * w := Int.mul_nonneg hr.1 hw
  have h1 : rsT N 4 * w ≤ rsT N 4 * B := Int.mul_le_mul_of_nonneg_left hwB hr.1
  have hB0 : 0 ≤ B := by omega
  have hm : rsT N 4 ≤ rsT N n := by
    have : n = 0 ∨ n = 1 ∨ n = 2 ∨ n = 3 ∨ n = 4 := by omega
    have h9 := h.1
    have e0 : rsT N 0 = 1000 := rfl
    have e1 : rsT N 1 = 1000 - N 13 := rfl
    have e2 : rsT N 2 = 1000 - N 13 - N 14 := rfl
    have e3 : rsT N 3 = 1000 - N 13 - N 14 - N 15 := rfl
    have e4 : rsT N 4 = 1000 - N 13 - N 14 - N 15 - N 16 := rfl
    rcases this with rfl | rfl | rfl | rfl | rfl <;> omega
  have h2 : rsT N 4 * B ≤ rsT N n * B := Int.mul_le_mul_of_nonneg_right hm hB0
  have h3 : rsT N n * B + (1000 - rsT N n) * B = 1000 * B := by rw [← Int.add_mul]; congr 1; omega
  have h4 : rsT N n * B ≤ 1000 * B := Int.mul_le_mul_of_nonneg_right (rsT_in h n hn).2 hB0
  omega
theorem pw_in {d : Nat} (h : d ≤ 4) : 1 ≤ pw d ∧ pw d ≤ 1000000000000 := by
  have : d = 0 ∨ d = 1 ∨ d = 2 ∨ d = 3 ∨ d = 4 := by omega
  rcases this with rfl | rfl | rfl | rfl | rfl <;> decide
/-- the greatest that can be awaited -/
def mxI (d : Nat) : Int := (d : Int) * 100000 * pw d
theorem mxI_next (d : Nat) : 1000 * ((d + 1 : Nat) * 100000 * pw d : Int) = mxI (d + 1) := by
  unfold mxI
  show _ = _ * _ * (pw d * 1000)
  rw [Int.mul_comm 1000, Int.mul_assoc]
theorem incZ_in {N : gN0} (h : oOk N) : ∀ (d r : Nat), d ≤ 4 → 0 ≤ incZ N d r ∧ incZ N d r ≤ mxI d := by
  intro d
  induction d with
  | zero => intro r _; unfold incZ; exact ⟨Int.le_refl _, by decide⟩
  | succ d ih =>
    intro r hd
    have hp := pw_in (d := d) (by omega)
    have hB : mxI d + 100000 * pw d = ((d + 1 : Nat) * 100000 * pw d : Int) := by
      have e : ((d + 1 : Nat) : Int) * 100000 = (d : Int) * 100000 + 100000 := by omega
      unfold mxI
      rw [e, Int.add_mul]
    cases r with
    | zero =>
      unfold incZ
      refine ⟨Int.le_refl _, ?_⟩
      unfold mxI
      have h1 : (0 : Int) ≤ pw (d + 1) := by have := pw_in (d := d + 1) hd; omega
      exact Int.mul_nonneg (by omega) h1
    | succ r =>
      have h1 := ih (r + 1) (by omega)
      have h2 := ih r (by omega)
      have h3 := inc_st h (w := incZ N d (r + 1)) (l := incZ N d r) (c := pw d) (B := ((d + 1 : Nat) * 100000 * pw d : Int)) h1.1 (by omega) h2.1 (by omega) (by omega) (Nat.le_refl 4)
      rw [incZ, ← mxI_next]
      exact ⟨h3.2.2.1, h3.2.2.2⟩
theorem mxI_in {d : Nat} (h : d ≤ 4) : 0 ≤ mxI d ∧ mxI d ≤ 400000000000000000 := by
  have : d = 0 ∨ d = 1 ∨ d = 2 ∨ d = 3 ∨ d = 4 := by omega
  rcases this with rfl | rfl | rfl | rfl | rfl <;> decide
/-- the memory with incomes laid -/
def inV (V : gV) (b : Int) (N : gN0) (m : Int) : gV := fun a j => if a = b + 4 ∧ 0 ≤ j ∧ j < m then incZ N (j / 6).toNat (j % 6).toNat else V a j
theorem inV_0 (V : gV) (b : Int) (N : gN0) : V = inV V b N 0 := by
  funext a j
  unfold inV
  rw [if_neg (by omega)]
theorem inV_in (V : gV) (b : Int) (N : gN0) (m m' : Int) (h : m ≤ m') : inV (inV V b N m) b N m' = inV V b N m' := by
  funext a j
  unfold inV
  by_cases q : a = b + 4 ∧ 0 ≤ j ∧ j < m'
  · rw [if_pos q, if_pos q]
  · rw [if_neg q, if_neg q, if_neg (fun g => q ⟨g.1, g.2.1, by omega⟩)]
theorem gMd_in {b : Int} {N N' : gN0} {Sh : gSh} {V : gV} (h : gMd b N Sh V) (m : Int) : gMd b N Sh (inV V b N' m) := by
  have k : ∀ a, a ≠ b + 4 → inV V b N' m a = V a := by
    intro a ha
    funext j
    unfold inV
    rw [if_neg (fun q => ha q.1)]
  obtain ⟨h1, ⟨h2, h3, h4, h5, h6⟩, h7⟩ := h
  have kb := k b (by omega)
  refine ⟨h1, ⟨?_, ?_, ?_, ?_, ?_⟩, ?_⟩
  · rw [kb]; exact h2
  · rw [kb]; exact h3
  · rw [kb]; exact h4
  · rw [kb]; exact h5
  · rw [kb]; exact h6
  · rw [k (b + 1) (by omega)]; exact h7
theorem inV_at {V : gV} {b : Int} {N : gN0} {m : Int} {d r : Nat} {j : Int} (hj : j = 6 * d + r) (hr : r < 6) (hm : j < m) : inV V b N m (b + 4) j = incZ N d r := by
  unfold inV
  rw [if_pos ⟨rfl, by omega, hm⟩, show (j / 6).toNat = d by omega, show (j % 6).toNat = r by omega]
theorem inV_up {V : gV} {b : Int} {N : gN0} {m x : Int} {d r : Nat} (hj : m = 6 * d + r) (hr : r < 6) (hx : x = incZ N d r) : up (inV V b N m) (b + 4) m x = inV V b N (m + 1) := by
  funext a i
  unfold up
  by_cases h : a = b + 4 ∧ i = m
  · obtain ⟨rfl, rfl⟩ := h
    rw [if_pos ⟨rfl, rfl⟩, inV_at (d := d) (r := r) hj hr (by omega), hx]
  · rw [if_neg h]
    unfold inV
    by_cases h2 : a = b + 4 ∧ 0 ≤ i ∧ i < m
    · rw [if_pos h2, if_pos ⟨h2.1, h2.2.1, by omega⟩]
    · rw [if_neg h2, if_neg (fun q => by omega)]
theorem up_up (V : gV) (a i x y : Int) : up (up V a i x) a i y = up V a i y := by
  funext c j
  unfold up
  split
  · rfl
  · rfl
theorem inc_st2 {N : gN0} (h : oOk N) {d : Nat} (r : Nat) (hd : d < 4) {n : Nat} (hn : n ≤ 4) : (0 ≤ rsT N 4 * incZ N d (r + 1) ∧ rsT N 4 * incZ N d (r + 1) ≤ 400000000000000000) ∧ (0 ≤ rsT N 4 * incZ N d (r + 1) + inS N (incZ N d (r + 1)) (incZ N d r) (pw d) n ∧ rsT N 4 * incZ N d (r + 1) + inS N (incZ N d (r + 1)) (incZ N d r) (pw d) n ≤ 400000000000000000) := by
  have h1 := incZ_in h d (r + 1) (by omega)
  have h2 := incZ_in h d r (by omega)
  have hp := pw_in (d := d) (by omega)
  have hB : mxI d + 100000 * pw d = ((d + 1 : Nat) * 100000 * pw d : Int) := by
    have e : ((d + 1 : Nat) : Int) * 100000 = (d : Int) * 100000 + 100000 := by omega
    unfold mxI
    rw [e, Int.add_mul]
  have h3 := inc_st h (w := incZ N d (r + 1)) (l := incZ N d r) (c := pw d) (B := ((d + 1 : Nat) * 100000 * pw d : Int)) h1.1 (by omega) h2.1 (by omega) (by omega) hn
  have hx := mxI_in (d := d + 1) (by omega)
  rw [mxI_next] at h3
  omega
theorem inc_mx {N : gN0} (h : oOk N) {d : Nat} (r : Nat) (hd : d < 4) {n : Nat} (hn : n < 4) : 0 ≤ N (17 + n) * pw d + incZ N d r ∧ N (17 + n) * pw d + incZ N d r ≤ 800000000000000000 := by
  have ho := od_in h hn
  have hp := pw_in (d := d) (by omega)
  have h2 := incZ_in h d r (by omega)
  have hx := mxI_in (d := d) (by omega)
  have hp1 : 0 ≤ N (17 + n) * pw d := Int.mul_nonneg ho.2.2.1 (by omega)
  have hp2 : N (17 + n) * pw d ≤ 100000 * pw d := Int.mul_le_mul_of_nonneg_right ho.2.2.2 (by omega)
  omega
def limZ (N : gN0) (days rooms : Int) : Int := wI (Int.tdiv (incZ N (days - 1).toNat rooms.toNat - incZ N (days - 1).toNat (rooms - 1).toNat + pw (days - 1).toNat - 1) (pw (days - 1).toNat))

theorem kX12_laysIncomes {E l Sh V z} {b : Int} {N : gN0} (hm : gMd b N Sh V) (ho : oOk N) : gM E l yX12_laysIncomes (.code yX12_laysIncomes cX12_laysIncomes 12 none) (rmk 1 0 0 45) [(2, b)] Sh V z (gR none Sh (inV V b N 30)) := by
  refine gM_at (L0 := [(2, b), (9, 0), (9, 0), (9, 0), (9, 0), (9, 0), (9, 0), (9, 0), (9, 0), (9, 0), (9, 0), (9, 0)]) rfl rfl rfl ?_
  intro p e s m args below meth c hC hr hex hnm hz
  have hod := ho.1
  have hrs4 := rsT_in ho 4 (Nat.le_refl _)
  refine gB hC _ _ _ _ _ _ _ qX12_laysIncomes_0 rfl ?_
  refine g_loop (fun x : Nat => x ≤ 4) (fun x => 4 - x) 6 (fun x => [(2, b), (0, rsT N x), (0, (x : Int)), (9, 0), (9, 0), (9, 0), (9, 0), (9, 0), (9, 0), (9, 0), (9, 0), (9, 0)]) (fun _ => V) 0 (by decide) ?_
  rintro n z hn ih
  have hrs := rsT_in ho n hn
  refine gB hC _ _ _ _ _ _ _ qX12_laysIncomes_6 rfl ?_
  refine g_icmp_ge hC 29 dX12_laysIncomes_8 rfl (by first | omega | exact bI_in _) (by first | omega | exact bI_in _) (fun c8 => ?_) (fun c8 => ?_)
  · refine gB hC _ _ _ _ _ _ _ qX12_laysIncomes_29 rfl ?_
    obtain rfl : n = 4 := by omega
    clear ih
    rw [inV_0 V b N]
    refine g_loop (fun x : Nat × aV × aV × aV × aV × aV => x.1 ≤ 5) (fun x => 5 - x.1) 34 (fun x => [(2, b), (0, rsT N 4), (1, pw (x.1 - 1)), (9, 0), (0, (x.1 : Int)), x.2.1, x.2.2.1, x.2.2.2.1, (9, 0), x.2.2.2.2.1, (9, 0), x.2.2.2.2.2]) (fun x => inV V b N (6 * (x.1 : Int))) (0, (9, 0), (9, 0), (9, 0), (9, 0), (9, 0)) (by decide) ?_
    rintro ⟨d, a5, a6, a7, a9, a11⟩ z hd ih
    dsimp only at hd ih ⊢
    have hmd := gMd_in (N' := N) hm (6 * (d : Int))
    refine gB hC _ _ _ _ _ _ _ qX12_laysIncomes_34 rfl ?_
    refine g_icmp_gt hC 199 dX12_laysIncomes_37 rfl (by first | omega | exact bI_in _) (by first | omega | exact bI_in _) (fun c37 => ?_) (fun c37 => ?_)
    · refine g_return hC dX12_laysIncomes_199 hr ⟨rfl, rfl, ?_⟩ gs_rfl ⟨Nat.le_of_ble_eq_true rfl, Nat.le_of_ble_eq_true rfl⟩
      rw [← inV_0 V b N, show 6 * (d : Int) = 30 by omega]
    · refine gB hC _ _ _ _ _ _ _ qX12_laysIncomes_40 rfl ?_
      have hpw := pw_in (d := d - 1) (by omega)
      rw [show 6 * (d : Int) = 6 * (d : Int) + ((0 : Nat) : Int) by omega]
      refine g_loop (fun x : Nat × aV × aV × aV × aV => x.1 ≤ 6) (fun x => 6 - x.1) 43 (fun x => [(2, b), (0, rsT N 4), (1, pw (d - 1)), (9, 0), (0, (d : Int)), (0, (x.1 : Int)), x.2.1, x.2.2.1, (9, 0), x.2.2.2.1, (9, 0), x.2.2.2.2]) (fun x => inV V b N (6 * (d : Int) + x.1)) (0, a6, a7, a9, a11) (Nat.zero_le _) ?_
      rintro ⟨r, a6, a7, a9, a11⟩ z hr ih2
      dsimp only at hr ih2 ⊢
      have hmr := gMd_in (N' := N) hm (6 * (d : Int) + r)
      refine gB hC _ _ _ _ _ _ _ qX12_laysIncomes_43 rfl ?_
      refine g_icmp_gt hC 182 dX12_laysIncomes_46 rfl (by first | omega | exact bI_in _) (by first | omega | exact bI_in _) (fun c46 => ?_) (fun c46 => ?_)
      · refine gB hC _ _ _ _ _ _ _ qX12_laysIncomes_182 rfl ?_
        refine g_if_le hC 193 dX12_laysIncomes_184 rfl (by first | omega | exact bI_in _) (fun c184 => ?_) (fun c184 => ?_)
        · refine gB hC _ _ _ _ _ _ _ qX12_laysIncomes_193 rfl ?_
          rw [show 6 * (d : Int) + (r : Int) = 6 * ((d + 1 : Nat) : Int) by omega]
          by_cases hd0 : d = 0
          · subst hd0
            first
            | exact ih (0 + 1, _, _, _, _, _) z (by show 0 + 1 ≤ 5; decide) (by show 5 - (0 + 1) < 5 - 0; decide)
            | (exfalso; omega)
          · obtain ⟨d', rfl⟩ : ∃ d', d = d' + 1 := ⟨d - 1, by omega⟩
            first
            | (exfalso; omega)
            | exact ih (d' + 1 + 1, _, _, _, _, _) z (by show d' + 1 + 1 ≤ 5; omega) (by show 5 - (d' + 1 + 1) < 5 - (d' + 1); omega)
        · refine gB hC _ _ _ _ _ _ _ qX12_laysIncomes_187 rfl ?_
          refine g_ldc2 hC 1000 kX12_171 rfl dX12_laysIncomes_188 ?_
          refine gB hC _ _ _ _ _ _ _ qX12_laysIncomes_191 rfl ?_
          refine gB hC _ _ _ _ _ _ _ qX12_laysIncomes_193 rfl ?_
          rw [show 6 * (d : Int) + (r : Int) = 6 * ((d + 1 : Nat) : Int) by omega]
          by_cases hd0 : d = 0
          · subst hd0
            first
            | exact ih (0 + 1, _, _, _, _, _) z (by show 0 + 1 ≤ 5; decide) (by show 5 - (0 + 1) < 5 - 0; decide)
            | (exfalso; omega)
          · obtain ⟨d', rfl⟩ : ∃ d', d = d' + 1 := ⟨d - 1, by omega⟩
            first
            | (exfalso; omega)
            | exact ih (d' + 1 + 1, _, _, _, _, _) z (by show d' + 1 + 1 ≤ 5; omega) (by show 5 - (d' + 1 + 1) < 5 - (d' + 1); omega)
      · refine gB hC _ _ _ _ _ _ _ qX12_laysIncomes_49 rfl ?_
        refine g_getr hC dX12_laysIncomes_60 fX12_19 hmr.1.1 (by decide) rfl 5 rfl hmr.2.1.2.2.2.1 ?_
        rw [show (d : Int) * 6 + r = 6 * (d : Int) + r by omega]
        refine gB hC _ _ _ _ _ _ _ qX12_laysIncomes_63 rfl ?_
        refine g_lst hC dX12_laysIncomes_66 hmr.1.2.2.2.2.1 (by omega) (by omega) (by decide) (by first | omega | exact bI_in _) (fun V66 e66 => ?_)
        have hm66 := gMd_o hmr e66 (Or.inl ⟨by omega, by omega⟩)
        replace e66 : V66 = up (inV V b N (6 * (d : Int) + r)) (b + 4) (6 * (d : Int) + r) 0 := e66
        refine gB hC _ _ _ _ _ _ _ qX12_laysIncomes_67 rfl ?_
        refine g_if_eq hC 176 dX12_laysIncomes_69 rfl (by first | omega | exact bI_in _) (fun c69 => ?_) (fun c69 => ?_)
        · refine gB hC _ _ _ _ _ _ _ qX12_laysIncomes_176 rfl ?_
          have hz9 : (0 : Int) = incZ N d r := by
            by_cases hd0 : d = 0
            · subst hd0; rw [incZ]
            · obtain ⟨d', rfl⟩ : ∃ d', d = d' + 1 := ⟨d - 1, by omega⟩
              obtain rfl : r = 0 := by omega
              rw [incZ]
          rw [e66, inV_up (d := d) (r := r) rfl (by omega) hz9, show 6 * (d : Int) + r + 1 = 6 * (d : Int) + ((r + 1 : Nat) : Int) by omega]
          exact ih2 (r + 1, _, _, _, _) z (by show r + 1 ≤ 6; omega) (by show 6 - (r + 1) < 6 - r; omega)
        · refine gB hC _ _ _ _ _ _ _ qX12_laysIncomes_72 rfl ?_
          refine g_if_ne hC 80 dX12_laysIncomes_74 rfl (by first | omega | exact bI_in _) (fun c74 => ?_) (fun c74 => ?_)
          · obtain ⟨d', rfl⟩ : ∃ d', d = d' + 1 := ⟨d - 1, by omega⟩
            obtain ⟨r', rfl⟩ : ∃ r', r = r' + 1 := ⟨r - 1, by omega⟩
            simp only [Nat.add_sub_cancel]
            have hw9 : V66 (b + 4) (6 * ((d' + 1 : Nat) : Int) + ((r' + 1 : Nat) : Int) - 5 - 1) = incZ N d' (r' + 1) := by rw [e66, up_ne _ _ (Or.inr (by omega))]; exact inV_at (by omega) (by omega) (by omega)
            have hl9 : V66 (b + 4) (6 * ((d' + 1 : Nat) : Int) + ((r' + 1 : Nat) : Int) - 5 - 2) = incZ N d' r' := by rw [e66, up_ne _ _ (Or.inr (by omega))]; exact inV_at (by omega) (by omega) (by omega)
            have hst := fun (n : Nat) (hn : n ≤ 4) => inc_st2 ho r' (d := d') (by omega) hn
            have hst0 := hst 0 (by decide)
            have hwi := incZ_in ho d' (r' + 1) (by omega)
            have hli := incZ_in ho d' r' (by omega)
            have hmi := mxI_in (d := d') (by omega)
            refine gB hC _ _ _ _ _ _ _ qX12_laysIncomes_80 rfl ?_
            refine g_getr hC dX12_laysIncomes_81 fX12_19 hm66.1.1 (by decide) rfl 5 rfl hm66.2.1.2.2.2.1 ?_
            refine gB hC _ _ _ _ _ _ _ qX12_laysIncomes_84 rfl ?_
            refine g_lald hC dX12_laysIncomes_90 hm66.1.2.2.2.2.1 hw9 (by omega) (by omega) (by decide) (fun i90 => ?_)
            
            refine gB hC _ _ _ _ _ _ _ qX12_laysIncomes_91 rfl ?_
            refine g_getr hC dX12_laysIncomes_94 fX12_19 hm66.1.1 (by decide) rfl 5 rfl hm66.2.1.2.2.2.1 ?_
            refine gB hC _ _ _ _ _ _ _ qX12_laysIncomes_97 rfl ?_
            refine g_lald hC dX12_laysIncomes_103 hm66.1.2.2.2.2.1 hl9 (by omega) (by omega) (by decide) (fun i103 => ?_)
            refine gB hC _ _ _ _ _ _ _ qX12_laysIncomes_104 rfl ?_
            refine g_getr hC dX12_laysIncomes_107 fX12_19 hm66.1.1 (by decide) rfl 5 rfl hm66.2.1.2.2.2.1 ?_
            refine gB hC _ _ _ _ _ _ _ qX12_laysIncomes_110 rfl ?_
            refine g_i2l hC dX12_laysIncomes_113 (by first | omega | exact bI_in _) ?_
            refine gB hC _ _ _ _ _ _ _ qX12_laysIncomes_114 rfl ?_
            refine g_lst hC dX12_laysIncomes_117 hm66.1.2.2.2.2.1 (by omega) (by omega) (by decide) (by first | omega | exact bI_in _) (fun V117 e117 => ?_)
            have hm117 := gMd_o hm66 e117 (Or.inl ⟨by omega, by omega⟩)
            refine gB hC _ _ _ _ _ _ _ qX12_laysIncomes_118 rfl ?_
            rw [e117, e66, up_up]
            refine g_loop (fun x : Nat × Int => x.1 ≤ 4 ∧ x.2 = rsT N 4 * incZ N d' (r' + 1) + inS N (incZ N d' (r' + 1)) (incZ N d' r') (pw d') x.1) (fun x => 4 - x.1) 121 (fun x => [_, _, _, _, _, _, _, _, _, _, _, (0, (x.1 : Int))]) (fun x => up (inV V b N (6 * ((d' + 1 : Nat) : Int) + ((r' + 1 : Nat) : Int))) (b + 4) (6 * ((d' + 1 : Nat) : Int) + ((r' + 1 : Nat) : Int)) x.2) (0, rsT N 4 * incZ N d' (r' + 1)) ⟨Nat.zero_le _, (Int.add_zero _).symm⟩ ?_
            rintro ⟨n, v⟩ z ⟨hn, hv⟩ ih3
            dsimp only at hn hv ih3 ⊢
            have hmn : gMd b N Sh (up (inV V b N (6 * ((d' + 1 : Nat) : Int) + ((r' + 1 : Nat) : Int))) (b + 4) (6 * ((d' + 1 : Nat) : Int) + ((r' + 1 : Nat) : Int)) v) := gMd_o hmr rfl (Or.inl ⟨by omega, by omega⟩)
            have hvn : up (inV V b N (6 * ((d' + 1 : Nat) : Int) + ((r' + 1 : Nat) : Int))) (b + 4) (6 * ((d' + 1 : Nat) : Int) + ((r' + 1 : Nat) : Int)) v (b + 4) (6 * ((d' + 1 : Nat) : Int) + ((r' + 1 : Nat) : Int)) = v := up_eq _ _ _ _
            refine gB hC _ _ _ _ _ _ _ qX12_laysIncomes_121 rfl ?_
            refine g_icmp_ge hC 176 dX12_laysIncomes_124 rfl (by first | omega | exact bI_in _) (by first | omega | exact bI_in _) (fun c124 => ?_) (fun c124 => ?_)
            · refine gB hC _ _ _ _ _ _ _ qX12_laysIncomes_176 rfl ?_
              have hn4 : n = 4 := by omega
              subst hn4
              rw [inV_up (d := d' + 1) (r := r' + 1) rfl (by omega) (show v = incZ N (d' + 1) (r' + 1) by rw [hv, incZ]), show 6 * ((d' + 1 : Nat) : Int) + ((r' + 1 : Nat) : Int) + 1 = 6 * ((d' + 1 : Nat) : Int) + ((r' + 1 + 1 : Nat) : Int) by omega]
              exact ih2 (r' + 1 + 1, _, _, _, _) z (by show r' + 1 + 1 ≤ 6; omega) (by show 6 - (r' + 1 + 1) < 6 - (r' + 1); omega)
            · have hodn := od_in ho (n := n) (by omega)
              have hmx := inc_mx ho r' (d := d') (by omega) (n := n) (by omega)
              have hsn := hst n hn
              have hsn1 := hst (n + 1) (by omega)
              have his : inS N (incZ N d' (r' + 1)) (incZ N d' r') (pw d') (n + 1) = inS N (incZ N d' (r' + 1)) (incZ N d' r') (pw d') n + N (13 + n) * max (incZ N d' (r' + 1)) (N (17 + n) * pw d' + incZ N d' r') := rfl
              refine gB hC _ _ _ _ _ _ _ qX12_laysIncomes_127 rfl ?_
              refine g_getr hC dX12_laysIncomes_128 fX12_19 hmn.1.1 (by decide) rfl 5 rfl hmn.2.1.2.2.2.1 ?_
              refine gB hC _ _ _ _ _ _ _ qX12_laysIncomes_131 rfl ?_
              refine g_lald hC dX12_laysIncomes_134 hmn.1.2.2.2.2.1 hvn (by omega) (by omega) (by decide) (fun i134 => ?_)
              refine gB hC _ _ _ _ _ _ _ qX12_laysIncomes_135 rfl ?_
              refine g_getr hC dX12_laysIncomes_136 fX12_9 hmn.1.1 (by decide) rfl 0 rfl hmn.2.1.1 ?_
              refine gB hC _ _ _ _ _ _ _ qX12_laysIncomes_139 rfl ?_
              refine g_iald hC dX12_laysIncomes_144 hmn.1.2.1 (gMd_at hmn _) (by omega) (by omega) (by decide) (fun i144 => ?_)
              refine g_i2l hC dX12_laysIncomes_145 (by first | omega | exact bI_in _) ?_
              refine gB hC _ _ _ _ _ _ _ qX12_laysIncomes_146 rfl ?_
              refine g_getr hC dX12_laysIncomes_149 fX12_9 hmn.1.1 (by decide) rfl 0 rfl hmn.2.1.1 ?_
              refine gB hC _ _ _ _ _ _ _ qX12_laysIncomes_152 rfl ?_
              refine g_iald hC dX12_laysIncomes_157 hmn.1.2.1 (gMd_at hmn _) (by omega) (by omega) (by decide) (fun i157 => ?_)
              refine g_i2l hC dX12_laysIncomes_158 (by first | omega | exact bI_in _) ?_
              refine gB hC _ _ _ _ _ _ _ qX12_laysIncomes_159 rfl ?_
              refine g_maxL hC dX12_laysIncomes_164 mX12_168 (by first | omega | exact bI_in _) (by first | omega | exact bI_in _) ⟨Nat.le_of_ble_eq_true rfl, Nat.le_of_ble_eq_true rfl, Nat.le_of_ble_eq_true rfl, Nat.le_of_ble_eq_true rfl⟩ ?_
              refine gB hC _ _ _ _ _ _ _ qX12_laysIncomes_167 rfl ?_
              refine g_lst hC dX12_laysIncomes_169 hmn.1.2.2.2.2.1 (by omega) (by omega) (by decide) (by first | omega | exact bI_in _) (fun V169 e169 => ?_)
              have hm169 := gMd_o hmn e169 (Or.inl ⟨by omega, by omega⟩)
              refine gB hC _ _ _ _ _ _ _ qX12_laysIncomes_170 rfl ?_
              rw [e169, up_up]
              exact ih3 (n + 1, _) z ⟨by show n + 1 ≤ 4; omega, by show v + _ = _; rw [his]; omega⟩ (by show 4 - (n + 1) < 4 - n; omega)
          · refine gB hC _ _ _ _ _ _ _ qX12_laysIncomes_77 rfl ?_
            refine gB hC _ _ _ _ _ _ _ qX12_laysIncomes_176 rfl ?_
            have hz9 : (0 : Int) = incZ N d r := by
              by_cases hd0 : d = 0
              · subst hd0; rw [incZ]
              · obtain ⟨d', rfl⟩ : ∃ d', d = d' + 1 := ⟨d - 1, by omega⟩
                obtain rfl : r = 0 := by omega
                rw [incZ]
            rw [e66, inV_up (d := d) (r := r) rfl (by omega) hz9, show 6 * (d : Int) + r + 1 = 6 * (d : Int) + ((r + 1 : Nat) : Int) by omega]
            exact ih2 (r + 1, _, _, _, _) z (by show r + 1 ≤ 6; omega) (by show 6 - (r + 1) < 6 - r; omega)
  · refine gB hC _ _ _ _ _ _ _ qX12_laysIncomes_11 rfl ?_
    refine g_getr hC dX12_laysIncomes_13 fX12_9 hm.1.1 (by decide) rfl 0 rfl hm.2.1.1 ?_
    refine gB hC _ _ _ _ _ _ _ qX12_laysIncomes_16 rfl ?_
    refine g_iald hC dX12_laysIncomes_20 hm.1.2.1 (gMd_at hm _) (by omega) (by omega) (by decide) (fun i20 => ?_)
    refine gB hC _ _ _ _ _ _ _ qX12_laysIncomes_21 rfl ?_
    exact ih (n + 1) z (by omega) (by omega)

theorem kX12_incomeOf {E l Sh V z} {b : Int} {N : gN0} {V0 : gV} {d0 r0 : Int} (hm : gMd b N Sh V) (hv : V = inV V0 b N 30) (h0 : 0 ≤ d0) (h1 : d0 ≤ 4) (h2 : 0 ≤ r0) (h3 : r0 ≤ 5) : gM E l yX12_incomeOf (.code yX12_incomeOf cX12_incomeOf 3 (some .long)) (rmk 0 0 0 0) [(2, b), (0, d0), (0, r0)] Sh V z (gRl (incZ N d0.toNat r0.toNat) Sh V) := by
  refine gM_at (L0 := [(2, b), (0, d0), (0, r0)]) rfl rfl rfl ?_
  intro p e s m args below meth c hC hr hex hnm hz
  have hi9 : V (b + 4) (d0 * 6 + r0) = incZ N d0.toNat r0.toNat := by rw [hv]; exact inV_at (by omega) (by omega) (by omega)
  refine gB hC _ _ _ _ _ _ _ qX12_incomeOf_0 rfl ?_
  refine g_getr hC dX12_incomeOf_1 fX12_19 hm.1.1 (by decide) rfl 5 rfl hm.2.1.2.2.2.1 ?_
  refine gB hC _ _ _ _ _ _ _ qX12_incomeOf_4 rfl ?_
  refine g_lald hC dX12_incomeOf_10 hm.1.2.2.2.2.1 hi9 (by omega) (by omega) (by decide) (fun i10 => ?_)
  refine g_lreturn hC dX12_incomeOf_11 hr ⟨rfl, rfl, rfl, by assumption⟩ gs_rfl ⟨Nat.le_of_ble_eq_true rfl, Nat.le_of_ble_eq_true rfl⟩

theorem kX12_limitOf {E l Sh V z} {b : Int} {N : gN0} {d0 r0 : Int} (hm : gMd b N Sh V) (ho : oOk N) (h0 : 1 ≤ d0) (h1 : d0 ≤ 4) (h2 : 1 ≤ r0) (h3 : r0 ≤ 4) : gM E l yX12_limitOf (.code yX12_limitOf cX12_limitOf 7 (some .int)) (rmk 2 0 0 85) [(2, b), (0, d0), (0, r0)] Sh V z (gRi (limZ N d0 r0) Sh (inV V b N 30)) := by
  refine gM_at (L0 := [(2, b), (0, d0), (0, r0), (9, 0), (9, 0), (9, 0), (9, 0)]) rfl rfl rfl ?_
  intro p e s m args below meth c hC hr hex hnm hz
  refine gB hC _ _ _ _ _ _ _ qX12_limitOf_0 rfl ?_
  refine g_cV0m hC dX12_limitOf_1 mX12_173 vX12_laysIncomes (kX12_laysIncomes hm ho) rfl hm.1.1 (by decide) rfl (Nat.le_of_ble_eq_true rfl) (RR rfl rfl rfl rfl) (fun z V1 e1 => ?_)
  have hm1 : gMd b N Sh V1 := by rw [e1]; exact gMd_in hm _
  refine gB hC _ _ _ _ _ _ _ qX12_limitOf_4 rfl ?_
  refine g_loop (fun x : Nat => x ≤ (d0 - 1).toNat) (fun x => (d0 - 1).toNat - x) 9 (fun x => [(2, b), (0, d0), (0, r0), (1, pw x), (9, 0), (0, (x : Int) + 1), (9, 0)]) (fun _ => V1) 0 (Nat.zero_le _) ?_
  rintro n z hn ih
  have hpn := pw_in (d := n) (by omega)
  refine gB hC _ _ _ _ _ _ _ qX12_limitOf_9 rfl ?_
  refine g_icmp_ge hC 27 dX12_limitOf_12 rfl (by first | omega | exact bI_in _) (by first | omega | exact bI_in _) (fun c12 => ?_) (fun c12 => ?_)
  · obtain rfl : n = (d0 - 1).toNat := by omega
    have hia := incZ_in ho (d0 - 1).toNat r0.toNat (by omega)
    have hib := incZ_in ho (d0 - 1).toNat (r0 - 1).toNat (by omega)
    have hmx := mxI_in (d := (d0 - 1).toNat) (by omega)
    refine gB hC _ _ _ _ _ _ _ qX12_limitOf_27 rfl ?_
    refine g_cV1l hC dX12_limitOf_32 mX12_176 vX12_incomeOf (kX12_incomeOf hm1 e1 (by omega) (by omega) (by omega) (by omega)) rfl hm1.1.1 (by decide) rfl (Nat.le_of_ble_eq_true rfl) (RR rfl rfl rfl rfl) (fun z i32 => ?_)
    refine gB hC _ _ _ _ _ _ _ qX12_limitOf_35 rfl ?_
    refine g_cV1l hC dX12_limitOf_42 mX12_176 vX12_incomeOf (kX12_incomeOf hm1 e1 (by omega) (by omega) (by omega) (by omega)) rfl hm1.1.1 (by decide) rfl (Nat.le_of_ble_eq_true rfl) (RR rfl rfl rfl rfl) (fun z i42 => ?_)
    refine gB hC _ _ _ _ _ _ _ qX12_limitOf_45 rfl ?_
    refine g_ldivT hC dX12_limitOf_55 (by omega) (by omega) (by omega) (Or.inr (by omega)) ?_
    refine gB hC _ _ _ _ _ _ _ qX12_limitOf_56 rfl ?_
    refine g_wrap1 ?_
    refine g_ireturn hC dX12_limitOf_57 hr ⟨rfl, rfl, e1, i32_in _⟩ gs_rfl ⟨Nat.le_of_ble_eq_true rfl, Nat.le_of_ble_eq_true rfl⟩
  · refine gB hC _ _ _ _ _ _ _ qX12_limitOf_15 rfl ?_
    refine g_ldc2 hC 1000 kX12_171 rfl dX12_limitOf_16 ?_
    refine gB hC _ _ _ _ _ _ _ qX12_limitOf_19 rfl ?_
    exact ih (n + 1) z (by omega) (by omega)

theorem kX12_awaited {E l Sh V z} {b : Int} {N : gN0} {days rooms : Int} (hm : gMd b N Sh V) (hI : INV N) (h1 : inI days) (h2 : inI rooms) : gM E l yX12_awaited (.code yX12_awaited cX12_awaited 3 (some .long)) (rmk 8 0 0 200) [(2, b), (0, days), (0, rooms)] Sh V z (gRl (if (fitC (bI ((0 ≤ days ∧ days ≤ 4) ∧ 0 ≤ rooms ∧ rooms ≤ 5)) 1 1) = 0 then incZ N days.toNat rooms.toNat else 0) Sh (if (fitC (bI ((0 ≤ days ∧ days ≤ 4) ∧ 0 ≤ rooms ∧ rooms ≤ 5)) 1 1) = 0 then inV (up V b 3 0) b N 30 else up V b 3 (fitC (bI ((0 ≤ days ∧ days ≤ 4) ∧ 0 ≤ rooms ∧ rooms ≤ 5)) 1 1))) := by
  refine gM_at (L0 := [(2, b), (0, days), (0, rooms)]) rfl rfl rfl ?_
  intro p e s m args below meth c hC hr hex hnm hz
  have hsc := hI.1.1
  unfold iScal at hsc
  refine gB hC _ _ _ _ _ _ _ qX12_awaited_0 rfl ?_
  refine g_cS1 hC dX12_awaited_4 mX12_35 sX12_in (kX12_in (by omega) (by omega) (by omega)) rfl rfl (Nat.le_of_ble_eq_true rfl) (RR rfl rfl rfl rfl) (fun z => ?_)
  refine g_if_eq hC 23 dX12_awaited_7 rfl (by first | omega | exact bI_in _) (fun c7 => ?_) (fun c7 => ?_)
  · have c7 := bI_0.mp c7
    refine gB hC _ _ _ _ _ _ _ qX12_awaited_23 rfl ?_
    refine gB hC _ _ _ _ _ _ _ qX12_awaited_24 rfl ?_
    refine g_cV1m hC dX12_awaited_26 mX12_111 vX12_fits (kX12_fitsC (C := (fitC (bI ((0 ≤ days ∧ days ≤ 4) ∧ 0 ≤ rooms ∧ rooms ≤ 5)) 1 1)) hm (by first | omega | exact bI_in _) (by first | omega | exact bI_in _) (by first | omega | exact bI_in _) (fit_eq (by first | rfl | exact (bI_t (by omega)).symm | exact (bI_f (by omega)).symm) (by first | rfl | exact (bI_t (by omega)).symm | exact (bI_f (by omega)).symm) (by first | rfl | exact (bI_t (by omega)).symm | exact (bI_f (by omega)).symm))) rfl hm.1.1 (by decide) rfl (Nat.le_of_ble_eq_true rfl) (RR rfl rfl rfl rfl) (fun z V26 e26 => ?_)
    have hm26 := gMd_o hm e26 (Or.inr ⟨rfl, by decide⟩)
    have h226 : V26 b 2 = V b 2 := by rw [e26, up_ne _ _ (Or.inr (by decide))]
    refine g_if_ne hC 34 dX12_awaited_29 rfl (by first | omega | exact bI_in _) (fun c29 => ?_) (fun c29 => ?_)
    · exact absurd (bI_n0.mp c29) (fit_n1 (by first | rfl | exact bI_f (by omega)))
    · have cF := bI_0.mp c29
      refine gB hC _ _ _ _ _ _ _ qX12_awaited_32 rfl ?_
      refine g_lreturn hC dX12_awaited_33 hr ⟨?_, rfl, ?_, ?_⟩ gs_rfl ⟨Nat.le_of_ble_eq_true rfl, Nat.le_of_ble_eq_true rfl⟩
      · rw [if_neg cF]; rfl
      · rw [if_neg cF]; exact e26
      · rw [if_neg cF]; exact ⟨by decide, by decide⟩
  · have c7 := bI_n0.mp c7
    refine gB hC _ _ _ _ _ _ _ qX12_awaited_10 rfl ?_
    refine g_cS1 hC dX12_awaited_13 mX12_35 sX12_in (kX12_in (by omega) (by omega) (by omega)) rfl rfl (Nat.le_of_ble_eq_true rfl) (RR rfl rfl rfl rfl) (fun z => ?_)
    refine g_if_eq hC 23 dX12_awaited_16 rfl (by first | omega | exact bI_in _) (fun c16 => ?_) (fun c16 => ?_)
    · have c16 := bI_0.mp c16
      refine gB hC _ _ _ _ _ _ _ qX12_awaited_23 rfl ?_
      refine gB hC _ _ _ _ _ _ _ qX12_awaited_24 rfl ?_
      refine g_cV1m hC dX12_awaited_26 mX12_111 vX12_fits (kX12_fitsC (C := (fitC (bI ((0 ≤ days ∧ days ≤ 4) ∧ 0 ≤ rooms ∧ rooms ≤ 5)) 1 1)) hm (by first | omega | exact bI_in _) (by first | omega | exact bI_in _) (by first | omega | exact bI_in _) (fit_eq (by first | rfl | exact (bI_t (by omega)).symm | exact (bI_f (by omega)).symm) (by first | rfl | exact (bI_t (by omega)).symm | exact (bI_f (by omega)).symm) (by first | rfl | exact (bI_t (by omega)).symm | exact (bI_f (by omega)).symm))) rfl hm.1.1 (by decide) rfl (Nat.le_of_ble_eq_true rfl) (RR rfl rfl rfl rfl) (fun z V26 e26 => ?_)
      have hm26 := gMd_o hm e26 (Or.inr ⟨rfl, by decide⟩)
      have h226 : V26 b 2 = V b 2 := by rw [e26, up_ne _ _ (Or.inr (by decide))]
      refine g_if_ne hC 34 dX12_awaited_29 rfl (by first | omega | exact bI_in _) (fun c29 => ?_) (fun c29 => ?_)
      · exact absurd (bI_n0.mp c29) (fit_n1 (by first | rfl | exact bI_f (by omega)))
      · have cF := bI_0.mp c29
        refine gB hC _ _ _ _ _ _ _ qX12_awaited_32 rfl ?_
        refine g_lreturn hC dX12_awaited_33 hr ⟨?_, rfl, ?_, ?_⟩ gs_rfl ⟨Nat.le_of_ble_eq_true rfl, Nat.le_of_ble_eq_true rfl⟩
        · rw [if_neg cF]; rfl
        · rw [if_neg cF]; exact e26
        · rw [if_neg cF]; exact ⟨by decide, by decide⟩
    · have c16 := bI_n0.mp c16
      refine gB hC _ _ _ _ _ _ _ qX12_awaited_19 rfl ?_
      refine gB hC _ _ _ _ _ _ _ qX12_awaited_24 rfl ?_
      refine g_cV1m hC dX12_awaited_26 mX12_111 vX12_fits (kX12_fitsC (C := (fitC (bI ((0 ≤ days ∧ days ≤ 4) ∧ 0 ≤ rooms ∧ rooms ≤ 5)) 1 1)) hm (by first | omega | exact bI_in _) (by first | omega | exact bI_in _) (by first | omega | exact bI_in _) (fit_eq (by first | rfl | exact (bI_t (by omega)).symm | exact (bI_f (by omega)).symm) (by first | rfl | exact (bI_t (by omega)).symm | exact (bI_f (by omega)).symm) (by first | rfl | exact (bI_t (by omega)).symm | exact (bI_f (by omega)).symm))) rfl hm.1.1 (by decide) rfl (Nat.le_of_ble_eq_true rfl) (RR rfl rfl rfl rfl) (fun z V26 e26 => ?_)
      have hm26 := gMd_o hm e26 (Or.inr ⟨rfl, by decide⟩)
      have h226 : V26 b 2 = V b 2 := by rw [e26, up_ne _ _ (Or.inr (by decide))]
      refine g_if_ne hC 34 dX12_awaited_29 rfl (by first | omega | exact bI_in _) (fun c29 => ?_) (fun c29 => ?_)
      · have cF := bI_n0.mp c29
        have hp1 := fit_p1 cF
        refine gB hC _ _ _ _ _ _ _ qX12_awaited_34 rfl ?_
        refine g_cV0m hC dX12_awaited_35 mX12_173 vX12_laysIncomes (kX12_laysIncomes hm26 hI.2.2) rfl hm26.1.1 (by decide) rfl (Nat.le_of_ble_eq_true rfl) (RR rfl rfl rfl rfl) (fun z V35 e35 => ?_)
        have hm35 : gMd b N Sh V35 := by rw [e35]; exact gMd_in hm26 _
        refine gB hC _ _ _ _ _ _ _ qX12_awaited_38 rfl ?_
        refine g_cV1l hC dX12_awaited_41 mX12_176 vX12_incomeOf (kX12_incomeOf hm35 e35 (by omega) (by omega) (by omega) (by omega)) rfl hm35.1.1 (by decide) rfl (Nat.le_of_ble_eq_true rfl) (RR rfl rfl rfl rfl) (fun z i41 => ?_)
        refine g_lreturn hC dX12_awaited_44 hr ⟨?_, rfl, ?_, ?_⟩ gs_rfl ⟨Nat.le_of_ble_eq_true rfl, Nat.le_of_ble_eq_true rfl⟩
        · rw [if_pos cF]
          first | done | rfl
        · rw [if_pos cF]
          rw [e35, e26, cF]
        · rw [if_pos cF]
          assumption
      · exact absurd (fit_ok (by first | rfl | exact bI_t (by omega)) (by first | rfl | exact bI_t (by omega)) (by first | rfl | exact bI_t (by omega))) (bI_0.mp c29)

theorem kX12_limit {E l Sh V z} {b : Int} {N : gN0} {days rooms : Int} (hm : gMd b N Sh V) (hI : INV N) (h1 : inI days) (h2 : inI rooms) : gM E l yX12_limit (.code yX12_limit cX12_limit 3 (some .int)) (rmk 8 0 0 200) [(2, b), (0, days), (0, rooms)] Sh V z (gRi (if (fitC (bI ((1 ≤ days ∧ days ≤ 4) ∧ 1 ≤ rooms ∧ rooms ≤ 4)) 1 1) = 0 then limZ N days rooms else 0) Sh (if (fitC (bI ((1 ≤ days ∧ days ≤ 4) ∧ 1 ≤ rooms ∧ rooms ≤ 4)) 1 1) = 0 then inV (up V b 3 0) b N 30 else up V b 3 (fitC (bI ((1 ≤ days ∧ days ≤ 4) ∧ 1 ≤ rooms ∧ rooms ≤ 4)) 1 1))) := by
  refine gM_at (L0 := [(2, b), (0, days), (0, rooms)]) rfl rfl rfl ?_
  intro p e s m args below meth c hC hr hex hnm hz
  have hsc := hI.1.1
  unfold iScal at hsc
  refine gB hC _ _ _ _ _ _ _ qX12_limit_0 rfl ?_
  refine g_cS1 hC dX12_limit_4 mX12_35 sX12_in (kX12_in (by omega) (by omega) (by omega)) rfl rfl (Nat.le_of_ble_eq_true rfl) (RR rfl rfl rfl rfl) (fun z => ?_)
  refine g_if_eq hC 23 dX12_limit_7 rfl (by first | omega | exact bI_in _) (fun c7 => ?_) (fun c7 => ?_)
  · have c7 := bI_0.mp c7
    refine gB hC _ _ _ _ _ _ _ qX12_limit_23 rfl ?_
    refine gB hC _ _ _ _ _ _ _ qX12_limit_24 rfl ?_
    refine g_cV1m hC dX12_limit_26 mX12_111 vX12_fits (kX12_fitsC (C := (fitC (bI ((1 ≤ days ∧ days ≤ 4) ∧ 1 ≤ rooms ∧ rooms ≤ 4)) 1 1)) hm (by first | omega | exact bI_in _) (by first | omega | exact bI_in _) (by first | omega | exact bI_in _) (fit_eq (by first | rfl | exact (bI_t (by omega)).symm | exact (bI_f (by omega)).symm) (by first | rfl | exact (bI_t (by omega)).symm | exact (bI_f (by omega)).symm) (by first | rfl | exact (bI_t (by omega)).symm | exact (bI_f (by omega)).symm))) rfl hm.1.1 (by decide) rfl (Nat.le_of_ble_eq_true rfl) (RR rfl rfl rfl rfl) (fun z V26 e26 => ?_)
    have hm26 := gMd_o hm e26 (Or.inr ⟨rfl, by decide⟩)
    have h226 : V26 b 2 = V b 2 := by rw [e26, up_ne _ _ (Or.inr (by decide))]
    refine g_if_eq hC 41 dX12_limit_29 rfl (by first | omega | exact bI_in _) (fun c29 => ?_) (fun c29 => ?_)
    · have cF := bI_0.mp c29
      refine gB hC _ _ _ _ _ _ _ qX12_limit_41 rfl ?_
      refine g_ireturn hC dX12_limit_42 hr ⟨?_, rfl, ?_, ?_⟩ gs_rfl ⟨Nat.le_of_ble_eq_true rfl, Nat.le_of_ble_eq_true rfl⟩
      · rw [if_neg cF]
      · rw [if_neg cF]; exact e26
      · rw [if_neg cF]; decide
    · exact absurd (bI_n0.mp c29) (fit_n1 (by first | rfl | exact bI_f (by omega)))
  · have c7 := bI_n0.mp c7
    refine gB hC _ _ _ _ _ _ _ qX12_limit_10 rfl ?_
    refine g_cS1 hC dX12_limit_13 mX12_35 sX12_in (kX12_in (by omega) (by omega) (by omega)) rfl rfl (Nat.le_of_ble_eq_true rfl) (RR rfl rfl rfl rfl) (fun z => ?_)
    refine g_if_eq hC 23 dX12_limit_16 rfl (by first | omega | exact bI_in _) (fun c16 => ?_) (fun c16 => ?_)
    · have c16 := bI_0.mp c16
      refine gB hC _ _ _ _ _ _ _ qX12_limit_23 rfl ?_
      refine gB hC _ _ _ _ _ _ _ qX12_limit_24 rfl ?_
      refine g_cV1m hC dX12_limit_26 mX12_111 vX12_fits (kX12_fitsC (C := (fitC (bI ((1 ≤ days ∧ days ≤ 4) ∧ 1 ≤ rooms ∧ rooms ≤ 4)) 1 1)) hm (by first | omega | exact bI_in _) (by first | omega | exact bI_in _) (by first | omega | exact bI_in _) (fit_eq (by first | rfl | exact (bI_t (by omega)).symm | exact (bI_f (by omega)).symm) (by first | rfl | exact (bI_t (by omega)).symm | exact (bI_f (by omega)).symm) (by first | rfl | exact (bI_t (by omega)).symm | exact (bI_f (by omega)).symm))) rfl hm.1.1 (by decide) rfl (Nat.le_of_ble_eq_true rfl) (RR rfl rfl rfl rfl) (fun z V26 e26 => ?_)
      have hm26 := gMd_o hm e26 (Or.inr ⟨rfl, by decide⟩)
      have h226 : V26 b 2 = V b 2 := by rw [e26, up_ne _ _ (Or.inr (by decide))]
      refine g_if_eq hC 41 dX12_limit_29 rfl (by first | omega | exact bI_in _) (fun c29 => ?_) (fun c29 => ?_)
      · have cF := bI_0.mp c29
        refine gB hC _ _ _ _ _ _ _ qX12_limit_41 rfl ?_
        refine g_ireturn hC dX12_limit_42 hr ⟨?_, rfl, ?_, ?_⟩ gs_rfl ⟨Nat.le_of_ble_eq_true rfl, Nat.le_of_ble_eq_true rfl⟩
        · rw [if_neg cF]
        · rw [if_neg cF]; exact e26
        · rw [if_neg cF]; decide
      · exact absurd (bI_n0.mp c29) (fit_n1 (by first | rfl | exact bI_f (by omega)))
    · have c16 := bI_n0.mp c16
      refine gB hC _ _ _ _ _ _ _ qX12_limit_19 rfl ?_
      refine gB hC _ _ _ _ _ _ _ qX12_limit_24 rfl ?_
      refine g_cV1m hC dX12_limit_26 mX12_111 vX12_fits (kX12_fitsC (C := (fitC (bI ((1 ≤ days ∧ days ≤ 4) ∧ 1 ≤ rooms ∧ rooms ≤ 4)) 1 1)) hm (by first | omega | exact bI_in _) (by first | omega | exact bI_in _) (by first | omega | exact bI_in _) (fit_eq (by first | rfl | exact (bI_t (by omega)).symm | exact (bI_f (by omega)).symm) (by first | rfl | exact (bI_t (by omega)).symm | exact (bI_f (by omega)).symm) (by first | rfl | exact (bI_t (by omega)).symm | exact (bI_f (by omega)).symm))) rfl hm.1.1 (by decide) rfl (Nat.le_of_ble_eq_true rfl) (RR rfl rfl rfl rfl) (fun z V26 e26 => ?_)
      have hm26 := gMd_o hm e26 (Or.inr ⟨rfl, by decide⟩)
      have h226 : V26 b 2 = V b 2 := by rw [e26, up_ne _ _ (Or.inr (by decide))]
      refine g_if_eq hC 41 dX12_limit_29 rfl (by first | omega | exact bI_in _) (fun c29 => ?_) (fun c29 => ?_)
      · exact absurd (fit_ok (by first | rfl | exact bI_t (by omega)) (by first | rfl | exact bI_t (by omega)) (by first | rfl | exact bI_t (by omega))) (bI_0.mp c29)
      · have cF := bI_n0.mp c29
        have hp1 := fit_p1 cF
        refine gB hC _ _ _ _ _ _ _ qX12_limit_32 rfl ?_
        refine g_cV1im hC dX12_limit_35 mX12_180 vX12_limitOf (kX12_limitOf hm26 hI.2.2 (by omega) (by omega) (by omega) (by omega)) rfl hm26.1.1 (by decide) rfl (Nat.le_of_ble_eq_true rfl) (RR rfl rfl rfl rfl) (fun z V35 e35 i35 => ?_)
        have hm35 : gMd b N Sh V35 := by rw [e35]; exact gMd_in hm26 _
        refine gB hC _ _ _ _ _ _ _ qX12_limit_38 rfl ?_
        refine g_ireturn hC dX12_limit_42 hr ⟨?_, rfl, ?_, ?_⟩ gs_rfl ⟨Nat.le_of_ble_eq_true rfl, Nat.le_of_ble_eq_true rfl⟩
        · rw [if_pos cF]
          first | done | rfl
        · rw [if_pos cF]
          rw [e35, e26, cF]
        · rw [if_pos cF]
          exact i32_in _

/-- a sale begins -/
def selN (N : gN0) (days rooms : Int) : gN0 := upN (upN (upN (upN (upN (upN N 21 1) 22 days) 23 rooms) 24 0) 25 rooms) 26 0
theorem selN_o {N : gN0} (h : oOk N) {days rooms : Int} (h1 : 1 ≤ days ∧ days ≤ 4) (h2 : 1 ≤ rooms ∧ rooms ≤ 4) : oOk (selN N days rooms) := by
  unfold oOk at *
  have e : ∀ j, (j < 21 ∨ 26 < j) → selN N days rooms j = N j := by
    intro j hj
    unfold selN
    rw [upN_ne (by omega), upN_ne (by omega), upN_ne (by omega), upN_ne (by omega), upN_ne (by omega), upN_ne (by omega)]
  have e21 : selN N days rooms 21 = 1 := by simp [selN, upN]
  have e22 : selN N days rooms 22 = days := by simp [selN, upN]
  have e23 : selN N days rooms 23 = rooms := by simp [selN, upN]
  have e24 : selN N days rooms 24 = 0 := by simp [selN, upN]
  have e25 : selN N days rooms 25 = rooms := by simp [selN, upN]
  have e26 : selN N days rooms 26 = 0 := by simp [selN, upN]
  rw [e21, e22, e23, e24, e25, e26, e 13 (by decide), e 14 (by decide), e 15 (by decide), e 16 (by decide), e 17 (by decide), e 18 (by decide), e 19 (by decide), e 20 (by decide), e 27 (by decide), e 28 (by decide), e 29 (by decide), e 30 (by decide)]
  omega
/-- an offer comes -/
abbrev offC (N : gN0) (price : Int) : Prop := 0 < N 23 ∧ limZ N (N 22) (N 23) ≤ price
def offN (N : gN0) (price : Int) : gN0 := upN (upN (upN N (27 + N 26) price) 26 (N 26 + 1)) 22 (N 22 - 1)
def offT (N : gN0) (price : Int) : gN0 := upN (upN (offN N price) 23 (N 23 - 1)) 24 (N 24 + price)

theorem kX12_sell {E l Sh V z} {b : Int} {N : gN0} {days rooms : Int} (hm : gMd b N Sh V) (hI : INV N) (hv0 : 0 ≤ V b 2) (hv1 : V b 2 ≤ 6) (h1 : inI days) (h2 : inI rooms) : gM E l yX12_sell (.code yX12_sell cX12_sell 3 (some .int)) (rmk 8 0 0 200) [(2, b), (0, days), (0, rooms)] Sh V z (gRi (if (fitC (bI ((1 ≤ days ∧ days ≤ 4) ∧ 1 ≤ rooms ∧ rooms ≤ 4)) 1 1) = 0 then limZ (selN N days rooms) days rooms else 0) Sh (if (fitC (bI ((1 ≤ days ∧ days ≤ 4) ∧ 1 ≤ rooms ∧ rooms ≤ 4)) 1 1) = 0 then inV (wrN (kpV (up V b 3 0) b) b (selN N days rooms)) b (selN N days rooms) 30 else up V b 3 (fitC (bI ((1 ≤ days ∧ days ≤ 4) ∧ 1 ≤ rooms ∧ rooms ≤ 4)) 1 1))) := by
  refine gM_at (L0 := [(2, b), (0, days), (0, rooms)]) rfl rfl rfl ?_
  intro p e s m args below meth c hC hr hex hnm hz
  have hsc := hI.1.1
  unfold iScal at hsc
  refine gB hC _ _ _ _ _ _ _ qX12_sell_0 rfl ?_
  refine g_cS1 hC dX12_sell_4 mX12_35 sX12_in (kX12_in (by omega) (by omega) (by omega)) rfl rfl (Nat.le_of_ble_eq_true rfl) (RR rfl rfl rfl rfl) (fun z => ?_)
  refine g_if_eq hC 23 dX12_sell_7 rfl (by first | omega | exact bI_in _) (fun c7 => ?_) (fun c7 => ?_)
  · have c7 := bI_0.mp c7
    refine gB hC _ _ _ _ _ _ _ qX12_sell_23 rfl ?_
    refine gB hC _ _ _ _ _ _ _ qX12_sell_24 rfl ?_
    refine g_cV1m hC dX12_sell_26 mX12_111 vX12_fits (kX12_fitsC (C := (fitC (bI ((1 ≤ days ∧ days ≤ 4) ∧ 1 ≤ rooms ∧ rooms ≤ 4)) 1 1)) hm (by first | omega | exact bI_in _) (by first | omega | exact bI_in _) (by first | omega | exact bI_in _) (fit_eq (by first | rfl | exact (bI_t (by omega)).symm | exact (bI_f (by omega)).symm) (by first | rfl | exact (bI_t (by omega)).symm | exact (bI_f (by omega)).symm) (by first | rfl | exact (bI_t (by omega)).symm | exact (bI_f (by omega)).symm))) rfl hm.1.1 (by decide) rfl (Nat.le_of_ble_eq_true rfl) (RR rfl rfl rfl rfl) (fun z V26 e26 => ?_)
    have hm26 := gMd_o hm e26 (Or.inr ⟨rfl, by decide⟩)
    have h226 : V26 b 2 = V b 2 := by rw [e26, up_ne _ _ (Or.inr (by decide))]
    refine g_if_ne hC 34 dX12_sell_29 rfl (by first | omega | exact bI_in _) (fun c29 => ?_) (fun c29 => ?_)
    · exact absurd (bI_n0.mp c29) (fit_n1 (by first | rfl | exact bI_f (by omega)))
    · have cF := bI_0.mp c29
      refine gB hC _ _ _ _ _ _ _ qX12_sell_32 rfl ?_
      refine g_ireturn hC dX12_sell_33 hr ⟨?_, rfl, ?_, ?_⟩ gs_rfl ⟨Nat.le_of_ble_eq_true rfl, Nat.le_of_ble_eq_true rfl⟩
      · rw [if_neg cF]
      · rw [if_neg cF]; exact e26
      · rw [if_neg cF]; decide
  · have c7 := bI_n0.mp c7
    refine gB hC _ _ _ _ _ _ _ qX12_sell_10 rfl ?_
    refine g_cS1 hC dX12_sell_13 mX12_35 sX12_in (kX12_in (by omega) (by omega) (by omega)) rfl rfl (Nat.le_of_ble_eq_true rfl) (RR rfl rfl rfl rfl) (fun z => ?_)
    refine g_if_eq hC 23 dX12_sell_16 rfl (by first | omega | exact bI_in _) (fun c16 => ?_) (fun c16 => ?_)
    · have c16 := bI_0.mp c16
      refine gB hC _ _ _ _ _ _ _ qX12_sell_23 rfl ?_
      refine gB hC _ _ _ _ _ _ _ qX12_sell_24 rfl ?_
      refine g_cV1m hC dX12_sell_26 mX12_111 vX12_fits (kX12_fitsC (C := (fitC (bI ((1 ≤ days ∧ days ≤ 4) ∧ 1 ≤ rooms ∧ rooms ≤ 4)) 1 1)) hm (by first | omega | exact bI_in _) (by first | omega | exact bI_in _) (by first | omega | exact bI_in _) (fit_eq (by first | rfl | exact (bI_t (by omega)).symm | exact (bI_f (by omega)).symm) (by first | rfl | exact (bI_t (by omega)).symm | exact (bI_f (by omega)).symm) (by first | rfl | exact (bI_t (by omega)).symm | exact (bI_f (by omega)).symm))) rfl hm.1.1 (by decide) rfl (Nat.le_of_ble_eq_true rfl) (RR rfl rfl rfl rfl) (fun z V26 e26 => ?_)
      have hm26 := gMd_o hm e26 (Or.inr ⟨rfl, by decide⟩)
      have h226 : V26 b 2 = V b 2 := by rw [e26, up_ne _ _ (Or.inr (by decide))]
      refine g_if_ne hC 34 dX12_sell_29 rfl (by first | omega | exact bI_in _) (fun c29 => ?_) (fun c29 => ?_)
      · exact absurd (bI_n0.mp c29) (fit_n1 (by first | rfl | exact bI_f (by omega)))
      · have cF := bI_0.mp c29
        refine gB hC _ _ _ _ _ _ _ qX12_sell_32 rfl ?_
        refine g_ireturn hC dX12_sell_33 hr ⟨?_, rfl, ?_, ?_⟩ gs_rfl ⟨Nat.le_of_ble_eq_true rfl, Nat.le_of_ble_eq_true rfl⟩
        · rw [if_neg cF]
        · rw [if_neg cF]; exact e26
        · rw [if_neg cF]; decide
    · have c16 := bI_n0.mp c16
      refine gB hC _ _ _ _ _ _ _ qX12_sell_19 rfl ?_
      refine gB hC _ _ _ _ _ _ _ qX12_sell_24 rfl ?_
      refine g_cV1m hC dX12_sell_26 mX12_111 vX12_fits (kX12_fitsC (C := (fitC (bI ((1 ≤ days ∧ days ≤ 4) ∧ 1 ≤ rooms ∧ rooms ≤ 4)) 1 1)) hm (by first | omega | exact bI_in _) (by first | omega | exact bI_in _) (by first | omega | exact bI_in _) (fit_eq (by first | rfl | exact (bI_t (by omega)).symm | exact (bI_f (by omega)).symm) (by first | rfl | exact (bI_t (by omega)).symm | exact (bI_f (by omega)).symm) (by first | rfl | exact (bI_t (by omega)).symm | exact (bI_f (by omega)).symm))) rfl hm.1.1 (by decide) rfl (Nat.le_of_ble_eq_true rfl) (RR rfl rfl rfl rfl) (fun z V26 e26 => ?_)
      have hm26 := gMd_o hm e26 (Or.inr ⟨rfl, by decide⟩)
      have h226 : V26 b 2 = V b 2 := by rw [e26, up_ne _ _ (Or.inr (by decide))]
      refine g_if_ne hC 34 dX12_sell_29 rfl (by first | omega | exact bI_in _) (fun c29 => ?_) (fun c29 => ?_)
      · have cF := bI_n0.mp c29
        have hp1 := fit_p1 cF
        have hso := selN_o hI.2.2 hp1.1 hp1.2
        refine gB hC _ _ _ _ _ _ _ qX12_sell_34 rfl ?_
        refine g_cV0m hC dX12_sell_35 mX12_115 vX12_keeps (kX12_keeps hm26 (by omega) (by omega)) rfl hm26.1.1 (by decide) rfl (Nat.le_of_ble_eq_true rfl) (RR rfl rfl rfl rfl) (fun z V35 e35 => ?_)
        have hm35 := gMd_kp hm26 e35
        refine gB hC _ _ _ _ _ _ _ qX12_sell_38 rfl ?_
        refine g_getr hC dX12_sell_39 fX12_9 hm35.1.1 (by decide) rfl 0 rfl hm35.2.1.1 ?_
        refine gB hC _ _ _ _ _ _ _ qX12_sell_42 rfl ?_
        refine g_ast hC dX12_sell_45 hm35.1.2.1 (by omega) (by omega) (by decide) (by first | omega | exact bI_in _) (fun V45 e45 => ?_)
        have hw45 := gMw_up (gMw_in hm35) e45
        refine gB hC _ _ _ _ _ _ _ qX12_sell_46 rfl ?_
        refine g_getr hC dX12_sell_47 fX12_9 hw45.1.1.1 (by decide) rfl 0 rfl hw45.1.2.1.1 ?_
        refine gB hC _ _ _ _ _ _ _ qX12_sell_50 rfl ?_
        refine g_ast hC dX12_sell_53 hw45.1.1.2.1 (by omega) (by omega) (by decide) (by first | omega | exact bI_in _) (fun V53 e53 => ?_)
        have hw53 := gMw_up hw45 e53
        refine gB hC _ _ _ _ _ _ _ qX12_sell_54 rfl ?_
        refine g_getr hC dX12_sell_55 fX12_9 hw53.1.1.1 (by decide) rfl 0 rfl hw53.1.2.1.1 ?_
        refine gB hC _ _ _ _ _ _ _ qX12_sell_58 rfl ?_
        refine g_ast hC dX12_sell_61 hw53.1.1.2.1 (by omega) (by omega) (by decide) (by first | omega | exact bI_in _) (fun V61 e61 => ?_)
        have hw61 := gMw_up hw53 e61
        refine gB hC _ _ _ _ _ _ _ qX12_sell_62 rfl ?_
        refine g_getr hC dX12_sell_63 fX12_9 hw61.1.1.1 (by decide) rfl 0 rfl hw61.1.2.1.1 ?_
        refine gB hC _ _ _ _ _ _ _ qX12_sell_66 rfl ?_
        refine g_ast hC dX12_sell_69 hw61.1.1.2.1 (by omega) (by omega) (by decide) (by first | omega | exact bI_in _) (fun V69 e69 => ?_)
        have hw69 := gMw_up hw61 e69
        refine gB hC _ _ _ _ _ _ _ qX12_sell_70 rfl ?_
        refine g_getr hC dX12_sell_71 fX12_9 hw69.1.1.1 (by decide) rfl 0 rfl hw69.1.2.1.1 ?_
        refine gB hC _ _ _ _ _ _ _ qX12_sell_74 rfl ?_
        refine g_ast hC dX12_sell_77 hw69.1.1.2.1 (by omega) (by omega) (by decide) (by first | omega | exact bI_in _) (fun V77 e77 => ?_)
        have hw77 := gMw_up hw69 e77
        refine gB hC _ _ _ _ _ _ _ qX12_sell_78 rfl ?_
        refine g_getr hC dX12_sell_79 fX12_9 hw77.1.1.1 (by decide) rfl 0 rfl hw77.1.2.1.1 ?_
        refine gB hC _ _ _ _ _ _ _ qX12_sell_82 rfl ?_
        refine g_ast hC dX12_sell_85 hw77.1.1.2.1 (by omega) (by omega) (by decide) (by first | omega | exact bI_in _) (fun V85 e85 => ?_)
        have hw85 := gMw_up hw77 e85
        
        refine gB hC _ _ _ _ _ _ _ qX12_sell_86 rfl ?_
        refine g_cV1im hC dX12_sell_89 mX12_180 vX12_limitOf (kX12_limitOf (N := selN N days rooms) hw85.1 hso (by omega) (by omega) (by omega) (by omega)) rfl hw85.1.1.1 (by decide) rfl (Nat.le_of_ble_eq_true rfl) (RR rfl rfl rfl rfl) (fun z V89 e89 i89 => ?_)
        have hm89 : gMd b (selN N days rooms) Sh V89 := by rw [e89]; exact gMd_in hw85.1 _
        refine g_ireturn hC dX12_sell_92 hr ⟨?_, rfl, ?_, ?_⟩ gs_rfl ⟨Nat.le_of_ble_eq_true rfl, Nat.le_of_ble_eq_true rfl⟩
        · rw [if_pos cF]
          first | done | rfl
        · rw [if_pos cF]
          rw [e89, hw85.2, e35, e26, cF]; rfl
        · rw [if_pos cF]
          exact i32_in _
      · exact absurd (fit_ok (by first | rfl | exact bI_t (by omega)) (by first | rfl | exact bI_t (by omega)) (by first | rfl | exact bI_t (by omega))) (bI_0.mp c29)

theorem kX12_offer {E l Sh V z} {b : Int} {N : gN0} {price : Int} (hm : gMd b N Sh V) (hI : INV N) (hv0 : 0 ≤ V b 2) (hv1 : V b 2 ≤ 6) (h1 : inI price) : gM E l yX12_offer (.code yX12_offer cX12_offer 3 (some .int)) (rmk 8 0 0 200) [(2, b), (0, price)] Sh V z (gRi (if (fitC (bI (0 ≤ price ∧ price ≤ 100000)) (bI (N 21 = 1 ∧ 0 < N 22)) 1) = 0 then if offC N price then N 24 + price else -1 else 0) Sh (if (fitC (bI (0 ≤ price ∧ price ≤ 100000)) (bI (N 21 = 1 ∧ 0 < N 22)) 1) = 0 then wrN (if 0 < N 23 then inV (kpV (up V b 3 0) b) b N 30 else kpV (up V b 3 0) b) b (if offC N price then offT N price else offN N price) else up V b 3 (fitC (bI (0 ≤ price ∧ price ≤ 100000)) (bI (N 21 = 1 ∧ 0 < N 22)) 1))) := by
  refine gM_at (L0 := [(2, b), (0, price), (9, 0)]) rfl rfl rfl ?_
  intro p e s m args below meth c hC hr hex hnm hz
  have hsc := hI.1.1
  unfold iScal at hsc
  have hoo := hI.2.2
  unfold oOk at hoo
  refine gB hC _ _ _ _ _ _ _ qX12_offer_0 rfl ?_
  refine g_ldc hC 100000 kX12_110 rfl dX12_offer_3 ?_
  refine g_cS1 hC dX12_offer_5 mX12_35 sX12_in (kX12_in (by omega) (by omega) (by omega)) rfl rfl (Nat.le_of_ble_eq_true rfl) (RR rfl rfl rfl rfl) (fun z => ?_)
  refine gB hC _ _ _ _ _ _ _ qX12_offer_8 rfl ?_
  refine g_getr hC dX12_offer_9 fX12_9 hm.1.1 (by decide) rfl 0 rfl hm.2.1.1 ?_
  refine gB hC _ _ _ _ _ _ _ qX12_offer_12 rfl ?_
  refine g_iald hC dX12_offer_14 hm.1.2.1 (gMd_at hm _) (by omega) (by omega) (by decide) (fun i14 => ?_)
  refine gB hC _ _ _ _ _ _ _ qX12_offer_15 rfl ?_
  refine g_icmp_ne hC 33 dX12_offer_16 rfl (by first | omega | exact bI_in _) (by first | omega | exact bI_in _) (fun c16 => ?_) (fun c16 => ?_)
  · refine gB hC _ _ _ _ _ _ _ qX12_offer_33 rfl ?_
    refine gB hC _ _ _ _ _ _ _ qX12_offer_34 rfl ?_
    refine g_cV1m hC dX12_offer_35 mX12_111 vX12_fits (kX12_fitsC (C := (fitC (bI (0 ≤ price ∧ price ≤ 100000)) (bI (N 21 = 1 ∧ 0 < N 22)) 1)) hm (by first | omega | exact bI_in _) (by first | omega | exact bI_in _) (by first | omega | exact bI_in _) (fit_eq (by first | rfl | exact (bI_t (by omega)).symm | exact (bI_f (by omega)).symm) (by first | rfl | exact (bI_t (by omega)).symm | exact (bI_f (by omega)).symm) (by first | rfl | exact (bI_t (by omega)).symm | exact (bI_f (by omega)).symm))) rfl hm.1.1 (by decide) rfl (Nat.le_of_ble_eq_true rfl) (RR rfl rfl rfl rfl) (fun z V35 e35 => ?_)
    have hm35 := gMd_o hm e35 (Or.inr ⟨rfl, by decide⟩)
    have h235 : V35 b 2 = V b 2 := by rw [e35, up_ne _ _ (Or.inr (by decide))]
    refine g_if_ne hC 43 dX12_offer_38 rfl (by first | omega | exact bI_in _) (fun c38 => ?_) (fun c38 => ?_)
    · exact absurd (bI_n0.mp c38) (fit_n2 (by first | rfl | exact bI_f (by omega)))
    · have cF := bI_0.mp c38
      refine gB hC _ _ _ _ _ _ _ qX12_offer_41 rfl ?_
      refine g_ireturn hC dX12_offer_42 hr ⟨?_, rfl, ?_, ?_⟩ gs_rfl ⟨Nat.le_of_ble_eq_true rfl, Nat.le_of_ble_eq_true rfl⟩
      · rw [if_neg cF]
      · rw [if_neg cF]; exact e35
      · rw [if_neg cF]; decide
  · refine gB hC _ _ _ _ _ _ _ qX12_offer_19 rfl ?_
    refine g_getr hC dX12_offer_20 fX12_9 hm.1.1 (by decide) rfl 0 rfl hm.2.1.1 ?_
    refine gB hC _ _ _ _ _ _ _ qX12_offer_23 rfl ?_
    refine g_iald hC dX12_offer_25 hm.1.2.1 (gMd_at hm _) (by omega) (by omega) (by decide) (fun i25 => ?_)
    refine g_if_le hC 33 dX12_offer_26 rfl (by first | omega | exact bI_in _) (fun c26 => ?_) (fun c26 => ?_)
    · refine gB hC _ _ _ _ _ _ _ qX12_offer_33 rfl ?_
      refine gB hC _ _ _ _ _ _ _ qX12_offer_34 rfl ?_
      refine g_cV1m hC dX12_offer_35 mX12_111 vX12_fits (kX12_fitsC (C := (fitC (bI (0 ≤ price ∧ price ≤ 100000)) (bI (N 21 = 1 ∧ 0 < N 22)) 1)) hm (by first | omega | exact bI_in _) (by first | omega | exact bI_in _) (by first | omega | exact bI_in _) (fit_eq (by first | rfl | exact (bI_t (by omega)).symm | exact (bI_f (by omega)).symm) (by first | rfl | exact (bI_t (by omega)).symm | exact (bI_f (by omega)).symm) (by first | rfl | exact (bI_t (by omega)).symm | exact (bI_f (by omega)).symm))) rfl hm.1.1 (by decide) rfl (Nat.le_of_ble_eq_true rfl) (RR rfl rfl rfl rfl) (fun z V35 e35 => ?_)
      have hm35 := gMd_o hm e35 (Or.inr ⟨rfl, by decide⟩)
      have h235 : V35 b 2 = V b 2 := by rw [e35, up_ne _ _ (Or.inr (by decide))]
      refine g_if_ne hC 43 dX12_offer_38 rfl (by first | omega | exact bI_in _) (fun c38 => ?_) (fun c38 => ?_)
      · exact absurd (bI_n0.mp c38) (fit_n2 (by first | rfl | exact bI_f (by omega)))
      · have cF := bI_0.mp c38
        refine gB hC _ _ _ _ _ _ _ qX12_offer_41 rfl ?_
        refine g_ireturn hC dX12_offer_42 hr ⟨?_, rfl, ?_, ?_⟩ gs_rfl ⟨Nat.le_of_ble_eq_true rfl, Nat.le_of_ble_eq_true rfl⟩
        · rw [if_neg cF]
        · rw [if_neg cF]; exact e35
        · rw [if_neg cF]; decide
    · refine gB hC _ _ _ _ _ _ _ qX12_offer_29 rfl ?_
      refine gB hC _ _ _ _ _ _ _ qX12_offer_34 rfl ?_
      refine g_cV1m hC dX12_offer_35 mX12_111 vX12_fits (kX12_fitsC (C := (fitC (bI (0 ≤ price ∧ price ≤ 100000)) (bI (N 21 = 1 ∧ 0 < N 22)) 1)) hm (by first | omega | exact bI_in _) (by first | omega | exact bI_in _) (by first | omega | exact bI_in _) (fit_eq (by first | rfl | exact (bI_t (by omega)).symm | exact (bI_f (by omega)).symm) (by first | rfl | exact (bI_t (by omega)).symm | exact (bI_f (by omega)).symm) (by first | rfl | exact (bI_t (by omega)).symm | exact (bI_f (by omega)).symm))) rfl hm.1.1 (by decide) rfl (Nat.le_of_ble_eq_true rfl) (RR rfl rfl rfl rfl) (fun z V35 e35 => ?_)
      have hm35 := gMd_o hm e35 (Or.inr ⟨rfl, by decide⟩)
      have h235 : V35 b 2 = V b 2 := by rw [e35, up_ne _ _ (Or.inr (by decide))]
      refine g_if_ne hC 43 dX12_offer_38 rfl (by first | omega | exact bI_in _) (fun c38 => ?_) (fun c38 => ?_)
      · have cF := bI_n0.mp c38
        have hp1 := fit_p1 cF
        have hp2 := fit_p2 cF
        refine gB hC _ _ _ _ _ _ _ qX12_offer_43 rfl ?_
        refine g_cV0m hC dX12_offer_44 mX12_115 vX12_keeps (kX12_keeps hm35 (by omega) (by omega)) rfl hm35.1.1 (by decide) rfl (Nat.le_of_ble_eq_true rfl) (RR rfl rfl rfl rfl) (fun z V44 e44 => ?_)
        have hm44 := gMd_kp hm35 e44
        refine gB hC _ _ _ _ _ _ _ qX12_offer_47 rfl ?_
        refine g_getr hC dX12_offer_48 fX12_9 hm44.1.1 (by decide) rfl 0 rfl hm44.2.1.1 ?_
        refine gB hC _ _ _ _ _ _ _ qX12_offer_51 rfl ?_
        refine g_iald hC dX12_offer_53 hm44.1.2.1 (gMd_at hm44 _) (by omega) (by omega) (by decide) (fun i53 => ?_)
        refine g_if_le hC 83 dX12_offer_54 rfl (by first | omega | exact bI_in _) (fun c54 => ?_) (fun c54 => ?_)
        · refine gB hC _ _ _ _ _ _ _ qX12_offer_83 rfl ?_
          refine gB hC _ _ _ _ _ _ _ qX12_offer_84 rfl ?_
          refine g_getr hC dX12_offer_86 fX12_9 hm44.1.1 (by decide) rfl 0 rfl hm44.2.1.1 ?_
          refine gB hC _ _ _ _ _ _ _ qX12_offer_89 rfl ?_
          refine g_getr hC dX12_offer_92 fX12_9 hm44.1.1 (by decide) rfl 0 rfl hm44.2.1.1 ?_
          refine gB hC _ _ _ _ _ _ _ qX12_offer_95 rfl ?_
          refine g_iald hC dX12_offer_97 hm44.1.2.1 (gMd_at hm44 _) (by omega) (by omega) (by decide) (fun i97 => ?_)
          refine gB hC _ _ _ _ _ _ _ qX12_offer_98 rfl ?_
          refine g_ast hC dX12_offer_100 hm44.1.2.1 (by omega) (by omega) (by decide) (by first | omega | exact bI_in _) (fun V100 e100 => ?_)
          have hw100 := gMw_up (gMw_in hm44) e100
          refine gB hC _ _ _ _ _ _ _ qX12_offer_101 rfl ?_
          refine g_getr hC dX12_offer_102 fX12_9 hw100.1.1.1 (by decide) rfl 0 rfl hw100.1.2.1.1 ?_
          refine gB hC _ _ _ _ _ _ _ qX12_offer_105 rfl ?_
          refine g_iald hC dX12_offer_108 hw100.1.1.2.1 (gMd_at hw100.1 _) (by omega) (by omega) (by decide) (fun i108 => ?_)
          repeat rw [upN_ne (by omega)]
          refine gB hC _ _ _ _ _ _ _ qX12_offer_109 rfl ?_
          refine g_ast hC dX12_offer_111 hw100.1.1.2.1 (by omega) (by omega) (by decide) (by first | omega | exact bI_in _) (fun V111 e111 => ?_)
          have hw111 := gMw_up hw100 e111
          refine gB hC _ _ _ _ _ _ _ qX12_offer_112 rfl ?_
          refine g_getr hC dX12_offer_113 fX12_9 hw111.1.1.1 (by decide) rfl 0 rfl hw111.1.2.1.1 ?_
          refine gB hC _ _ _ _ _ _ _ qX12_offer_116 rfl ?_
          refine g_iald hC dX12_offer_119 hw111.1.1.2.1 (gMd_at hw111.1 _) (by omega) (by omega) (by decide) (fun i119 => ?_)
          repeat rw [upN_ne (by omega)]
          refine gB hC _ _ _ _ _ _ _ qX12_offer_120 rfl ?_
          refine g_ast hC dX12_offer_122 hw111.1.1.2.1 (by omega) (by omega) (by decide) (by first | omega | exact bI_in _) (fun V122 e122 => ?_)
          have hw122 := gMw_up hw111 e122
          refine gB hC _ _ _ _ _ _ _ qX12_offer_123 rfl ?_
          refine g_if_ne hC 129 dX12_offer_124 rfl (by first | omega | exact bI_in _) (fun c124 => ?_) (fun c124 => ?_)
          · exact absurd c124 (by decide)
          · refine gB hC _ _ _ _ _ _ _ qX12_offer_127 rfl ?_
            refine g_ireturn hC dX12_offer_128 hr ⟨?_, rfl, ?_, ?_⟩ gs_rfl ⟨Nat.le_of_ble_eq_true rfl, Nat.le_of_ble_eq_true rfl⟩
            · rw [if_pos cF]
              first | rw [if_pos ⟨by omega, by omega⟩] | rw [if_neg (by omega)]
            · rw [if_pos cF]
              first
              | (rw [hw122.2, e73, e44, e35, cF, if_pos (show 0 < N 23 by omega), if_pos ⟨by omega, by omega⟩]; rfl)
              | (rw [hw122.2, e73, e44, e35, cF, if_pos (show 0 < N 23 by omega), if_neg (by omega)]; rfl)
              | (rw [hw122.2, e44, e35, cF, if_neg (show ¬ 0 < N 23 by omega), if_neg (by omega)]; rfl)
            · rw [if_pos cF]
              split <;> omega
        · refine gB hC _ _ _ _ _ _ _ qX12_offer_57 rfl ?_
          refine g_getr hC dX12_offer_60 fX12_9 hm44.1.1 (by decide) rfl 0 rfl hm44.2.1.1 ?_
          refine gB hC _ _ _ _ _ _ _ qX12_offer_63 rfl ?_
          refine g_iald hC dX12_offer_65 hm44.1.2.1 (gMd_at hm44 _) (by omega) (by omega) (by decide) (fun i65 => ?_)
          refine gB hC _ _ _ _ _ _ _ qX12_offer_66 rfl ?_
          refine g_getr hC dX12_offer_67 fX12_9 hm44.1.1 (by decide) rfl 0 rfl hm44.2.1.1 ?_
          refine gB hC _ _ _ _ _ _ _ qX12_offer_70 rfl ?_
          refine g_iald hC dX12_offer_72 hm44.1.2.1 (gMd_at hm44 _) (by omega) (by omega) (by decide) (fun i72 => ?_)
          refine g_cV1im hC dX12_offer_73 mX12_180 vX12_limitOf (kX12_limitOf hm44 hI.2.2 (by omega) (by omega) (by omega) (by omega)) rfl hm44.1.1 (by decide) rfl (Nat.le_of_ble_eq_true rfl) (RR rfl rfl rfl rfl) (fun z V73 e73 i73 => ?_)
          have hm73 : gMd b N Sh V73 := by rw [e73]; exact gMd_in hm44 _
          refine g_icmp_lt hC 83 dX12_offer_76 rfl (by first | omega | exact bI_in _) (by first | omega | exact bI_in _) (fun c76 => ?_) (fun c76 => ?_)
          · refine gB hC _ _ _ _ _ _ _ qX12_offer_83 rfl ?_
            refine gB hC _ _ _ _ _ _ _ qX12_offer_84 rfl ?_
            refine g_getr hC dX12_offer_86 fX12_9 hm73.1.1 (by decide) rfl 0 rfl hm73.2.1.1 ?_
            refine gB hC _ _ _ _ _ _ _ qX12_offer_89 rfl ?_
            refine g_getr hC dX12_offer_92 fX12_9 hm73.1.1 (by decide) rfl 0 rfl hm73.2.1.1 ?_
            refine gB hC _ _ _ _ _ _ _ qX12_offer_95 rfl ?_
            refine g_iald hC dX12_offer_97 hm73.1.2.1 (gMd_at hm73 _) (by omega) (by omega) (by decide) (fun i97 => ?_)
            refine gB hC _ _ _ _ _ _ _ qX12_offer_98 rfl ?_
            refine g_ast hC dX12_offer_100 hm73.1.2.1 (by omega) (by omega) (by decide) (by first | omega | exact bI_in _) (fun V100 e100 => ?_)
            have hw100 := gMw_up (gMw_in hm73) e100
            refine gB hC _ _ _ _ _ _ _ qX12_offer_101 rfl ?_
            refine g_getr hC dX12_offer_102 fX12_9 hw100.1.1.1 (by decide) rfl 0 rfl hw100.1.2.1.1 ?_
            refine gB hC _ _ _ _ _ _ _ qX12_offer_105 rfl ?_
            refine g_iald hC dX12_offer_108 hw100.1.1.2.1 (gMd_at hw100.1 _) (by omega) (by omega) (by decide) (fun i108 => ?_)
            repeat rw [upN_ne (by omega)]
            refine gB hC _ _ _ _ _ _ _ qX12_offer_109 rfl ?_
            refine g_ast hC dX12_offer_111 hw100.1.1.2.1 (by omega) (by omega) (by decide) (by first | omega | exact bI_in _) (fun V111 e111 => ?_)
            have hw111 := gMw_up hw100 e111
            refine gB hC _ _ _ _ _ _ _ qX12_offer_112 rfl ?_
            refine g_getr hC dX12_offer_113 fX12_9 hw111.1.1.1 (by decide) rfl 0 rfl hw111.1.2.1.1 ?_
            refine gB hC _ _ _ _ _ _ _ qX12_offer_116 rfl ?_
            refine g_iald hC dX12_offer_119 hw111.1.1.2.1 (gMd_at hw111.1 _) (by omega) (by omega) (by decide) (fun i119 => ?_)
            repeat rw [upN_ne (by omega)]
            refine gB hC _ _ _ _ _ _ _ qX12_offer_120 rfl ?_
            refine g_ast hC dX12_offer_122 hw111.1.1.2.1 (by omega) (by omega) (by decide) (by first | omega | exact bI_in _) (fun V122 e122 => ?_)
            have hw122 := gMw_up hw111 e122
            refine gB hC _ _ _ _ _ _ _ qX12_offer_123 rfl ?_
            refine g_if_ne hC 129 dX12_offer_124 rfl (by first | omega | exact bI_in _) (fun c124 => ?_) (fun c124 => ?_)
            · exact absurd c124 (by decide)
            · refine gB hC _ _ _ _ _ _ _ qX12_offer_127 rfl ?_
              refine g_ireturn hC dX12_offer_128 hr ⟨?_, rfl, ?_, ?_⟩ gs_rfl ⟨Nat.le_of_ble_eq_true rfl, Nat.le_of_ble_eq_true rfl⟩
              · rw [if_pos cF]
                first | rw [if_pos ⟨by omega, by omega⟩] | rw [if_neg (by omega)]
              · rw [if_pos cF]
                first
                | (rw [hw122.2, e73, e44, e35, cF, if_pos (show 0 < N 23 by omega), if_pos ⟨by omega, by omega⟩]; rfl)
                | (rw [hw122.2, e73, e44, e35, cF, if_pos (show 0 < N 23 by omega), if_neg (by omega)]; rfl)
                | (rw [hw122.2, e44, e35, cF, if_neg (show ¬ 0 < N 23 by omega), if_neg (by omega)]; rfl)
              · rw [if_pos cF]
                split <;> omega
          · refine gB hC _ _ _ _ _ _ _ qX12_offer_79 rfl ?_
            refine gB hC _ _ _ _ _ _ _ qX12_offer_84 rfl ?_
            refine g_getr hC dX12_offer_86 fX12_9 hm73.1.1 (by decide) rfl 0 rfl hm73.2.1.1 ?_
            refine gB hC _ _ _ _ _ _ _ qX12_offer_89 rfl ?_
            refine g_getr hC dX12_offer_92 fX12_9 hm73.1.1 (by decide) rfl 0 rfl hm73.2.1.1 ?_
            refine gB hC _ _ _ _ _ _ _ qX12_offer_95 rfl ?_
            refine g_iald hC dX12_offer_97 hm73.1.2.1 (gMd_at hm73 _) (by omega) (by omega) (by decide) (fun i97 => ?_)
            refine gB hC _ _ _ _ _ _ _ qX12_offer_98 rfl ?_
            refine g_ast hC dX12_offer_100 hm73.1.2.1 (by omega) (by omega) (by decide) (by first | omega | exact bI_in _) (fun V100 e100 => ?_)
            have hw100 := gMw_up (gMw_in hm73) e100
            refine gB hC _ _ _ _ _ _ _ qX12_offer_101 rfl ?_
            refine g_getr hC dX12_offer_102 fX12_9 hw100.1.1.1 (by decide) rfl 0 rfl hw100.1.2.1.1 ?_
            refine gB hC _ _ _ _ _ _ _ qX12_offer_105 rfl ?_
            refine g_iald hC dX12_offer_108 hw100.1.1.2.1 (gMd_at hw100.1 _) (by omega) (by omega) (by decide) (fun i108 => ?_)
            repeat rw [upN_ne (by omega)]
            refine gB hC _ _ _ _ _ _ _ qX12_offer_109 rfl ?_
            refine g_ast hC dX12_offer_111 hw100.1.1.2.1 (by omega) (by omega) (by decide) (by first | omega | exact bI_in _) (fun V111 e111 => ?_)
            have hw111 := gMw_up hw100 e111
            refine gB hC _ _ _ _ _ _ _ qX12_offer_112 rfl ?_
            refine g_getr hC dX12_offer_113 fX12_9 hw111.1.1.1 (by decide) rfl 0 rfl hw111.1.2.1.1 ?_
            refine gB hC _ _ _ _ _ _ _ qX12_offer_116 rfl ?_
            refine g_iald hC dX12_offer_119 hw111.1.1.2.1 (gMd_at hw111.1 _) (by omega) (by omega) (by decide) (fun i119 => ?_)
            repeat rw [upN_ne (by omega)]
            refine gB hC _ _ _ _ _ _ _ qX12_offer_120 rfl ?_
            refine g_ast hC dX12_offer_122 hw111.1.1.2.1 (by omega) (by omega) (by decide) (by first | omega | exact bI_in _) (fun V122 e122 => ?_)
            have hw122 := gMw_up hw111 e122
            refine gB hC _ _ _ _ _ _ _ qX12_offer_123 rfl ?_
            refine g_if_ne hC 129 dX12_offer_124 rfl (by first | omega | exact bI_in _) (fun c124 => ?_) (fun c124 => ?_)
            · refine gB hC _ _ _ _ _ _ _ qX12_offer_129 rfl ?_
              refine g_getr hC dX12_offer_130 fX12_9 hw122.1.1.1 (by decide) rfl 0 rfl hw122.1.2.1.1 ?_
              refine gB hC _ _ _ _ _ _ _ qX12_offer_133 rfl ?_
              refine g_iald hC dX12_offer_136 hw122.1.1.2.1 (gMd_at hw122.1 _) (by omega) (by omega) (by decide) (fun i136 => ?_)
              repeat rw [upN_ne (by omega)]
              refine gB hC _ _ _ _ _ _ _ qX12_offer_137 rfl ?_
              refine g_ast hC dX12_offer_139 hw122.1.1.2.1 (by omega) (by omega) (by decide) (by first | omega | exact bI_in _) (fun V139 e139 => ?_)
              have hw139 := gMw_up hw122 e139
              refine gB hC _ _ _ _ _ _ _ qX12_offer_140 rfl ?_
              refine g_getr hC dX12_offer_141 fX12_9 hw139.1.1.1 (by decide) rfl 0 rfl hw139.1.2.1.1 ?_
              refine gB hC _ _ _ _ _ _ _ qX12_offer_144 rfl ?_
              refine g_iald hC dX12_offer_147 hw139.1.1.2.1 (gMd_at hw139.1 _) (by omega) (by omega) (by decide) (fun i147 => ?_)
              repeat rw [upN_ne (by omega)]
              refine gB hC _ _ _ _ _ _ _ qX12_offer_148 rfl ?_
              refine g_ast hC dX12_offer_150 hw139.1.1.2.1 (by omega) (by omega) (by decide) (by first | omega | exact bI_in _) (fun V150 e150 => ?_)
              have hw150 := gMw_up hw139 e150
              refine gB hC _ _ _ _ _ _ _ qX12_offer_151 rfl ?_
              refine g_getr hC dX12_offer_152 fX12_9 hw150.1.1.1 (by decide) rfl 0 rfl hw150.1.2.1.1 ?_
              refine gB hC _ _ _ _ _ _ _ qX12_offer_155 rfl ?_
              refine g_iald hC dX12_offer_157 hw150.1.1.2.1 (gMd_at hw150.1 _) (by omega) (by omega) (by decide) (fun i157 => ?_)
              rw [upN_eq]
              refine g_ireturn hC dX12_offer_158 hr ⟨?_, rfl, ?_, ?_⟩ gs_rfl ⟨Nat.le_of_ble_eq_true rfl, Nat.le_of_ble_eq_true rfl⟩
              · rw [if_pos cF]
                first | rw [if_pos ⟨by omega, by omega⟩] | rw [if_neg (by omega)]
              · rw [if_pos cF]
                first
                | (rw [hw150.2, e73, e44, e35, cF, if_pos (show 0 < N 23 by omega), if_pos ⟨by omega, by omega⟩]; rfl)
                | (rw [hw150.2, e73, e44, e35, cF, if_pos (show 0 < N 23 by omega), if_neg (by omega)]; rfl)
                | (rw [hw150.2, e44, e35, cF, if_neg (show ¬ 0 < N 23 by omega), if_neg (by omega)]; rfl)
              · rw [if_pos cF]
                split <;> omega
            · exact absurd c124 (by decide)
      · have cF := bI_0.mp c38
        refine gB hC _ _ _ _ _ _ _ qX12_offer_41 rfl ?_
        refine g_ireturn hC dX12_offer_42 hr ⟨?_, rfl, ?_, ?_⟩ gs_rfl ⟨Nat.le_of_ble_eq_true rfl, Nat.le_of_ble_eq_true rfl⟩
        · rw [if_neg cF]
        · rw [if_neg cF]; exact e35
        · rw [if_neg cF]; decide

def ubT (u k : Int) : Int := (Int32.ofInt ((Int32.ofInt u >>> (Int32.ofInt k &&& 31)).toInt) &&& Int32.ofInt 1).toInt
def uoT (u k : Int) : Int := (Int32.ofInt u ||| Int32.ofInt (shV k)).toInt
/-- the greatest offer not yet taken -/
def beT (N : gN0) (u : Int) : Nat → Int
  | 0 => -1
  | k + 1 => if ubT u k = 0 ∧ (beT N u k = -1 ∨ N (27 + beT N u k) < N (27 + k)) then k else beT N u k
theorem beT_in (N : gN0) (u : Int) : ∀ n : Nat, -1 ≤ beT N u n ∧ beT N u n < n := by
  intro n
  induction n with
  | zero => exact ⟨Int.le_refl _, by show (-1 : Int) < ((0 : Nat) : Int); omega⟩
  | succ n ih => unfold beT; split <;> omega
def seT (N : gN0) : Nat → Int × Int
  | 0 => (0, 0)
  | n + 1 => ((seT N n).1 + N (27 + beT N (seT N n).2 (N 26).toNat), uoT (seT N n).2 (beT N (seT N n).2 (N 26).toNat))
theorem seT_in (N : gN0) : ∀ n, inI (seT N n).2 := by
  intro n
  cases n with
  | zero => show inI 0; exact ⟨by decide, by decide⟩
  | succ n => exact i32_in _

theorem kX12_saleAt {E l Sh V z} {b : Int} {N : gN0} {w0 : Int} (hm : gMd b N Sh V) (hI : INV N) (hw : inI w0) : gM E l yX12_saleAt (.code yX12_saleAt cX12_saleAt 7 (some .int)) (rmk 8 0 0 200) [(2, b), (0, w0)] Sh V z (gRi (if (fitC (bI (0 ≤ w0 ∧ w0 ≤ 3)) (bI (N 21 = 1)) 1) = 0 then if w0 < 3 then N (22 + w0) else wI (seT N (min (N 25) (N 26)).toNat).1 else 0) Sh (up V b 3 (fitC (bI (0 ≤ w0 ∧ w0 ≤ 3)) (bI (N 21 = 1)) 1))) := by
  refine gM_at (L0 := [(2, b), (0, w0), (9, 0), (9, 0), (9, 0), (9, 0), (9, 0)]) rfl rfl rfl ?_
  intro p e s m args below meth c hC hr hex hnm hz
  have hsc := hI.1.1
  unfold iScal at hsc
  have hoo := hI.2.2
  unfold oOk at hoo
  refine gB hC _ _ _ _ _ _ _ qX12_saleAt_0 rfl ?_
  refine g_cS1 hC dX12_saleAt_4 mX12_35 sX12_in (kX12_in (by omega) (by omega) (by omega)) rfl rfl (Nat.le_of_ble_eq_true rfl) (RR rfl rfl rfl rfl) (fun z => ?_)
  refine gB hC _ _ _ _ _ _ _ qX12_saleAt_7 rfl ?_
  refine g_getr hC dX12_saleAt_8 fX12_9 hm.1.1 (by decide) rfl 0 rfl hm.2.1.1 ?_
  refine gB hC _ _ _ _ _ _ _ qX12_saleAt_11 rfl ?_
  refine g_iald hC dX12_saleAt_13 hm.1.2.1 (gMd_at hm _) (by omega) (by omega) (by decide) (fun i13 => ?_)
  refine gB hC _ _ _ _ _ _ _ qX12_saleAt_14 rfl ?_
  refine g_icmp_ne hC 22 dX12_saleAt_15 rfl (by first | omega | exact bI_in _ | assumption) (by first | omega | exact bI_in _ | assumption) (fun c15 => ?_) (fun c15 => ?_)
  · refine gB hC _ _ _ _ _ _ _ qX12_saleAt_22 rfl ?_
    refine gB hC _ _ _ _ _ _ _ qX12_saleAt_23 rfl ?_
    refine g_cV1m hC dX12_saleAt_24 mX12_111 vX12_fits (kX12_fitsC (C := (fitC (bI (0 ≤ w0 ∧ w0 ≤ 3)) (bI (N 21 = 1)) 1)) hm (by first | omega | exact bI_in _) (by first | omega | exact bI_in _) (by first | omega | exact bI_in _) (fit_eq (by first | rfl | exact (bI_t (by omega)).symm | exact (bI_f (by omega)).symm) (by first | rfl | exact (bI_t (by omega)).symm | exact (bI_f (by omega)).symm) (by first | rfl | exact (bI_t (by omega)).symm | exact (bI_f (by omega)).symm))) rfl hm.1.1 (by decide) rfl (Nat.le_of_ble_eq_true rfl) (RR rfl rfl rfl rfl) (fun z V24 e24 => ?_)
    have hm24 := gMd_o hm e24 (Or.inr ⟨rfl, by decide⟩)
    have h224 : V24 b 2 = V b 2 := by rw [e24, up_ne _ _ (Or.inr (by decide))]
    refine g_if_ne hC 32 dX12_saleAt_27 rfl (by first | omega | exact bI_in _ | assumption) (fun c27 => ?_) (fun c27 => ?_)
    · exact absurd (bI_n0.mp c27) (fit_n2 (by first | rfl | exact bI_f (by omega)))
    · have cF := bI_0.mp c27
      refine gB hC _ _ _ _ _ _ _ qX12_saleAt_30 rfl ?_
      refine g_ireturn hC dX12_saleAt_31 hr ⟨?_, rfl, ?_, ?_⟩ gs_rfl ⟨Nat.le_of_ble_eq_true rfl, Nat.le_of_ble_eq_true rfl⟩
      · rw [if_neg cF]
      · exact e24
      · rw [if_neg cF]; decide
  · refine gB hC _ _ _ _ _ _ _ qX12_saleAt_18 rfl ?_
    refine gB hC _ _ _ _ _ _ _ qX12_saleAt_23 rfl ?_
    refine g_cV1m hC dX12_saleAt_24 mX12_111 vX12_fits (kX12_fitsC (C := (fitC (bI (0 ≤ w0 ∧ w0 ≤ 3)) (bI (N 21 = 1)) 1)) hm (by first | omega | exact bI_in _) (by first | omega | exact bI_in _) (by first | omega | exact bI_in _) (fit_eq (by first | rfl | exact (bI_t (by omega)).symm | exact (bI_f (by omega)).symm) (by first | rfl | exact (bI_t (by omega)).symm | exact (bI_f (by omega)).symm) (by first | rfl | exact (bI_t (by omega)).symm | exact (bI_f (by omega)).symm))) rfl hm.1.1 (by decide) rfl (Nat.le_of_ble_eq_true rfl) (RR rfl rfl rfl rfl) (fun z V24 e24 => ?_)
    have hm24 := gMd_o hm e24 (Or.inr ⟨rfl, by decide⟩)
    have h224 : V24 b 2 = V b 2 := by rw [e24, up_ne _ _ (Or.inr (by decide))]
    refine g_if_ne hC 32 dX12_saleAt_27 rfl (by first | omega | exact bI_in _ | assumption) (fun c27 => ?_) (fun c27 => ?_)
    · have cF := bI_n0.mp c27
      have hp1 := fit_p1 cF
      have hp2 := fit_p2 cF
      refine gB hC _ _ _ _ _ _ _ qX12_saleAt_32 rfl ?_
      refine g_icmp_ge hC 47 dX12_saleAt_34 rfl (by first | omega | exact bI_in _ | assumption) (by first | omega | exact bI_in _ | assumption) (fun c34 => ?_) (fun c34 => ?_)
      · refine gB hC _ _ _ _ _ _ _ qX12_saleAt_47 rfl ?_
        refine g_loop (fun x : Nat × aV × aV => (x.1 : Int) ≤ N 25 ∧ (x.1 : Int) ≤ N 26) (fun x => (N 26 - (x.1 : Int)).toNat) 54 (fun x => [(2, b), (0, w0), (0, (seT N x.1).1), (0, (seT N x.1).2), (0, (x.1 : Int)), x.2.1, x.2.2]) (fun _ => V24) (0, (9, 0), (9, 0)) ⟨by show (0 : Int) ≤ _; omega, by show (0 : Int) ≤ _; omega⟩ ?_
        rintro ⟨n, a5, a6⟩ z ⟨hn5, hn6⟩ ih
        dsimp only at hn5 hn6 ih ⊢
        have hse := seT_in N n
        refine gB hC _ _ _ _ _ _ _ qX12_saleAt_54 rfl ?_
        refine g_getr hC dX12_saleAt_57 fX12_9 hm24.1.1 (by decide) rfl 0 rfl hm24.2.1.1 ?_
        refine gB hC _ _ _ _ _ _ _ qX12_saleAt_60 rfl ?_
        refine g_iald hC dX12_saleAt_62 hm24.1.2.1 (gMd_at hm24 _) (by omega) (by omega) (by decide) (fun i62 => ?_)
        refine g_icmp_ge hC 170 dX12_saleAt_63 rfl (by first | omega | exact bI_in _ | assumption) (by first | omega | exact bI_in _ | assumption) (fun c63 => ?_) (fun c63 => ?_)
        · have hnn : n = (min (N 25) (N 26)).toNat := by omega
          refine gB hC _ _ _ _ _ _ _ qX12_saleAt_170 rfl ?_
          refine g_wrap1 ?_
          refine g_ireturn hC dX12_saleAt_171 hr ⟨?_, rfl, ?_, ?_⟩ gs_rfl ⟨Nat.le_of_ble_eq_true rfl, Nat.le_of_ble_eq_true rfl⟩
          · rw [if_pos cF]
            first | (rw [if_pos (by omega)]; done) | rw [if_neg (by omega), hnn]
          · exact e24
          · rw [if_pos cF]
            by_cases hw3 : w0 < 3
            · rw [if_pos hw3]; first | assumption | (exfalso; omega)
            · rw [if_neg hw3]; exact i32_in _
        · refine gB hC _ _ _ _ _ _ _ qX12_saleAt_66 rfl ?_
          refine g_getr hC dX12_saleAt_69 fX12_9 hm24.1.1 (by decide) rfl 0 rfl hm24.2.1.1 ?_
          refine gB hC _ _ _ _ _ _ _ qX12_saleAt_72 rfl ?_
          refine g_iald hC dX12_saleAt_74 hm24.1.2.1 (gMd_at hm24 _) (by omega) (by omega) (by decide) (fun i74 => ?_)
          refine g_icmp_ge hC 170 dX12_saleAt_75 rfl (by first | omega | exact bI_in _ | assumption) (by first | omega | exact bI_in _ | assumption) (fun c75 => ?_) (fun c75 => ?_)
          · have hnn : n = (min (N 25) (N 26)).toNat := by omega
            refine gB hC _ _ _ _ _ _ _ qX12_saleAt_170 rfl ?_
            refine g_wrap1 ?_
            refine g_ireturn hC dX12_saleAt_171 hr ⟨?_, rfl, ?_, ?_⟩ gs_rfl ⟨Nat.le_of_ble_eq_true rfl, Nat.le_of_ble_eq_true rfl⟩
            · rw [if_pos cF]
              first | (rw [if_pos (by omega)]; done) | rw [if_neg (by omega), hnn]
            · exact e24
            · rw [if_pos cF]
              by_cases hw3 : w0 < 3
              · rw [if_pos hw3]; first | assumption | (exfalso; omega)
              · rw [if_neg hw3]; exact i32_in _
          · refine gB hC _ _ _ _ _ _ _ qX12_saleAt_78 rfl ?_
            refine g_loop (fun x : Nat => (x : Int) ≤ N 26) (fun x => (N 26 - (x : Int)).toNat) 84 (fun x => [(2, b), (0, w0), (0, (seT N n).1), (0, (seT N n).2), (0, (n : Int)), (0, beT N (seT N n).2 x), (0, (x : Int))]) (fun _ => V24) 0 (by show (0 : Int) ≤ _; omega) ?_
            rintro t z ht ih2
            have hbe := beT_in N (seT N n).2 t
            refine gB hC _ _ _ _ _ _ _ qX12_saleAt_84 rfl ?_
            refine g_getr hC dX12_saleAt_87 fX12_9 hm24.1.1 (by decide) rfl 0 rfl hm24.2.1.1 ?_
            refine gB hC _ _ _ _ _ _ _ qX12_saleAt_90 rfl ?_
            refine g_iald hC dX12_saleAt_92 hm24.1.2.1 (gMd_at hm24 _) (by omega) (by omega) (by decide) (fun i92 => ?_)
            refine g_icmp_ge hC 144 dX12_saleAt_93 rfl (by first | omega | exact bI_in _ | assumption) (by first | omega | exact bI_in _ | assumption) (fun c93 => ?_) (fun c93 => ?_)
            · refine gB hC _ _ _ _ _ _ _ qX12_saleAt_144 rfl ?_
              refine g_ishl hC dX12_saleAt_148 (Int32.ofInt_toInt _).symm ?_
              refine g_ior hC dX12_saleAt_149 (Int32.ofInt_toInt _).symm ?_
              refine gB hC _ _ _ _ _ _ _ qX12_saleAt_150 rfl ?_
              refine g_getr hC dX12_saleAt_153 fX12_9 hm24.1.1 (by decide) rfl 0 rfl hm24.2.1.1 ?_
              refine gB hC _ _ _ _ _ _ _ qX12_saleAt_156 rfl ?_
              refine g_iald hC dX12_saleAt_161 hm24.1.2.1 (gMd_at hm24 _) (by omega) (by omega) (by decide) (fun i161 => ?_)
              refine gB hC _ _ _ _ _ _ _ qX12_saleAt_162 rfl ?_
              obtain rfl : t = (N 26).toNat := by omega
              exact ih (n + 1, _, _) z ⟨by show ((n + 1 : Nat) : Int) ≤ _; omega, by show ((n + 1 : Nat) : Int) ≤ _; omega⟩ (by show (_ - ((n + 1 : Nat) : Int)).toNat < (_ - (n : Int)).toNat; omega)
            · refine gB hC _ _ _ _ _ _ _ qX12_saleAt_96 rfl ?_
              refine g_ishr hC dX12_saleAt_99 (Int32.ofInt_toInt _).symm ?_
              refine gB hC _ _ _ _ _ _ _ qX12_saleAt_100 rfl ?_
              refine g_iand hC dX12_saleAt_101 (Int32.ofInt_toInt _).symm ?_
              have h102 := i32_in (Int32.ofInt ((Int32.ofInt (seT N n).2 >>> (Int32.ofInt (t : Int) &&& 31)).toInt) &&& Int32.ofInt 1)
              refine g_if_ne hC 138 dX12_saleAt_102 rfl (by first | omega | exact bI_in _ | assumption) (fun c102 => ?_) (fun c102 => ?_)
              · have c102' : ¬ ubT (seT N n).2 t = 0 := c102
                refine gB hC _ _ _ _ _ _ _ qX12_saleAt_138 rfl ?_
                have h9 := ih2 (t + 1) z (by show ((t + 1 : Nat) : Int) ≤ _; omega) (by show (_ - ((t + 1 : Nat) : Int)).toNat < (_ - (t : Int)).toNat; omega)
                first
                | (rw [show beT N (seT N n).2 (t + 1) = t by rw [beT, if_pos ⟨c102', by omega⟩]] at h9; exact h9)
                | (rw [show beT N (seT N n).2 (t + 1) = beT N (seT N n).2 t by rw [beT, if_neg (fun q => c102' q.1)]] at h9; exact h9)
                | (rw [show beT N (seT N n).2 (t + 1) = beT N (seT N n).2 t by rw [beT, if_neg (fun q => by omega)]] at h9; exact h9)
              · have c102' : ubT (seT N n).2 t = 0 := c102
                refine gB hC _ _ _ _ _ _ _ qX12_saleAt_105 rfl ?_
                refine g_icmp_eq hC 134 dX12_saleAt_108 rfl (by first | omega | exact bI_in _ | assumption) (by first | omega | exact bI_in _ | assumption) (fun c108 => ?_) (fun c108 => ?_)
                · refine gB hC _ _ _ _ _ _ _ qX12_saleAt_134 rfl ?_
                  refine gB hC _ _ _ _ _ _ _ qX12_saleAt_138 rfl ?_
                  have h9 := ih2 (t + 1) z (by show ((t + 1 : Nat) : Int) ≤ _; omega) (by show (_ - ((t + 1 : Nat) : Int)).toNat < (_ - (t : Int)).toNat; omega)
                  first
                  | (rw [show beT N (seT N n).2 (t + 1) = t by rw [beT, if_pos ⟨c102', by omega⟩]] at h9; exact h9)
                  | (rw [show beT N (seT N n).2 (t + 1) = beT N (seT N n).2 t by rw [beT, if_neg (fun q => c102' q.1)]] at h9; exact h9)
                  | (rw [show beT N (seT N n).2 (t + 1) = beT N (seT N n).2 t by rw [beT, if_neg (fun q => by omega)]] at h9; exact h9)
                · refine gB hC _ _ _ _ _ _ _ qX12_saleAt_111 rfl ?_
                  refine g_getr hC dX12_saleAt_112 fX12_9 hm24.1.1 (by decide) rfl 0 rfl hm24.2.1.1 ?_
                  refine gB hC _ _ _ _ _ _ _ qX12_saleAt_115 rfl ?_
                  refine g_iald hC dX12_saleAt_120 hm24.1.2.1 (gMd_at hm24 _) (by omega) (by omega) (by decide) (fun i120 => ?_)
                  refine gB hC _ _ _ _ _ _ _ qX12_saleAt_121 rfl ?_
                  refine g_getr hC dX12_saleAt_122 fX12_9 hm24.1.1 (by decide) rfl 0 rfl hm24.2.1.1 ?_
                  refine gB hC _ _ _ _ _ _ _ qX12_saleAt_125 rfl ?_
                  refine g_iald hC dX12_saleAt_130 hm24.1.2.1 (gMd_at hm24 _) (by omega) (by omega) (by decide) (fun i130 => ?_)
                  refine g_icmp_le hC 138 dX12_saleAt_131 rfl (by first | omega | exact bI_in _ | assumption) (by first | omega | exact bI_in _ | assumption) (fun c131 => ?_) (fun c131 => ?_)
                  · refine gB hC _ _ _ _ _ _ _ qX12_saleAt_138 rfl ?_
                    have h9 := ih2 (t + 1) z (by show ((t + 1 : Nat) : Int) ≤ _; omega) (by show (_ - ((t + 1 : Nat) : Int)).toNat < (_ - (t : Int)).toNat; omega)
                    first
                    | (rw [show beT N (seT N n).2 (t + 1) = t by rw [beT, if_pos ⟨c102', by omega⟩]] at h9; exact h9)
                    | (rw [show beT N (seT N n).2 (t + 1) = beT N (seT N n).2 t by rw [beT, if_neg (fun q => c102' q.1)]] at h9; exact h9)
                    | (rw [show beT N (seT N n).2 (t + 1) = beT N (seT N n).2 t by rw [beT, if_neg (fun q => by omega)]] at h9; exact h9)
                  · refine gB hC _ _ _ _ _ _ _ qX12_saleAt_134 rfl ?_
                    refine gB hC _ _ _ _ _ _ _ qX12_saleAt_138 rfl ?_
                    have h9 := ih2 (t + 1) z (by show ((t + 1 : Nat) : Int) ≤ _; omega) (by show (_ - ((t + 1 : Nat) : Int)).toNat < (_ - (t : Int)).toNat; omega)
                    first
                    | (rw [show beT N (seT N n).2 (t + 1) = t by rw [beT, if_pos ⟨c102', by omega⟩]] at h9; exact h9)
                    | (rw [show beT N (seT N n).2 (t + 1) = beT N (seT N n).2 t by rw [beT, if_neg (fun q => c102' q.1)]] at h9; exact h9)
                    | (rw [show beT N (seT N n).2 (t + 1) = beT N (seT N n).2 t by rw [beT, if_neg (fun q => by omega)]] at h9; exact h9)
      · refine gB hC _ _ _ _ _ _ _ qX12_saleAt_37 rfl ?_
        refine g_getr hC dX12_saleAt_38 fX12_9 hm24.1.1 (by decide) rfl 0 rfl hm24.2.1.1 ?_
        refine gB hC _ _ _ _ _ _ _ qX12_saleAt_41 rfl ?_
        refine g_iald hC dX12_saleAt_45 hm24.1.2.1 (gMd_at hm24 _) (by omega) (by omega) (by decide) (fun i45 => ?_)
        have i46 := i45
        refine g_ireturn hC dX12_saleAt_46 hr ⟨?_, rfl, ?_, ?_⟩ gs_rfl ⟨Nat.le_of_ble_eq_true rfl, Nat.le_of_ble_eq_true rfl⟩
        · rw [if_pos cF]
          first | (rw [if_pos (by omega)]; done) | rw [if_neg (by omega), hnn]
        · exact e24
        · rw [if_pos cF]
          by_cases hw3 : w0 < 3
          · rw [if_pos hw3]; first | assumption | (exfalso; omega)
          · rw [if_neg hw3]; exact i32_in _
    · have cF := bI_0.mp c27
      refine gB hC _ _ _ _ _ _ _ qX12_saleAt_30 rfl ?_
      refine g_ireturn hC dX12_saleAt_31 hr ⟨?_, rfl, ?_, ?_⟩ gs_rfl ⟨Nat.le_of_ble_eq_true rfl, Nat.le_of_ble_eq_true rfl⟩
      · rw [if_neg cF]
      · exact e24
      · rw [if_neg cF]; decide
