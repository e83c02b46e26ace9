/-! a sale by limits, pure (laid by wip/p47/l19.py) -/
theorem wI_i {x : Int} (h : inI x) : wI x = x := by
  unfold wI
  exact Int32.toInt_ofInt_of_le h.1 (by have := h.2; omega)
/-- taken by the limit: d days are left behind it, r rooms are left -/
abbrev tkO (N : gN0) (d r : Nat) (p : Int) : Prop := 0 < r ∧ incZ N d r - incZ N d (r - 1) ≤ p * pw d
/-- rooms left and income behind some offers -/
def ofS (N f : gN0) (D R : Nat) : Nat → Nat × Int
  | 0 => (R, 0)
  | k + 1 => if tkO N (D - 1 - k) (ofS N f D R k).1 (f k) then ((ofS N f D R k).1 - 1, (ofS N f D R k).2 + f k) else ofS N f D R k
theorem ofS_ext {N f g : gN0} {D R : Nat} : ∀ k : Nat, (∀ i : Int, 0 ≤ i → i < k → f i = g i) → ofS N f D R k = ofS N g D R k := by
  intro k
  induction k with
  | zero => intro _; rfl
  | succ k ih =>
    intro h
    have e := ih (fun i i0 i1 => h i i0 (by omega))
    rw [ofS, ofS, e, h k (by omega) (by omega)]
def vaO (N f : gN0) (D R k : Nat) : Int := (ofS N f D R k).2 * pw (D - k) + incZ N (D - k) (ofS N f D R k).1
theorem vaO_ext {N f g : gN0} {D R k : Nat} (h : ∀ i : Int, 0 ≤ i → i < k → f i = g i) : vaO N f D R k = vaO N g D R k := by
  unfold vaO; rw [ofS_ext k h]
/-- one offer more -/
theorem vaO_st {N f g : gN0} {D R k : Nat} (hk : k < D) (h : ∀ i : Int, 0 ≤ i → i < k → f i = g i) : vaO N f D R (k + 1) = (ofS N g D R k).2 * pw (D - 1 - k) + (if tkO N (D - 1 - k) (ofS N g D R k).1 (f k) then f k * pw (D - 1 - k) + incZ N (D - 1 - k) ((ofS N g D R k).1 - 1) else incZ N (D - 1 - k) (ofS N g D R k).1) := by
  unfold vaO
  rw [show D - (k + 1) = D - 1 - k by omega, ofS, ofS_ext k h]
  split
  · dsimp only; rw [Int.add_mul]; omega
  · rfl
theorem tk_F {N : gN0} {d r : Nat} {p : Int} : (if tkO N d r p then p * pw d + incZ N d (r - 1) else incZ N d r) = oF N d r (p * pw d) := by
  unfold oF
  by_cases hr : r = 0
  · subst hr
    rw [if_neg (fun h => by have := h.1; omega), if_pos rfl, inc_00]
  · rw [if_neg hr]
    by_cases ht : tkO N d r p
    · rw [if_pos ht]; have := ht.2; omega
    · rw [if_neg ht]
      have : ¬ (incZ N d r - incZ N d (r - 1) ≤ p * pw d) := fun h => ht ⟨by omega, h⟩
      omega
theorem oF_0 {N : gN0} (h : oOk N) (d r : Nat) : oF N d r 0 = incZ N d r := by
  unfold oF
  by_cases hr : r = 0
  · subst hr; rw [if_pos rfl, inc_00]
  · rw [if_neg hr]
    obtain ⟨r, rfl⟩ : ∃ r1, r = r1 + 1 := ⟨r - 1, by omega⟩
    have := (inc_cc h d r).1
    rw [show r + 1 - 1 = r by omega]
    omega
/-- what all three offers bring -/
theorem vaO_all {N g : gN0} {D R k : Nat} (ho : oOk N) (h14 : N 14 = 0) (h15 : N 15 = 0) (hk : k < D) {a b c : gN0} (ha : ∀ i : Int, 0 ≤ i → i < k → a i = g i) (hb : ∀ i : Int, 0 ≤ i → i < k → b i = g i) (hc : ∀ i : Int, 0 ≤ i → i < k → c i = g i) (pa : a k = N 17) (pb : b k = N 20) (pc : c k = 0) : N 13 * vaO N a D R (k + 1) + N 16 * vaO N b D R (k + 1) + (1000 - N 13 - N 16) * vaO N c D R (k + 1) = vaO N g D R k := by
  rw [vaO_st hk ha, vaO_st hk hb, vaO_st hk hc, tk_F, tk_F, tk_F, pa, pb, pc, Int.zero_mul, oF_0 ho]
  unfold vaO
  obtain ⟨d, hd⟩ : ∃ d, D - k = d + 1 := ⟨D - k - 1, by omega⟩
  rw [hd, show D - 1 - k = d by omega, inc_F, rsT_4, h14, h15]
  show _ = _ * (pw d * 1000) + _
  generalize ofS N g D R k = s
  generalize incZ N d s.1 = x
  generalize oF N d s.1 (N 17 * pw d) = y
  generalize oF N d s.1 (N 20 * pw d) = u
  generalize oF N d s.1 (N 18 * pw d) = t1
  generalize oF N d s.1 (N 19 * pw d) = t2
  generalize pw d = P
  generalize s.2 = S
  generalize N 13 = o
  generalize N 16 = v
  grind
theorem incZ_ag {N K : gN0} (h : ∀ j, 13 ≤ j → j ≤ 20 → K j = N j) : ∀ d r : Nat, incZ K d r = incZ N d r := by
  intro d
  induction d with
  | zero => intro r; rw [inc_0r, inc_0r]
  | succ d ih =>
    intro r
    have e : ∀ x, oF K d r x = oF N d r x := fun x => by unfold oF; rw [ih, ih]
    rw [inc_F, inc_F, rsT_4, rsT_4, ih, e, e, e, e, h 13 (by decide) (by decide), h 14 (by decide) (by decide), h 15 (by decide) (by decide), h 16 (by decide) (by decide), h 17 (by decide) (by decide), h 18 (by decide) (by decide), h 19 (by decide) (by decide), h 20 (by decide) (by decide)]
theorem limZ_ag {N K : gN0} (h : ∀ j, 13 ≤ j → j ≤ 20 → K j = N j) (d r : Int) : limZ K d r = limZ N d r := by
  unfold limZ; rw [incZ_ag h, incZ_ag h]
theorem lim_le {N : gN0} (h : oOk N) {d r : Nat} (hd : d ≤ 3) (hr : 1 ≤ r) {p : Int} : limZ N ((d : Int) + 1) r ≤ p ↔ incZ N d r - incZ N d (r - 1) ≤ p * pw d := by
  obtain ⟨r, rfl⟩ : ∃ r1, r = r1 + 1 := ⟨r - 1, by omega⟩
  have h1 := (inc_cc h d r).1
  have b1 := incZ_in h d (r + 1) (by omega)
  have b2 := incZ_in h d r (by omega)
  unfold limZ
  rw [show ((d : Int) + 1 - 1).toNat = d by omega, show (((r + 1 : Nat) : Int)).toNat = r + 1 by omega, show (((r + 1 : Nat) : Int) - 1).toNat = r by omega, show r + 1 - 1 = r by omega]
  generalize incZ N d (r + 1) = x at *
  generalize incZ N d r = y at *
  unfold mxI at b1 b2
  rcases (by omega : d = 0 ∨ d = 1 ∨ d = 2 ∨ d = 3) with hh | hh | hh | hh <;> subst hh
  · have e : pw 0 = 1 := rfl
    rw [e] at b1 b2 ⊢
    rw [Int.tdiv_eq_ediv_of_nonneg (by omega), wI_i (by omega)]
    omega
  · have e : pw 1 = 1000 := rfl
    rw [e] at b1 b2 ⊢
    rw [Int.tdiv_eq_ediv_of_nonneg (by omega), wI_i (by omega)]
    omega
  · have e : pw 2 = 1000000 := rfl
    rw [e] at b1 b2 ⊢
    rw [Int.tdiv_eq_ediv_of_nonneg (by omega), wI_i (by omega)]
    omega
  · have e : pw 3 = 1000000000 := rfl
    rw [e] at b1 b2 ⊢
    rw [Int.tdiv_eq_ediv_of_nonneg (by omega), wI_i (by omega)]
    omega
/-- alike but for a sale -/
def AgO (N K : gN0) : Prop := ∀ j, (j < 21 ∨ 30 < j) → K j = N j
theorem AgO.rf (N : gN0) : AgO N N := fun _ _ => rfl
/-- a sale behind some offers -/
def OKs (N f : gN0) (D R : Nat) (lim : Int) (K : gN0) (k : Nat) : Prop := AgO N K ∧ INV K ∧ K 21 = 1 ∧ K 22 = (D : Int) - k ∧ K 23 = ((ofS N f D R k).1 : Int) ∧ K 24 = (ofS N f D R k).2 ∧ K 25 = R ∧ K 26 = k ∧ (∀ i : Int, 0 ≤ i → i < k → K (27 + i) = f i) ∧ (k = 0 → limZ K (K 22) (K 23) = lim)
theorem OKs_0 {N K f : gN0} {D R : Nat} (hA : AgO N K) (hI : INV K) (hD : 1 ≤ D ∧ D ≤ 3) (hR : 1 ≤ R ∧ R ≤ 3) : OKs N f D R (limZ (selN K D R) D R) (selN K D R) 0 := by
  have e22 : selN K D R 22 = D := by simp [selN, upN]
  have e23 : selN K D R 23 = R := by simp [selN, upN]
  refine ⟨fun j hj => ?_, sell_inv hI (by omega) (by omega), by simp [selN, upN], by rw [e22]; show (D : Int) = (D : Int) - ((0 : Nat) : Int); omega, e23, by simp [selN, upN, ofS], by simp [selN, upN], by simp [selN, upN], fun i i0 i1 => by have : i < ((0 : Nat) : Int) := i1; omega, fun _ => by rw [e22, e23]⟩
  rw [← hA j hj]
  unfold selN
  rw [upN_ne (by omega), upN_ne (by omega), upN_ne (by omega), upN_ne (by omega), upN_ne (by omega), upN_ne (by omega)]
theorem OKs_tk {N K f : gN0} {D R k : Nat} {lim : Int} (hN : oOk N) (H : OKs N f D R lim K k) (hk : k < D) (hD : D ≤ 3) (p : Int) : offC K p ↔ tkO N (D - 1 - k) (ofS N f D R k).1 p := by
  obtain ⟨h1, h2, h3, h4, h5, h6, h7, h8, h9, h10⟩ := H
  unfold offC tkO
  rw [h4, h5, limZ_ag (fun j _ _ => h1 j (by omega)), show (D : Int) - k = ((D - 1 - k : Nat) : Int) + 1 by omega]
  constructor
  · rintro ⟨a, b⟩
    exact ⟨by omega, (lim_le hN (by omega) (by omega)).mp b⟩
  · rintro ⟨a, b⟩
    exact ⟨by omega, (lim_le hN (by omega) (by omega)).mpr b⟩
theorem OKs_st {N K f : gN0} {D R k : Nat} {lim : Int} (hN : oOk N) (H : OKs N f D R lim K k) (hk : k < D) (hD : D ≤ 3) (hf : 0 ≤ f k ∧ f k ≤ 100000) : OKs N f D R lim (if offC K (f k) then offT K (f k) else offN K (f k)) (k + 1) := by
  have ht := OKs_tk hN H hk hD (f k)
  obtain ⟨h1, h2, h3, h4, h5, h6, h7, h8, h9, h10⟩ := H
  have hn : ∀ j, j ≠ 22 → j ≠ 26 → j ≠ 27 + K 26 → offN K (f k) j = K j := fun j a b c => by unfold offN; rw [upN_ne a, upN_ne b, upN_ne c]
  have n22 : offN K (f k) 22 = K 22 - 1 := upN_eq _ _ _
  have n26 : offN K (f k) 26 = K 26 + 1 := by unfold offN; rw [upN_ne (by decide), upN_eq]
  have n27 : offN K (f k) (27 + K 26) = f k := by unfold offN; rw [upN_ne (by omega), upN_ne (by omega), upN_eq]
  by_cases hc : offC K (f k)
  · have hs : ofS N f D R (k + 1) = ((ofS N f D R k).1 - 1, (ofS N f D R k).2 + f k) := by rw [ofS, if_pos (ht.mp hc)]
    have hp := (ht.mp hc).1
    rw [if_pos hc]
    have tn : ∀ j, j ≠ 23 → j ≠ 24 → offT K (f k) j = offN K (f k) j := fun j a b => by unfold offT; rw [upN_ne b, upN_ne a]
    refine ⟨fun j hj => by rw [tn _ (by omega) (by omega), hn _ (by omega) (by omega) (by omega)]; exact h1 j hj, offT_inv h2 hf (by omega) hc.1, ?_, ?_, ?_, ?_, ?_, ?_, fun i i0 i1 => ?_, fun h => by omega⟩
    · rw [tn _ (by decide) (by decide), hn _ (by decide) (by decide) (by omega)]; exact h3
    · rw [tn _ (by decide) (by decide), n22]; omega
    · unfold offT; rw [upN_ne (by decide), upN_eq, hs]; show K 23 - 1 = (((ofS N f D R k).1 - 1 : Nat) : Int); omega
    · unfold offT; rw [upN_eq, hs]; show K 24 + f k = _; rw [h6]
    · rw [tn _ (by decide) (by decide), hn _ (by decide) (by decide) (by omega)]; exact h7
    · rw [tn _ (by decide) (by decide), n26]; omega
    · rw [tn _ (by omega) (by omega)]
      by_cases hi : i = k
      · rw [hi, ← h8]; rw [h8] at n27 ⊢; exact n27
      · rw [hn _ (by omega) (by omega) (by omega)]; exact h9 i i0 (by omega)
  · have hs : ofS N f D R (k + 1) = ofS N f D R k := by rw [ofS, if_neg (fun h => hc (ht.mpr h))]
    rw [if_neg hc]
    refine ⟨fun j hj => by rw [hn _ (by omega) (by omega) (by omega)]; exact h1 j hj, off_inv h2 hf (by omega), ?_, ?_, ?_, ?_, ?_, ?_, fun i i0 i1 => ?_, fun h => by omega⟩
    · rw [hn _ (by decide) (by decide) (by omega)]; exact h3
    · rw [n22]; omega
    · rw [hn _ (by decide) (by decide) (by omega), hs]; exact h5
    · rw [hn _ (by decide) (by decide) (by omega), hs]; exact h6
    · rw [hn _ (by decide) (by decide) (by omega)]; exact h7
    · rw [n26]; omega
    · by_cases hi : i = k
      · rw [hi, ← h8]; rw [h8] at n27 ⊢; exact n27
      · rw [hn _ (by omega) (by omega) (by omega)]; exact h9 i i0 (by omega)
