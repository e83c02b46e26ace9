/-! rooms given: the order of stays, the lowest free room -/
abbrev alK (N : gN0) (k t : Int) : Prop := (sF N t 0 = 0 ∨ sF N t 0 = 1) ∧ sF N t 1 = k
def lxl (N : gN0) (a b : Int) : Prop := sF N a 2 < sF N b 2 ∨ (sF N a 2 = sF N b 2 ∧ a < b)
def smF (g : Int → Int) (f : gN0) : Nat → Int
  | 0 => 0
  | n + 1 => smF g f n + g (f (n : Int))
def smA (N : gN0) (k : Int) (g : Int → Int) : Nat → Int
  | 0 => 0
  | n + 1 => smA N k g n + (if alK N k n then g (n : Int) else 0)
/-- f lists the stays of a kind that are alive, below t, by first nights -/
def SRT (N : gN0) (k : Int) (f : gN0) (m t : Nat) : Prop := (∀ i : Int, 0 ≤ i → i < m → 0 ≤ f i ∧ f i < t ∧ alK N k (f i)) ∧ (∀ i : Int, 0 ≤ i → i + 1 < m → lxl N (f i) (f (i + 1))) ∧ (∀ u : Int, 0 ≤ u → u < t → alK N k u → ∃ i : Int, 0 ≤ i ∧ i < m ∧ f i = u) ∧ (∀ g : Int → Int, smF g f m = smA N k g t) ∧ m ≤ t
theorem SRT_0 (N : gN0) (k : Int) (f : gN0) : SRT N k f 0 0 := ⟨fun i i0 i1 => by have : i < 0 := i1; omega, fun i i0 i1 => by have : i + 1 < 0 := i1; omega, fun u u0 u1 => by have : u < 0 := u1; omega, fun g => rfl, Nat.le_refl _⟩
theorem SRT_skip {N : gN0} {k : Int} {f : gN0} {m t : Nat} (H : SRT N k f m t) (h : ¬ alK N k t) : SRT N k f m (t + 1) := by
  obtain ⟨h1, h2, h3, h4, h5⟩ := H
  refine ⟨fun i i0 i1 => ?_, h2, fun u u0 u1 ua => ?_, fun g => ?_, by omega⟩
  · have := h1 i i0 i1; exact ⟨this.1, by omega, this.2.2⟩
  · by_cases hu : u = (t : Int)
    · subst hu; exact absurd ua h
    · exact h3 u u0 (by omega) ua
  · unfold smA; rw [if_neg h, Int.add_zero]; exact h4 g
theorem smF_eq {g : Int → Int} {f f' : gN0} : ∀ n : Nat, (∀ i : Int, 0 ≤ i → i < n → f' i = f i) → smF g f' n = smF g f n := by
  intro n
  induction n with
  | zero => intro _; rfl
  | succ n ih => intro h; unfold smF; rw [ih (fun i a b => h i a (by omega)), h n (by omega) (by omega)]
theorem smF_ins {g : Int → Int} {f f' : gN0} {pl : Nat} {x : Int} (h1 : ∀ i : Int, 0 ≤ i → i < pl → f' i = f i) (h2 : f' (pl : Int) = x) : ∀ n : Nat, (∀ i : Int, (pl : Int) < i → i ≤ (pl : Int) + n → f' i = f (i - 1)) → smF g f' (pl + n + 1) = smF g f (pl + n) + g x := by
  intro n
  induction n with
  | zero => intro _; show smF g f' pl + g (f' ((pl : Nat) : Int)) = _; rw [h2, smF_eq pl h1]; rfl
  | succ n ih =>
    intro h
    have e1 : smF g f' (pl + (n + 1) + 1) = smF g f' (pl + n + 1) + g (f' (((pl + n + 1 : Nat)) : Int)) := rfl
    have e2 : smF g f (pl + (n + 1)) = smF g f (pl + n) + g (f (((pl + n : Nat)) : Int)) := rfl
    rw [e1, e2, ih (fun i a b => h i a (by omega)), h _ (by omega) (by omega), show (((pl + n + 1 : Nat)) : Int) - 1 = ((pl + n : Nat) : Int) by omega]
    omega
theorem lxl_chain {N : gN0} {k : Int} {f : gN0} {m t : Nat} (H : SRT N k f m t) : ∀ d : Nat, ∀ i : Int, 0 ≤ i → i + d + 1 < m → lxl N (f i) (f (i + d + 1)) := by
  intro d
  induction d with
  | zero => intro i i0 i1; have := H.2.1 i i0 (by omega); rwa [show i + ((0 : Nat) : Int) + 1 = i + 1 by omega]
  | succ d ih =>
    intro i i0 i1
    have h1 := ih i i0 (by omega)
    have h2 := H.2.1 (i + d + 1) (by omega) (by omega)
    rw [show i + ((d + 1 : Nat) : Int) + 1 = i + d + 1 + 1 by omega]
    unfold lxl at *
    omega
theorem lxl_ij {N : gN0} {k : Int} {f : gN0} {m t : Nat} (H : SRT N k f m t) {i j : Int} (i0 : 0 ≤ i) (ij : i < j) (jm : j < m) : lxl N (f i) (f j) := by
  have := lxl_chain H (j - i - 1).toNat i i0 (by omega)
  rwa [show i + (((j - i - 1).toNat : Nat) : Int) + 1 = j by omega] at this
theorem SRT_ins {N : gN0} {k : Int} {f f' : gN0} {m t pl : Nat} (H : SRT N k f m t) (h : alK N k t) (hp : pl ≤ m) (h1 : ∀ j : Int, (pl : Int) ≤ j → j < m → sF N t 2 < sF N (f j) 2) (h2 : pl = 0 ∨ sF N (f ((pl : Int) - 1)) 2 ≤ sF N t 2)
    (e1 : ∀ i : Int, 0 ≤ i → i < pl → f' i = f i) (e2 : f' (pl : Int) = t) (e3 : ∀ i : Int, (pl : Int) < i → i ≤ m → f' i = f (i - 1)) : SRT N k f' (m + 1) (t + 1) := by
  obtain ⟨g1, g2, g3, g4, g5⟩ := H
  refine ⟨fun i i0 i1 => ?_, fun i i0 i1 => ?_, fun u u0 u1 ua => ?_, fun g => ?_, by omega⟩
  · by_cases q1 : i < pl
    · rw [e1 i i0 q1]; have := g1 i i0 (by omega); exact ⟨this.1, by omega, this.2.2⟩
    · by_cases q2 : i = pl
      · rw [q2, e2]; exact ⟨by omega, by omega, h⟩
      · rw [e3 i (by omega) (by omega)]; have := g1 (i - 1) (by omega) (by omega); exact ⟨this.1, by omega, this.2.2⟩
  · by_cases q1 : i + 1 < pl
    · rw [e1 i i0 (by omega), e1 (i + 1) (by omega) q1]; exact g2 i i0 (by omega)
    · by_cases q2 : i + 1 = pl
      · rw [e1 i i0 (by omega), q2, e2]
        have a := g1 i i0 (by omega)
        have b := h2.resolve_left (by omega)
        rw [show (pl : Int) - 1 = i by omega] at b
        unfold lxl
        omega
      · by_cases q3 : i = pl
        · rw [q3, e2, e3 _ (by omega) (by omega), show (pl : Int) + 1 - 1 = pl by omega]
          have := h1 pl (by omega) (by omega)
          unfold lxl
          omega
        · rw [e3 i (by omega) (by omega), e3 (i + 1) (by omega) (by omega)]
          have := g2 (i - 1) (by omega) (by omega)
          rwa [show i - 1 + 1 = i + 1 - 1 by omega] at this
  · by_cases hu : u = (t : Int)
    · exact ⟨pl, by omega, by omega, by rw [e2, hu]⟩
    · obtain ⟨i, i0, i1, i2⟩ := g3 u u0 (by omega) ua
      by_cases q : i < pl
      · exact ⟨i, i0, by omega, by rw [e1 i i0 q]; exact i2⟩
      · exact ⟨i + 1, by omega, by omega, by rw [e3 (i + 1) (by omega) (by omega), show i + 1 - 1 = i by omega]; exact i2⟩
  · have e := smF_ins (g := g) e1 e2 (m - pl) (fun i a b => e3 i a (by omega))
    rw [show pl + (m - pl) = m by omega] at e
    rw [e, g4 g, smA, if_pos h]
/-- the lowest room whose last night is ahead of a day -/
def lfT (L : gN0) (x : Int) : Nat → Int → Int
  | 0, _ => -1
  | n + 1, r => if L r < x then r else lfT L x n (r + 1)
theorem lfT_in (L : gN0) (x : Int) : ∀ (n : Nat) (r : Int), lfT L x n r = -1 ∨ (r ≤ lfT L x n r ∧ lfT L x n r < r + n ∧ L (lfT L x n r) < x) := by
  intro n
  induction n with
  | zero => intro r; exact Or.inl rfl
  | succ n ih =>
    intro r
    unfold lfT
    split
    · rename_i h; exact Or.inr ⟨Int.le_refl _, by omega, h⟩
    · rcases ih (r + 1) with h | h
      · exact Or.inl h
      · exact Or.inr ⟨by omega, by omega, h.2.2⟩
theorem tkT_iff (N rho : gN0) (k r s : Int) : ∀ n : Nat, tkT N rho k r s n = 1 ↔ ∃ t : Int, 0 ≤ t ∧ t < n ∧ t ≠ s ∧ rho t = r ∧ alK N k t ∧ sF N s 2 ≤ sF N t 2 + sF N t 3 - 1 := by
  intro n
  induction n with
  | zero => exact ⟨fun h => (by cases h), fun ⟨t, t0, t1, _⟩ => (by have : t < 0 := t1; omega)⟩
  | succ n ih =>
    unfold tkT
    constructor
    · intro h
      split at h
      · rename_i q
        rcases q with q | q
        · obtain ⟨t, t0, t1, t2⟩ := ih.mp q
          exact ⟨t, t0, by omega, t2⟩
        · exact ⟨n, by omega, by omega, q.1, q.2.1, ⟨q.2.2.1, q.2.2.2.1⟩, q.2.2.2.2⟩
      · cases h
    · rintro ⟨t, t0, t1, t2, t3, t4, t5⟩
      rw [if_pos]
      by_cases hn : t = (n : Int)
      · subst hn; exact Or.inr ⟨t2, t3, t4.1, t4.2, t5⟩
      · exact Or.inl (ih.mpr ⟨t, t0, by omega, t2, t3, t4, t5⟩)
theorem lr_lf {N rho L : gN0} {k s x : Int} : ∀ (n : Nat) (r : Int), (∀ q : Int, r ≤ q → q < r + n → (tkT N rho k q s (N 5).toNat = 1 ↔ ¬ L q < x)) → lrT N rho k s n r = lfT L x n r := by
  intro n
  induction n with
  | zero => intro r _; rfl
  | succ n ih =>
    intro r h
    unfold lrT lfT
    have h0 := h r (Int.le_refl _) (by omega)
    by_cases q : L r < x
    · rw [if_pos q, if_neg (fun g => (h0.mp g) q)]
    · rw [if_neg q, if_pos (h0.mpr q)]
      exact ih (r + 1) (fun z a b => h z (by omega) (by omega))
/-- a stay behind one, by first nights -/
def cnd (N : gN0) (k d s t : Int) : Prop := alK N k t ∧ d ≤ sF N t 2 ∧ (sF N t 2 ≠ d ∨ s < t)
theorem nxT_ch (N : gN0) (k d s : Int) : ∀ n : Nat, (nxT N k d s n = -1 ∧ ∀ t : Int, 0 ≤ t → t < n → ¬ cnd N k d s t) ∨ (0 ≤ nxT N k d s n ∧ nxT N k d s n < n ∧ cnd N k d s (nxT N k d s n) ∧ ∀ t : Int, 0 ≤ t → t < n → cnd N k d s t → t = nxT N k d s n ∨ lxl N (nxT N k d s n) t) := by
  intro n
  induction n with
  | zero => exact Or.inl ⟨rfl, fun t t0 t1 => by have : t < 0 := t1; omega⟩
  | succ n ih =>
    unfold nxT
    by_cases hc : cnd N k d s n
    · have hc2 := hc
      unfold cnd alK at hc2
      rcases ih with ⟨i1, i2⟩ | ⟨i1, i2, i3, i4⟩
      · rw [if_pos ⟨⟨hc2.1.1, hc2.1.2, hc2.2.1, hc2.2.2⟩, Or.inl i1⟩]
        refine Or.inr ⟨by omega, by omega, hc, fun t t0 t1 tc => ?_⟩
        by_cases hn : t = (n : Int)
        · exact Or.inl hn
        · exact absurd tc (i2 t t0 (by omega))
      · by_cases hl : sF N n 2 < sF N (nxT N k d s n) 2
        · rw [if_pos ⟨⟨hc2.1.1, hc2.1.2, hc2.2.1, hc2.2.2⟩, Or.inr hl⟩]
          refine Or.inr ⟨by omega, by omega, hc, fun t t0 t1 tc => ?_⟩
          by_cases hn : t = (n : Int)
          · exact Or.inl hn
          · right
            rcases i4 t t0 (by omega) tc with h | h
            · rw [h]; exact Or.inl hl
            · unfold lxl at *; omega
        · rw [if_neg (by omega)]
          refine Or.inr ⟨i1, by omega, i3, fun t t0 t1 tc => ?_⟩
          by_cases hn : t = (n : Int)
          · right; rw [hn]; unfold lxl; omega
          · exact i4 t t0 (by omega) tc
    · have hng : ¬ (((sF N n 0 = 0 ∨ sF N n 0 = 1) ∧ sF N n 1 = k ∧ d ≤ sF N n 2 ∧ (sF N n 2 ≠ d ∨ s < n)) ∧ (nxT N k d s n = -1 ∨ sF N n 2 < sF N (nxT N k d s n) 2)) := fun q => hc ⟨⟨q.1.1, q.1.2.1⟩, q.1.2.2.1, q.1.2.2.2⟩
      rw [if_neg hng]
      rcases ih with ⟨i1, i2⟩ | ⟨i1, i2, i3, i4⟩
      · refine Or.inl ⟨i1, fun t t0 t1 => ?_⟩
        by_cases hn : t = (n : Int)
        · rw [hn]; exact hc
        · exact i2 t t0 (by omega)
      · refine Or.inr ⟨i1, by omega, i3, fun t t0 t1 tc => ?_⟩
        by_cases hn : t = (n : Int)
        · rw [hn] at tc; exact absurd tc hc
        · exact i4 t t0 (by omega) tc
section GV
variable {N : gN0} {k R : Int} {f : gN0} {m : Nat}
/-- the stay of step i is the i-th of the order -/
theorem nx_f (hI : InvC N) (H : SRT N k f m (N 5).toNat) {i : Nat} (hi : i < m) {d s : Int} (hds : (i = 0 ∧ d = -1 ∧ s = -1) ∨ (1 ≤ i ∧ d = sF N (f ((i : Int) - 1)) 2 ∧ s = f ((i : Int) - 1))) : nxT N k d s (N 5).toNat = f i := by
  have hs := hI.1
  unfold iScal at hs
  have hf := H.1 i (by omega) (by omega)
  have hst := (hI.2.2.2.1 (f i) hf.1 (by omega)).1
  have hc : cnd N k d s (f i) := by
    refine ⟨hf.2.2, ?_⟩
    rcases hds with ⟨h1, h2, h3⟩ | ⟨h1, h2, h3⟩
    · omega
    · have := lxl_ij H (i := (i : Int) - 1) (j := i) (by omega) (by omega) (by omega)
      unfold lxl at this
      rw [h2, h3]
      omega
  rcases nxT_ch N k d s (N 5).toNat with ⟨i1, i2⟩ | ⟨i1, i2, i3, i4⟩
  · exact absurd hc (i2 (f i) hf.1 hf.2.1)
  · rcases i4 (f i) hf.1 hf.2.1 hc with h | h
    · exact h.symm
    · exfalso
      obtain ⟨j, j0, j1, j2⟩ := H.2.2.1 _ i1 i2 i3.1
      rw [← j2] at h i3
      have hjc := i3.2
      by_cases hji : j < i
      · rcases hds with ⟨h1, h2, h3⟩ | ⟨h1, h2, h3⟩
        · omega
        · by_cases hj1 : j = (i : Int) - 1
          · rw [hj1] at hjc; omega
          · have := lxl_ij H (i := j) (j := (i : Int) - 1) j0 (by omega) (by omega)
            unfold lxl at this
            omega
      · by_cases hji2 : j = (i : Int)
        · rw [hji2] at h; unfold lxl at h; omega
        · have := lxl_ij H (i := (i : Int)) (j := j) (by omega) (by omega) j1
          unfold lxl at h this
          omega
theorem nx_end (hI : InvC N) (H : SRT N k f m (N 5).toNat) {d s : Int} (hds : (m = 0 ∧ d = -1 ∧ s = -1) ∨ (1 ≤ m ∧ d = sF N (f ((m : Int) - 1)) 2 ∧ s = f ((m : Int) - 1))) : nxT N k d s (N 5).toNat = -1 := by
  rcases nxT_ch N k d s (N 5).toNat with ⟨i1, i2⟩ | ⟨i1, i2, i3, i4⟩
  · exact i1
  · exfalso
    obtain ⟨j, j0, j1, j2⟩ := H.2.2.1 _ i1 i2 i3.1
    rw [← j2] at i3
    have hjc := i3.2
    rcases hds with ⟨h1, h2, h3⟩ | ⟨h1, h2, h3⟩
    · omega
    · by_cases hj1 : j = (m : Int) - 1
      · rw [hj1] at hjc; omega
      · have := lxl_ij H (i := j) (j := (m : Int) - 1) j0 (by omega) (by omega)
        unfold lxl at this
        omega
theorem gv_ds (hI : InvC N) (H : SRT N k f m (N 5).toNat) : ∀ i : Nat, i ≤ m → (i = 0 ∧ (gvT N k R i).2.1 = -1 ∧ (gvT N k R i).2.2.1 = -1) ∨ (1 ≤ i ∧ (gvT N k R i).2.1 = sF N (f ((i : Int) - 1)) 2 ∧ (gvT N k R i).2.2.1 = f ((i : Int) - 1)) := by
  intro i
  induction i with
  | zero => intro _; exact Or.inl ⟨rfl, rfl, rfl⟩
  | succ i ih =>
    intro hi
    have hn := nx_f hI H (by omega) (ih (by omega))
    right
    rw [gvT, hn, if_neg (by have := (H.1 i (by omega) (by omega)).1; omega)]
    rw [show ((i + 1 : Nat) : Int) - 1 = (i : Int) by omega]
    exact ⟨by omega, rfl, rfl⟩
theorem gv_step (hI : InvC N) (H : SRT N k f m (N 5).toNat) {i : Nat} (hi : i < m) : gvT N k R (i + 1) = (upN (gvT N k R i).1 (f i) (lrT N (gvT N k R i).1 k (f i) R.toNat 0), sF N (f i) 2, f i, max (gvT N k R i).2.2.2 (lrT N (gvT N k R i).1 k (f i) R.toNat 0 + 1)) := by
  have hn := nx_f hI H hi (gv_ds (R := R) hI H i (by omega))
  rw [gvT, hn, if_neg (by have := (H.1 i (by omega) (by omega)).1; omega)]
theorem gv_end (hI : InvC N) (H : SRT N k f m (N 5).toNat) : gvT N k R (N 5).toNat = gvT N k R m := by
  have hn := nx_end hI H (gv_ds (R := R) hI H m (Nat.le_refl _))
  have := gvT_stay hn ((N 5).toNat - m)
  rwa [show m + ((N 5).toNat - m) = (N 5).toNat by have := H.2.2.2.2; omega] at this
theorem f_ne (H : SRT N k f m (N 5).toNat) {i j : Int} (i0 : 0 ≤ i) (ij : i < j) (jm : j < m) : f i ≠ f j := by
  intro q
  have := lxl_ij H i0 ij jm
  rw [q] at this
  unfold lxl at this
  omega
theorem gv_rho (hI : InvC N) (H : SRT N k f m (N 5).toNat) : ∀ i : Nat, i ≤ m → ∀ t : Int, (∀ j : Int, 0 ≤ j → j < i → f j ≠ t) → (gvT N k R i).1 t = -1 := by
  intro i
  induction i with
  | zero => intro _ t _; rfl
  | succ i ih =>
    intro hi t ht
    rw [gv_step hI H (by omega)]
    dsimp only
    rw [upN_ne (fun q => ht i (by omega) (by omega) q.symm)]
    exact ih (by omega) t (fun j j0 j1 => ht j j0 (by omega))
theorem gv_old (hI : InvC N) (H : SRT N k f m (N 5).toNat) {i : Nat} (hi : i < m) {j : Int} (j0 : 0 ≤ j) (j1 : j < i) : (gvT N k R (i + 1)).1 (f j) = (gvT N k R i).1 (f j) := by
  rw [gv_step hI H hi]
  exact upN_ne (f_ne H j0 j1 (by omega))
theorem gv_new (hI : InvC N) (H : SRT N k f m (N 5).toNat) {i : Nat} (hi : i < m) : (gvT N k R (i + 1)).1 (f i) = lrT N (gvT N k R i).1 k (f i) R.toNat 0 := by
  rw [gv_step hI H hi]
  exact upN_eq _ _ _
/-- the last nights of the rooms, behind i stays -/
def LN (N : gN0) (f rho L : gN0) (i : Int) : Prop := ∀ r : Int, 0 ≤ r → r < 6 → (∀ j : Int, 0 ≤ j → j < i → rho (f j) = r → sF N (f j) 2 + sF N (f j) 3 - 1 ≤ L r) ∧ (L r = -1 ∨ ∃ j : Int, 0 ≤ j ∧ j < i ∧ rho (f j) = r ∧ L r = sF N (f j) 2 + sF N (f j) 3 - 1)
theorem LN_tk (hI : InvC N) (H : SRT N k f m (N 5).toNat) {i : Nat} (hi : i < m) {L : gN0} (hL : LN N f (gvT N k R i).1 L i) {r : Int} (r0 : 0 ≤ r) (r1 : r < 6) : tkT N (gvT N k R i).1 k r (f i) (N 5).toNat = 1 ↔ ¬ L r < sF N (f i) 2 := by
  have hs := hI.1
  unfold iScal at hs
  obtain ⟨l1, l2⟩ := hL r r0 r1
  have hf := H.1 i (by omega) (by omega)
  have hst := (hI.2.2.2.1 (f i) hf.1 (by omega)).1
  rw [tkT_iff]
  constructor
  · rintro ⟨t, t0, t1, t2, t3, t4, t5⟩
    obtain ⟨j, j0, j1, j2⟩ := H.2.2.1 t t0 t1 t4
    subst j2
    have hji : j < i := by
      by_cases q : j < i
      · exact q
      · exfalso
        by_cases q2 : j = (i : Int)
        · rw [q2] at t2; exact t2 rfl
        · have := gv_rho (R := R) hI H i (by omega) (f j) (fun j' a b => f_ne H a (by omega) j1)
          omega
    have := l1 j j0 hji t3
    omega
  · intro hl
    rcases l2 with l2 | ⟨j, j0, j1, j2, j3⟩
    · omega
    · have hj := H.1 j j0 (by omega)
      exact ⟨f j, hj.1, hj.2.1, f_ne H j0 j1 (by omega), j2, hj.2.2, by omega⟩
theorem gv_lf (hI : InvC N) (H : SRT N k f m (N 5).toNat) {i : Nat} (hi : i < m) {L : gN0} (hL : LN N f (gvT N k R i).1 L i) (hR : R ≤ 6) : lrT N (gvT N k R i).1 k (f i) R.toNat 0 = lfT L (sF N (f i) 2) R.toNat 0 :=
  lr_lf R.toNat 0 (fun q a b => LN_tk hI H hi hL a (by omega))
theorem LN_next (hI : InvC N) (H : SRT N k f m (N 5).toNat) {i : Nat} (hi : i < m) {L L' : gN0} (hL : LN N f (gvT N k R i).1 L i) {x : Int} (hx : x = lfT L (sF N (f i) 2) R.toNat 0) (hR0 : 0 ≤ R) (hR : R ≤ 6)
    (h1 : x = -1 → ∀ r, 0 ≤ r → r < 6 → L' r = L r) (h2 : x ≠ -1 → L' x = sF N (f i) 2 + sF N (f i) 3 - 1 ∧ ∀ r, 0 ≤ r → r < 6 → r ≠ x → L' r = L r) : LN N f (gvT N k R (i + 1)).1 L' ((i + 1 : Nat) : Int) := by
  have hs := hI.1
  unfold iScal at hs
  have hf := H.1 i (by omega) (by omega)
  have hst := (hI.2.2.2.1 (f i) hf.1 (by omega)).1
  have hnew : (gvT N k R (i + 1)).1 (f i) = x := by rw [gv_new hI H hi, gv_lf hI H hi hL hR, hx]
  have hold : ∀ j : Int, 0 ≤ j → j < i → (gvT N k R (i + 1)).1 (f j) = (gvT N k R i).1 (f j) := fun j a b => gv_old hI H hi a b
  have hxi := lfT_in L (sF N (f i) 2) R.toNat 0
  rw [← hx] at hxi
  intro r r0 r1
  obtain ⟨l1, l2⟩ := hL r r0 r1
  by_cases hrx : r = x
  · have hx1 : x ≠ -1 := by omega
    obtain ⟨e1, e2⟩ := h2 hx1
    have hxi := hxi.resolve_left hx1
    refine ⟨fun j j0 j1 j2 => ?_, Or.inr ⟨i, by omega, by omega, by rw [hnew]; exact hrx.symm, by rw [hrx]; exact e1⟩⟩
    by_cases hj : j = (i : Int)
    · rw [hj, hrx, e1]; omega
    · rw [hold j j0 (by omega)] at j2
      have := l1 j j0 (by omega) j2
      rw [hrx] at this ⊢
      omega
  · have eL : L' r = L r := by
      by_cases hx1 : x = -1
      · exact h1 hx1 r r0 r1
      · exact (h2 hx1).2 r r0 r1 hrx
    rw [eL]
    refine ⟨fun j j0 j1 j2 => ?_, ?_⟩
    · by_cases hj : j = (i : Int)
      · rw [hj, hnew] at j2; exact absurd j2.symm hrx
      · rw [hold j j0 (by omega)] at j2; exact l1 j j0 (by omega) j2
    · rcases l2 with l2 | ⟨j, j0, j1, j2, j3⟩
      · exact Or.inl l2
      · exact Or.inr ⟨j, j0, by omega, by rw [hold j j0 j1]; exact j2, j3⟩
end GV
