/-! the reference: changes of stays (rows laid by wip/whole/m7.py) -/
theorem i32_in (x : Int32) : inI x.toInt := by
  have h1 := Int32.le_toInt x
  have h2 := Int32.toInt_lt x
  unfold inI
  omega
/-- alike but for the closed nights -/
theorem INV_ag {N M : gN0} (h : ∀ j, 0 ≤ j → j < 1596 → M j = N j) (hI : INV N) : INV M := by
  obtain ⟨⟨i1, i2, i3, i4, i5⟩, hb, ho⟩ := hI
  have hsc := i1
  unfold iScal at hsc
  have lo : ∀ j, 0 ≤ j → j < 56 → M j = N j := fun j a b => h j a (by omega)
  refine ⟨⟨?_, ?_, ?_, ?_, ?_⟩, bOk_of ?_ (fun j a b => lo j (by omega) (by omega)) hb, oOk_of (fun j a b => lo j (by omega) (by omega)) ho⟩
  · unfold iScal
    rw [lo 0 (by decide) (by decide), lo 1 (by decide) (by decide), lo 2 (by decide) (by decide), lo 3 (by decide) (by decide), lo 4 (by decide) (by decide), lo 5 (by decide) (by decide), lo 6 (by decide) (by decide), lo 7 (by decide) (by decide)]
    exact i1
  · intro k a0 a1
    rw [lo 1 (by decide) (by decide)] at a1
    have := i2 k a0 a1
    have e : ∀ w, 0 ≤ w → w < 3 → kF M k w = kF N k w := fun w _ _ => lo _ (by omega) (by omega)
    unfold kOk at this ⊢
    rw [e 0 (by decide) (by decide), e 1 (by decide) (by decide), e 2 (by decide) (by decide)]
    exact this
  · intro k a0 a1
    rw [lo 2 (by decide) (by decide)] at a1
    have := i3 k a0 a1
    have e : ∀ w, 0 ≤ w → w < 4 → seF M k w = seF N k w := fun w _ _ => lo _ (by omega) (by omega)
    unfold seOk at this ⊢
    rw [e 0 (by decide) (by decide), e 1 (by decide) (by decide), e 2 (by decide) (by decide), e 3 (by decide) (by decide)]
    exact this
  · intro t a0 a1
    rw [lo 5 (by decide) (by decide)] at a1
    have := i4 t a0 a1
    have e : ∀ w, 0 ≤ w → w < 24 → sF M t w = sF N t w := fun w a b => h _ (by omega) (by omega)
    have h7 := this.1
    unfold sOk at this ⊢
    rw [e 0 (by decide) (by decide), e 1 (by decide) (by decide), e 2 (by decide) (by decide), e 3 (by decide) (by decide), e 4 (by decide) (by decide), e 5 (by decide) (by decide), e 6 (by decide) (by decide), e 7 (by decide) (by decide), e 8 (by decide) (by decide), e 9 (by decide) (by decide), lo 1 (by decide) (by decide)]
    refine ⟨this.1, fun n n0 n1 => ?_⟩
    rw [e (10 + n) (by omega) (by omega)]
    exact this.2 n n0 n1
  · intro g a0 a1
    rw [lo 7 (by decide) (by decide)] at a1
    have := i5 g a0 a1
    have e : ∀ w, 0 ≤ w → w < 5 → gF M g w = gF N g w := fun w _ _ => h _ (by omega) (by omega)
    unfold gOk at this ⊢
    rw [e 0 (by decide) (by decide), e 1 (by decide) (by decide), e 2 (by decide) (by decide), e 3 (by decide) (by decide), e 4 (by decide) (by decide), lo 1 (by decide) (by decide)]
    exact this
  · unfold Phi
    rw [lo 5 (by decide) (by decide), phT_eq (N := N) _ (fun s p q => by unfold sF; exact h _ (by omega) (by omega))]
def shV (j : Int) : Int := (Int32.ofInt 1 <<< (Int32.ofInt j &&& 31)).toInt
/-- a number with a bit laid or taken -/
def cbW (w j cl : Int) : Int := if cl = 0 then (Int32.ofInt w &&& Int32.ofInt ((Int32.ofInt (shV j) ^^^ Int32.ofInt (-1)).toInt)).toInt else (Int32.ofInt w ||| Int32.ofInt (shV j)).toInt
theorem cbW_in (w j cl : Int) : inI (cbW w j cl) := by unfold cbW; split <;> exact i32_in _
def clN (N : gN0) (k d cl : Int) : gN0 := upN N (1596 + k * 1142 + d / 32) (cbW (N (1596 + k * 1142 + d / 32)) (d % 32) cl)
theorem clN_inv {N : gN0} {k d cl : Int} (h : INV N) (h0 : 0 ≤ k) (h1 : 0 ≤ d) : INV (clN N k d cl) := INV_ag (fun j a b => upN_ne (by omega)) h
/-- the stays of a group that are held are cancelled -/
def lgS (N : gN0) (g : Int) : Nat → gN0 × Int
  | 0 => (N, 0)
  | n + 1 => if sF (lgS N g n).1 n 8 = g ∧ sF (lgS N g n).1 n 0 = 0 then (upN (lgS N g n).1 (56 + (n : Int) * 24 + 0) 2, (lgS N g n).2 + 1) else lgS N g n
theorem lgS_inv {N : gN0} {g : Int} (h : INV N) : ∀ n : Nat, (n : Int) ≤ N 5 → INV (lgS N g n).1 ∧ (lgS N g n).1 5 = N 5 ∧ 0 ≤ (lgS N g n).2 ∧ (lgS N g n).2 ≤ n := by
  intro n
  induction n with
  | zero => intro _; exact ⟨h, rfl, Int.le_refl _, Int.le_refl _⟩
  | succ n ih =>
    intro hn
    obtain ⟨h1, h2, h3, h4⟩ := ih (by omega)
    unfold lgS
    split
    · rename_i hc
      refine ⟨INV_st h1 (by omega) (by omega) (by decide) (by decide) ?_, ?_, by show 0 ≤ _ + 1; omega, by show _ + 1 ≤ _; omega⟩
      · rw [hc.2]; decide
      · show upN _ _ _ 5 = _
        rw [upN_ne (by omega)]; exact h2
    · exact ⟨h1, h2, h3, by omega⟩
def dpO (N : gN0) (s : Int) : Int := (sPr N s * 20 + 50) / 100
def payN (N : gN0) (s : Int) : gN0 := mvN (upN (upN N (56 + s * 24 + 0) 1) (56 + s * 24 + 6) (dpO N s)) 0 1 (dpO N s)
def rfO (N : gN0) (s : Int) : Int := if sF N s 0 ≠ 1 ∨ sF N s 2 - N 0 < 3 then 0 else if sF N s 2 - N 0 < 14 then (sF N s 6 + 1) / 2 else sF N s 6
theorem rfO_in {N : gN0} {s : Int} (h : sOk N s) : 0 ≤ rfO N s ∧ rfO N s ≤ sF N s 6 := by
  have := h.1
  unfold rfO
  (repeat' split) <;> omega
def caN (N : gN0) (s : Int) : gN0 := upN (if sF N s 0 = 1 then mvN (mvN N 1 0 (rfO N s)) 1 2 (sF N s 6 - rfO N s) else N) (56 + s * 24 + 0) 2
/-- prices laid from a cell on -/
def prP (N : gN0) (base k first n : Int) : gN0 := fun j => if base ≤ j ∧ j < base + n then nPr N k (first + (j - base)) else N j
theorem prP_0 (N : gN0) (base k first : Int) : prP N base k first 0 = N := by
  funext j
  unfold prP
  rw [if_neg (by omega)]
theorem prP_next (N : gN0) (base k first n : Int) {a : Int} (hn : 0 ≤ n) (ha : a = base + n) : upN (prP N base k first n) a (nPr N k (first + n)) = prP N base k first (n + 1) := by
  subst ha
  funext j
  unfold upN prP
  by_cases h : j = base + n
  · rw [if_pos h, if_pos (by omega), h]
    congr 1
    omega
  · rw [if_neg h]
    by_cases h2 : base ≤ j ∧ j < base + n
    · rw [if_pos h2, if_pos (by omega)]
    · rw [if_neg h2, if_neg (by omega)]
def snT (N : gN0) (k first : Int) : Nat → Int
  | 0 => 0
  | n + 1 => snT N k first n + nPr N k (first + n)
theorem prP_ne (N : gN0) (k first : Int) {base n j : Int} (h : j < base ∨ base + n ≤ j) : prP N base k first n j = N j := by unfold prP; rw [if_neg (by omega)]
theorem prP_at (N : gN0) (k first : Int) {base n j : Int} (h : base ≤ j ∧ j < base + n) : prP N base k first n j = nPr N k (first + (j - base)) := by unfold prP; rw [if_pos h]
def loN (N : gN0) (s nights : Int) : gN0 := upN (prP N (56 + s * 24 + 10 + sF N s 3) (sF N s 1) (sF N s 2 + sF N s 3) nights) (56 + s * 24 + 3) (sF N s 3 + nights)
def shN (N : gN0) (s nights : Int) : gN0 := upN N (56 + s * 24 + 3) (sF N s 3 - nights)
theorem prP_r {N : gN0} {s k first n : Int} (hs : 0 ≤ s) (h3 : 0 ≤ sF N s 3) (hn : sF N s 3 + n ≤ 14) : AgR N (prP N (56 + s * 24 + 10 + sF N s 3) k first n) := by
  refine ⟨fun j hj => prP_ne _ _ _ (by omega), fun t w t0 t1 w0 w1 => ?_⟩
  unfold sF
  unfold sF at h3 hn
  exact prP_ne _ _ _ (by omega)
theorem prP_s {N : gN0} {s k first n : Int} (hs : 0 ≤ s) (h3 : 0 ≤ sF N s 3) (hn : sF N s 3 + n ≤ 14) : AgT N (prP N (56 + s * 24 + 10 + sF N s 3) k first n) s := fun j h1 h2 => prP_ne _ _ _ (by unfold sF at *; omega)
theorem prP_sOk {N : gN0} {s k first n : Int} (h : sOk N s) (hs : 0 ≤ s) : sOk (prP N (56 + s * 24 + 10 + sF N s 3) k first n) s := by
  have h1 := h.1
  have e1 : prP N (56 + s * 24 + 10 + sF N s 3) k first n 1 = N 1 := prP_ne _ _ _ (by omega)
  have e : ∀ w, 0 ≤ w → w < 10 + sF N s 3 → sF (prP N (56 + s * 24 + 10 + sF N s 3) k first n) s w = sF N s w := fun w _ hw => prP_ne _ _ _ (by omega)
  generalize prP N (56 + s * 24 + 10 + sF N s 3) k first n = M at *
  unfold sOk at h ⊢
  rw [e1, e 0 (by omega) (by omega), e 1 (by omega) (by omega), e 2 (by omega) (by omega), e 3 (by omega) (by omega), e 4 (by omega) (by omega), e 5 (by omega) (by omega), e 6 (by omega) (by omega), e 7 (by omega) (by omega), e 8 (by omega) (by omega), e 9 (by omega) (by omega)]
  refine ⟨h.1, fun i a b => ?_⟩
  rw [e _ (by omega) (by omega)]
  exact h.2 i a b
theorem shN_inv {N : gN0} {s n : Int} (hI : INV N) (h0 : 0 ≤ s) (h1 : s < N 5) (hn0 : 1 ≤ n) (hn : n < sF N s 3) : INV (shN N s n) := by
  have hag : AgT N (shN N s n) s := fun j h _ => upN_ne (by omega)
  have h := hI.1.2.2.2.1 s h0 h1
  have e1 : shN N s n 1 = N 1 := upN_ne (by omega)
  have eb : ∀ j, 9 ≤ j → j ≤ 12 → shN N s n j = N j := fun j _ _ => upN_ne (by omega)
  have e : ∀ w, w ≠ 3 → sF (shN N s n) s w = sF N s w := fun w hw => upN_ne (by omega)
  have e3 : sF (shN N s n) s 3 = sF N s 3 - n := upN_eq _ _ _
  refine INV_s hag h0 h1 hI ?_ ?_
  · unfold sOk at h ⊢
    rw [e1, e3, e 0 (by decide), e 1 (by decide), e 2 (by decide), e 4 (by decide), e 5 (by decide), e 6 (by decide), e 7 (by decide), e 8 (by decide), e 9 (by decide)]
    refine ⟨by omega, fun i a b => ?_⟩
    rw [e _ (by omega)]
    exact h.2 i a (by omega)
  · rw [e 0 (by decide), eb 9 (by decide) (by decide), eb 10 (by decide) (by decide), eb 11 (by decide) (by decide), eb 12 (by decide) (by decide)]
    omega

theorem caN_inv {N : gN0} {s : Int} (hI : INV N) (h0 : 0 ≤ s) (h1 : s < N 5) (ha : sF N s 0 = 0 ∨ sF N s 0 = 1) : INV (caN N s) := by
  have hs := hI.1.2.2.2.1 s h0 h1
  have hs1 := hs.1
  have hr := rfO_in hs
  by_cases hp : sF N s 0 = 1
  · have e : caN N s = stN (mvN (mvN N 1 0 (rfO N s)) 1 2 (sF N s 6 - rfO N s)) s 2 := by unfold caN; rw [if_pos hp]; rfl
    rw [e]
    have hok := sOk_st (st := 2) (sOk_mv (f := 1) (t := 2) (a := sF N s 6 - rfO N s) (sOk_mv (f := 1) (t := 0) (a := rfO N s) hs h0 (by decide) (by decide)) h0 (by decide) (by decide)) h0 (by decide) (by decide)
    refine INV_s (fun j q1 q2 => ?_) h0 h1 hI hok ?_
    · unfold stN
      rw [upN_ne (by omega), mvN_far _ (by decide) (by decide) q2, mvN_far _ (by decide) (by decide) q2]
    · rw [stN_0, hp]
      have eb : ∀ j, j < 13 → stN (mvN (mvN N 1 0 (rfO N s)) 1 2 (sF N s 6 - rfO N s)) s 2 j = mvN (mvN N 1 0 (rfO N s)) 1 2 (sF N s 6 - rfO N s) j := fun j hj => upN_ne (by omega)
      rw [eb 9 (by decide), eb 10 (by decide), eb 11 (by decide), eb 12 (by decide)]
      have p1 : phi 1 = 2016000 := rfl
      have p2 : phi 2 = 4032000 := rfl
      simp only [mvN, upN, p1, p2]
      simp
      omega
  · have e : caN N s = stN N s 2 := by unfold caN; rw [if_neg hp]; rfl
    rw [e]
    refine INV_st hI h0 h1 (by decide) (by decide) ?_
    have := ha.resolve_right hp
    rw [this]; decide

