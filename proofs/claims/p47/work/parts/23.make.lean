/-! making a stay: the state behind it -/
/-- alike but for stays that aren't there -/
def AgS (N N' : gN0) : Prop := ∀ j, (j < 56 + 24 * N 5 ∨ 1496 ≤ j) → N' j = N j
theorem AgS.sF {N N' : gN0} (h : AgS N N') {s w : Int} (h0 : 0 ≤ s) (h1 : s < N 5) (w0 : 0 ≤ w) (w1 : w < 24) : sF N' s w = sF N s w := h _ (Or.inl (by omega))
theorem AgS.lo {N N' : gN0} (h : AgS N N') (h5 : 0 ≤ N 5) {j : Int} (hj : j < 56) : N' j = N j := h _ (Or.inl (by omega))
theorem cntT_ag {N N' : gN0} (h : AgS N N') (k d : Int) : ∀ n : Nat, (n : Int) ≤ N 5 → cntT N' k d n = cntT N k d n := by
  intro n
  induction n with
  | zero => intro _; rfl
  | succ n ih =>
    intro hn
    unfold cntT
    rw [ih (by omega), h.sF (by omega) (by omega) (by decide) (by decide), h.sF (w := 1) (by omega) (by omega) (by decide) (by decide), h.sF (w := 2) (by omega) (by omega) (by decide) (by decide), h.sF (w := 3) (by omega) (by omega) (by decide) (by decide)]
theorem cnt_ag {N N' : gN0} (h : AgS N N') (h5 : 0 ≤ N 5) (k d : Int) : cnt N' k d = cnt N k d := by
  unfold cnt
  rw [h.lo h5 (by decide), cntT_ag h k d _ (by omega)]
theorem pctT_ag {N N' : gN0} (h : AgS N N') (h5 : 0 ≤ N 5) (h2 : N 2 ≤ 4) (md p : Int) : ∀ n : Nat, (n : Int) ≤ N 2 → pctT N' md p n = pctT N md p n := by
  intro n
  induction n with
  | zero => intro _; rfl
  | succ n ih =>
    intro hn
    have e : ∀ w, 0 ≤ w → w < 4 → seF N' n w = seF N n w := fun w _ _ => h.lo h5 (by omega)
    unfold pctT
    rw [ih (by omega), e 0 (by decide) (by decide), e 1 (by decide) (by decide), e 2 (by decide) (by decide)]
theorem nPr_ag {N N' : gN0} (h : AgS N N') (hI : InvC N) {k : Int} (hk0 : 0 ≤ k) (hk1 : k < N 1) (d : Int) : nPr N' k d = nPr N k d := by
  have hs := hI.1
  unfold iScal at hs
  have h5 : 0 ≤ N 5 := by omega
  have ek : ∀ w, 0 ≤ w → w < 3 → kF N' k w = kF N k w := fun w _ _ => h.lo h5 (by omega)
  have ep : pct N' k d = pct N k d := by
    unfold pct
    rw [cnt_ag h h5, ek 0 (by decide) (by decide), h.lo h5 (j := 2) (by decide), h.lo h5 (j := 3) (by decide), pctT_ag h h5 (by omega) _ _ _ (by omega)]
  unfold nPr
  rw [ep, ek 1 (by decide) (by decide)]
theorem InvC_ag {N N' : gN0} (h : AgS N N') (hI : InvC N) : InvC N' := by
  obtain ⟨h1, h2, h3, h4, h5⟩ := hI
  have hs := h1
  unfold iScal at hs
  have n5 : 0 ≤ N 5 := by omega
  have lo : ∀ j, j < 56 → N' j = N j := fun j hj => h.lo n5 hj
  refine ⟨?_, ?_, ?_, ?_, ?_⟩
  · unfold iScal
    rw [lo 0 (by decide), lo 1 (by decide), lo 2 (by decide), lo 3 (by decide), lo 4 (by decide), lo 5 (by decide), lo 6 (by decide), lo 7 (by decide)]
    exact h1
  · intro k k0 k1
    rw [lo 1 (by decide)] at k1
    have := h2 k k0 k1
    have e : ∀ w, 0 ≤ w → w < 3 → kF N' k w = kF N k w := fun w _ _ => lo _ (by omega)
    unfold kOk at this ⊢
    rw [e 0 (by decide) (by decide), e 1 (by decide) (by decide), e 2 (by decide) (by decide)]
    exact this
  · intro k k0 k1
    rw [lo 2 (by decide)] at k1
    have := h3 k k0 k1
    have e : ∀ w, 0 ≤ w → w < 4 → seF N' k w = seF N k w := fun w _ _ => lo _ (by omega)
    unfold seOk at this ⊢
    rw [e 0 (by decide) (by decide), e 1 (by decide) (by decide), e 2 (by decide) (by decide), e 3 (by decide) (by decide)]
    exact this
  · intro s s0 s1
    rw [lo 5 (by decide)] at s1
    have := h4 s s0 s1
    have e : ∀ w, 0 ≤ w → w < 24 → sF N' s w = sF N s w := fun w a b => h.sF s0 s1 a b
    have h7 := this.1
    unfold sOk at this ⊢
    rw [e 0 (by decide) (by decide), e 1 (by decide) (by decide), e 2 (by decide) (by decide), e 3 (by decide) (by decide), e 4 (by decide) (by decide), e 5 (by decide) (by decide), e 6 (by decide) (by decide), e 7 (by decide) (by decide), e 8 (by decide) (by decide), e 9 (by decide) (by decide), lo 1 (by decide)]
    refine ⟨this.1, fun n n0 n1 => ?_⟩
    rw [e (10 + n) (by omega) (by omega)]
    exact this.2 n n0 n1
  · intro g g0 g1
    rw [lo 7 (by decide)] at g1
    have := h5 g g0 g1
    have e : ∀ w, 0 ≤ w → gF N' g w = gF N g w := fun w _ => h _ (Or.inr (by omega))
    unfold gOk at this ⊢
    rw [e 0 (by decide), e 1 (by decide), e 2 (by decide), e 3 (by decide), e 4 (by decide), lo 1 (by decide)]
    exact this
/-- the prices of n nights of the stay to come -/
def mkP (N : gN0) (k first n : Int) : gN0 := fun j => if 56 + N 5 * 24 + 10 ≤ j ∧ j < 56 + N 5 * 24 + 10 + n then nPr N k (first + (j - (56 + N 5 * 24 + 10))) else N j
theorem mkP_ag (N : gN0) (k first : Int) {n : Int} (h5 : N 5 < 60) (hn : n ≤ 14) : AgS N (mkP N k first n) := by
  intro j hj
  unfold mkP
  rw [if_neg (by omega)]
theorem mkP_0 (N : gN0) (k first : Int) : mkP N k first 0 = N := by
  funext j
  unfold mkP
  rw [if_neg (by omega)]
theorem mkP_next (N : gN0) (k first n : Int) (hn : 0 ≤ n) : upN (mkP N k first n) (56 + N 5 * 24 + (10 + n)) (nPr N k (first + n)) = mkP N k first (n + 1) := by
  funext j
  unfold upN mkP
  by_cases h : j = 56 + N 5 * 24 + (10 + n)
  · rw [if_pos h, if_pos (by omega), h]
    congr 1
    omega
  · rw [if_neg h]
    by_cases h2 : 56 + N 5 * 24 + 10 ≤ j ∧ j < 56 + N 5 * 24 + 10 + n
    · rw [if_pos h2, if_pos (by omega)]
    · rw [if_neg h2, if_neg (by omega)]
/-- the state with one stay more -/
def mkN (N : gN0) (k first nights adults children till group : Int) : gN0 := fun j =>
  if j = 5 then N 5 + 1 else if j = 56 + N 5 * 24 + 9 then till else if j = 56 + N 5 * 24 + 8 then group else if j = 56 + N 5 * 24 + 7 then N 4 else if j = 56 + N 5 * 24 + 6 then 0 else if j = 56 + N 5 * 24 + 5 then children else if j = 56 + N 5 * 24 + 4 then adults else if j = 56 + N 5 * 24 + 3 then nights else if j = 56 + N 5 * 24 + 2 then first else if j = 56 + N 5 * 24 + 1 then k else if j = 56 + N 5 * 24 + 0 then 0 else mkP N k first nights j
theorem mkN_old {N : gN0} {k first nights adults children till group : Int} (h5 : 0 ≤ N 5) (h6 : N 5 < 60) (hn : nights ≤ 14) {j : Int} (hj5 : j ≠ 5) (hj : j < 56 + 24 * N 5 ∨ 1496 ≤ j) : mkN N k first nights adults children till group j = N j := by
  unfold mkN mkP
  rw [if_neg hj5, if_neg (by omega), if_neg (by omega), if_neg (by omega), if_neg (by omega), if_neg (by omega), if_neg (by omega), if_neg (by omega), if_neg (by omega), if_neg (by omega), if_neg (by omega), if_neg (by omega)]
theorem mkN_5 (N : gN0) (k first nights adults children till group : Int) : mkN N k first nights adults children till group 5 = N 5 + 1 := by unfold mkN; rw [if_pos rfl]
theorem mkN_f {N : gN0} {k first nights adults children till group : Int} (h5 : 0 ≤ N 5) :
    sF (mkN N k first nights adults children till group) (N 5) 0 = 0 ∧ sF (mkN N k first nights adults children till group) (N 5) 1 = k ∧ sF (mkN N k first nights adults children till group) (N 5) 2 = first ∧ sF (mkN N k first nights adults children till group) (N 5) 3 = nights ∧
    sF (mkN N k first nights adults children till group) (N 5) 4 = adults ∧ sF (mkN N k first nights adults children till group) (N 5) 5 = children ∧ sF (mkN N k first nights adults children till group) (N 5) 6 = 0 ∧ sF (mkN N k first nights adults children till group) (N 5) 7 = N 4 ∧
    sF (mkN N k first nights adults children till group) (N 5) 8 = group ∧ sF (mkN N k first nights adults children till group) (N 5) 9 = till ∧ ∀ n, 0 ≤ n → n < nights → sF (mkN N k first nights adults children till group) (N 5) (10 + n) = nPr N k (first + n) := by
  unfold sF mkN
  refine ⟨?_, ?_, ?_, ?_, ?_, ?_, ?_, ?_, ?_, ?_, ?_⟩
  · rw [if_neg (by omega), if_neg (by omega), if_neg (by omega), if_neg (by omega), if_neg (by omega), if_neg (by omega), if_neg (by omega), if_neg (by omega), if_neg (by omega), if_neg (by omega), if_pos (by omega)]
  · rw [if_neg (by omega), if_neg (by omega), if_neg (by omega), if_neg (by omega), if_neg (by omega), if_neg (by omega), if_neg (by omega), if_neg (by omega), if_neg (by omega), if_pos (by omega)]
  · rw [if_neg (by omega), if_neg (by omega), if_neg (by omega), if_neg (by omega), if_neg (by omega), if_neg (by omega), if_neg (by omega), if_neg (by omega), if_pos (by omega)]
  · rw [if_neg (by omega), if_neg (by omega), if_neg (by omega), if_neg (by omega), if_neg (by omega), if_neg (by omega), if_neg (by omega), if_pos (by omega)]
  · rw [if_neg (by omega), if_neg (by omega), if_neg (by omega), if_neg (by omega), if_neg (by omega), if_neg (by omega), if_pos (by omega)]
  · rw [if_neg (by omega), if_neg (by omega), if_neg (by omega), if_neg (by omega), if_neg (by omega), if_pos (by omega)]
  · rw [if_neg (by omega), if_neg (by omega), if_neg (by omega), if_neg (by omega), if_pos (by omega)]
  · rw [if_neg (by omega), if_neg (by omega), if_neg (by omega), if_pos (by omega)]
  · rw [if_neg (by omega), if_neg (by omega), if_pos (by omega)]
  · rw [if_neg (by omega), if_pos (by omega)]
  · intro n n0 n1
    rw [if_neg (by omega), if_neg (by omega), if_neg (by omega), if_neg (by omega), if_neg (by omega), if_neg (by omega), if_neg (by omega), if_neg (by omega), if_neg (by omega), if_neg (by omega), if_neg (by omega)]
    unfold mkP
    rw [if_pos (by omega)]
    congr 1
    omega
/-- what a stay must be to be made -/
def mkOk (N : gN0) (k first nights adults children till group : Int) : Prop := N 5 < 60 ∧ 0 ≤ k ∧ k < N 1 ∧ 8822 ≤ first ∧ 1 ≤ nights ∧ nights ≤ 14 ∧ first + nights ≤ 36525 ∧ 1 ≤ adults ∧ adults ≤ 4 ∧ 0 ≤ children ∧ children ≤ 4 ∧ 8822 ≤ till ∧ till ≤ 36524 ∧ -1 ≤ group ∧ group ≤ 9
theorem rfsT_had {N : gN0} {k : Int} : ∀ (n : Nat) (d : Int), rfsT N k d n = -1 → 0 ≤ d → ∀ i : Int, 0 ≤ i → i < n → cnt N k (d + i) < kF N k 0 + kF N k 2 := by
  intro n
  induction n with
  | zero => intro d _ _ i h0 h1; omega
  | succ n ih =>
    intro d h hd i h0 h1
    unfold rfsT at h
    split at h
    · omega
    · rename_i hb
      by_cases hi : i = 0
      · subst hi
        rw [Int.add_zero]
        omega
      · have := ih (d + 1) h (by omega) (i - 1) (by omega) (by omega)
        rw [show d + 1 + (i - 1) = d + i by omega] at this
        exact this
theorem rfd_had {N : gN0} {k first nights : Int} (h : rfd N k first nights = -1) (h0 : 0 ≤ first) (hn : 0 ≤ nights) : (∀ i : Int, 0 ≤ i → i < nights → cnt N k (first + i) < kF N k 0 + kF N k 2) ∧ rfs N k first nights = -1 ∧ lstN N first ≤ nights := by
  unfold rfd at h
  split at h
  · omega
  · rename_i h1
    have h2 : rfs N k first nights = -1 := by omega
    split at h
    · omega
    · exact ⟨fun i a b => rfsT_had _ _ h2 h0 i a (by omega), h2, by omega⟩
theorem InvC_mk {N : gN0} {k first nights adults children till group : Int} (hI : InvC N) (ho : mkOk N k first nights adults children till group) (hh : ∀ i, 0 ≤ i → i < nights → cnt N k (first + i) < kF N k 0 + kF N k 2) : InvC (mkN N k first nights adults children till group) := by
  unfold mkOk at ho
  obtain ⟨h1, h2, h3, h4, h5⟩ := hI
  have hs := h1
  unfold iScal at hs
  have old : ∀ j, j ≠ 5 → (j < 56 + 24 * N 5 ∨ 1496 ≤ j) → mkN N k first nights adults children till group j = N j := fun j a b => mkN_old (by omega) (by omega) (by omega) a b
  have lo : ∀ j, j ≠ 5 → j < 56 → mkN N k first nights adults children till group j = N j := fun j a b => old j a (Or.inl (by omega))
  have e5 := mkN_5 N k first nights adults children till group
  obtain ⟨f0, f1, f2, f3, f4, f5, f6, f7, f8, f9, f10⟩ := mkN_f (N := N) (k := k) (first := first) (nights := nights) (adults := adults) (children := children) (till := till) (group := group) (by omega)
  generalize mkN N k first nights adults children till group = M at *
  refine ⟨?_, ?_, ?_, ?_, ?_⟩
  · unfold iScal
    rw [lo 0 (by decide) (by decide), lo 1 (by decide) (by decide), lo 2 (by decide) (by decide), lo 3 (by decide) (by decide), lo 4 (by decide) (by decide), e5, lo 6 (by decide) (by decide), lo 7 (by decide) (by decide)]
    omega
  · intro k k0 k1
    rw [lo 1 (by decide) (by decide)] at k1
    have := h2 k k0 k1
    have e : ∀ w, 0 ≤ w → w < 3 → kF M k w = kF N k w := fun w _ _ => lo _ (by omega) (by omega)
    unfold kOk at this ⊢
    rw [e 0 (by decide) (by decide), e 1 (by decide) (by decide), e 2 (by decide) (by decide)]
    exact this
  · intro k k0 k1
    rw [lo 2 (by decide) (by decide)] at k1
    have := h3 k k0 k1
    have e : ∀ w, 0 ≤ w → w < 4 → seF M k w = seF N k w := fun w _ _ => lo _ (by omega) (by omega)
    unfold seOk at this ⊢
    rw [e 0 (by decide) (by decide), e 1 (by decide) (by decide), e 2 (by decide) (by decide), e 3 (by decide) (by decide)]
    exact this
  · intro s s0 s1
    rw [e5] at s1
    by_cases hs9 : s = N 5
    · subst hs9
      unfold sOk
      rw [f0, f1, f2, f3, f4, f5, f6, f7, f8, f9, lo 1 (by decide) (by decide)]
      refine ⟨by omega, fun n n0 n1 => ?_⟩
      rw [f10 n n0 n1]
      exact nPr_had ⟨h1, h2, h3, h4, h5⟩ (by omega) (by omega) (hh n n0 n1)
    · have := h4 s s0 (by omega)
      have e : ∀ w, 0 ≤ w → w < 24 → sF M s w = sF N s w := fun w a b => old _ (by omega) (Or.inl (by omega))
      unfold sOk at this ⊢
      rw [e 0 (by decide) (by decide), e 1 (by decide) (by decide), e 2 (by decide) (by decide), e 3 (by decide) (by decide), e 4 (by decide) (by decide), e 5 (by decide) (by decide), e 6 (by decide) (by decide), e 7 (by decide) (by decide), e 8 (by decide) (by decide), e 9 (by decide) (by decide), lo 1 (by decide) (by decide)]
      have h7 := this.1
      refine ⟨this.1, fun n n0 n1 => ?_⟩
      rw [e (10 + n) (by omega) (by omega)]
      exact this.2 n n0 n1
  · intro g g0 g1
    rw [lo 7 (by decide) (by decide)] at g1
    have := h5 g g0 g1
    have e : ∀ w, 0 ≤ w → gF M g w = gF N g w := fun w _ => old _ (by omega) (Or.inr (by omega))
    unfold gOk at this ⊢
    rw [e 0 (by decide), e 1 (by decide), e 2 (by decide), e 3 (by decide), e 4 (by decide), lo 1 (by decide) (by decide)]
    exact this
/-- one who waits goes: the others move up -/
def shG (N : gN0) (g : Int) : gN0 := fun j => if j = 7 then N 7 - 1 else if g ≤ j ∧ j < 1496 + (N 7 - 1) * 5 then N (j + 5) else N j
theorem InvC_sh {N : gN0} (hI : InvC N) {at' : Int} (h0 : 0 ≤ at') (h1 : at' < N 7) : InvC (shG N (1496 + at' * 5)) := by
  obtain ⟨i1, i2, i3, i4, i5⟩ := hI
  have hs := i1
  unfold iScal at hs
  have old : ∀ j, j ≠ 7 → (j < 1496 ∨ 1596 ≤ j) → shG N (1496 + at' * 5) j = N j := by
    intro j a b
    unfold shG
    rw [if_neg a, if_neg (by omega)]
  have e7 : shG N (1496 + at' * 5) 7 = N 7 - 1 := by unfold shG; rw [if_pos rfl]
  have lo : ∀ j, j ≠ 7 → j < 1496 → shG N (1496 + at' * 5) j = N j := fun j a b => old j a (Or.inl b)
  have eg : ∀ g w, 0 ≤ g → g < N 7 - 1 → 0 ≤ w → w < 5 → gF (shG N (1496 + at' * 5)) g w = gF N (if g < at' then g else g + 1) w := by
    intro g w g0 g1 w0 w1
    unfold gF shG
    rw [if_neg (by omega)]
    split
    · rename_i h
      rw [if_neg (by omega)]
      congr 1
      omega
    · rename_i h
      by_cases hg : g < at'
      · rw [if_pos hg]
      · exfalso; omega
  refine ⟨?_, ?_, ?_, ?_, ?_⟩
  · unfold iScal
    rw [lo 0 (by decide) (by decide), lo 1 (by decide) (by decide), lo 2 (by decide) (by decide), lo 3 (by decide) (by decide), lo 4 (by decide) (by decide), lo 5 (by decide) (by decide), lo 6 (by decide) (by decide), e7]
    omega
  · intro k k0 k1
    rw [lo 1 (by decide) (by decide)] at k1
    have := i2 k k0 k1
    have e : ∀ w, 0 ≤ w → w < 3 → kF (shG N (1496 + at' * 5)) k w = kF N k w := fun w _ _ => lo _ (by omega) (by omega)
    unfold kOk at this ⊢
    rw [e 0 (by decide) (by decide), e 1 (by decide) (by decide), e 2 (by decide) (by decide)]
    exact this
  · intro k k0 k1
    rw [lo 2 (by decide) (by decide)] at k1
    have := i3 k k0 k1
    have e : ∀ w, 0 ≤ w → w < 4 → seF (shG N (1496 + at' * 5)) k w = seF N k w := fun w _ _ => lo _ (by omega) (by omega)
    unfold seOk at this ⊢
    rw [e 0 (by decide) (by decide), e 1 (by decide) (by decide), e 2 (by decide) (by decide), e 3 (by decide) (by decide)]
    exact this
  · intro s s0 s1
    rw [lo 5 (by decide) (by decide)] at s1
    have := i4 s s0 s1
    have e : ∀ w, 0 ≤ w → w < 24 → sF (shG N (1496 + at' * 5)) s w = sF N s w := fun w a b => lo _ (by omega) (by omega)
    unfold sOk at this ⊢
    rw [e 0 (by decide) (by decide), e 1 (by decide) (by decide), e 2 (by decide) (by decide), e 3 (by decide) (by decide), e 4 (by decide) (by decide), e 5 (by decide) (by decide), e 6 (by decide) (by decide), e 7 (by decide) (by decide), e 8 (by decide) (by decide), e 9 (by decide) (by decide), lo 1 (by decide) (by decide)]
    have h7 := this.1
    refine ⟨this.1, fun n n0 n1 => ?_⟩
    rw [e (10 + n) (by omega) (by omega)]
    exact this.2 n n0 n1
  · intro g g0 g1
    rw [e7] at g1
    have := i5 (if g < at' then g else g + 1) (by split <;> omega) (by split <;> omega)
    unfold gOk at this ⊢
    rw [eg g 0 g0 g1 (by decide) (by decide), eg g 1 g0 g1 (by decide) (by decide), eg g 2 g0 g1 (by decide) (by decide), eg g 3 g0 g1 (by decide) (by decide), eg g 4 g0 g1 (by decide) (by decide), lo 1 (by decide) (by decide)]
    exact this

