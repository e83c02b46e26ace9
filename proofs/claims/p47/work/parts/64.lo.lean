/-! nights more, a stay taken in: states -/
theorem nPr_of {N M : gN0} (hI : InvC N) {k d : Int} (hk0 : 0 ≤ k) (hk1 : k < N 1) (h : ∀ j, 31 ≤ j → j < 56 → M j = N j) (e2 : M 2 = N 2) (e3 : M 3 = N 3) (ec : cnt M k d = cnt N k d) : nPr M k d = nPr N k d := by
  have hs := hI.1
  unfold iScal at hs
  have ek : ∀ w, 0 ≤ w → w < 3 → kF M k w = kF N k w := fun w _ _ => h _ (by omega) (by omega)
  have ep : ∀ md p (n : Nat), (n : Int) ≤ N 2 → pctT M md p n = pctT N md p n := by
    intro md p n
    induction n with
    | zero => intro _; rfl
    | succ n ih =>
      intro hn
      have e : ∀ w, 0 ≤ w → w < 4 → seF M n w = seF N n w := fun w _ _ => h _ (by omega) (by omega)
      unfold pctT
      rw [ih (by omega), e 0 (by decide) (by decide), e 1 (by decide) (by decide), e 2 (by decide) (by decide)]
  have ep : pct M k d = pct N k d := by
    unfold pct
    rw [ec, ek 0 (by decide) (by decide), e2, e3, ep _ _ _ (by omega)]
  unfold nPr
  rw [ep, ek 1 (by decide) (by decide)]
section LO
variable {N : gN0} {s : Int}
theorem loN_0 : loN N s 0 = N := by
  unfold loN
  rw [prP_0]
  funext j
  unfold upN
  split
  · rename_i h; rw [h, Int.add_zero]; rfl
  · rfl
theorem loN_3 (i : Int) : sF (loN N s i) s 3 = sF N s 3 + i := upN_eq _ _ _
theorem loN_w (i : Int) {w : Int} (h : w ≠ 3) (h1 : w < 10 + sF N s 3) : sF (loN N s i) s w = sF N s w := by
  unfold loN
  show upN _ _ _ _ = _
  rw [upN_ne (by omega)]
  exact prP_ne _ _ _ (by omega)
theorem loN_f (i : Int) {w : Int} (h : w ≠ 3) (h1 : w < 10) (h3 : 0 ≤ sF N s 3) : sF (loN N s i) s w = sF N s w := loN_w i h (by omega)
theorem loN_p {i n : Int} (h0 : 0 ≤ sF N s 3) (h1 : sF N s 3 ≤ n) (h2 : n < sF N s 3 + i) : sF (loN N s i) s (10 + n) = nPr N (sF N s 1) (sF N s 2 + n) := by
  unfold loN
  show upN _ _ _ _ = _
  rw [upN_ne (by omega), prP_at _ _ _ (by omega)]
  congr 1
  omega
theorem loN_out {i j : Int} (h0 : 0 ≤ sF N s 3) (h1 : sF N s 3 + i ≤ 14) (hj : j < 56 + s * 24 ∨ 56 + s * 24 + 24 ≤ j) : loN N s i j = N j := by
  unfold loN
  rw [upN_ne (by omega)]
  exact prP_ne _ _ _ (by omega)
theorem loN_ag {i : Int} (h0 : 0 ≤ sF N s 3) (h1 : sF N s 3 + i ≤ 14) : AgT N (loN N s i) s := fun _ hj _ => loN_out h0 h1 hj
theorem prT_eq {N M : gN0} {s : Int} : ∀ n : Nat, (∀ i : Int, 0 ≤ i → i < n → sF M s (10 + i) = sF N s (10 + i)) → prT M s n = prT N s n := by
  intro n
  induction n with
  | zero => intro _; rfl
  | succ n ih => intro h; unfold prT; rw [ih (fun i a b => h i a (by omega)), h n (by omega) (by omega)]
theorem sPr_lo (h0 : 0 ≤ sF N s 3) {i : Int} (hi : 0 ≤ i) : sPr (loN N s (i + 1)) s = sPr (loN N s i) s + nPr N (sF N s 1) (sF N s 2 + (sF N s 3 + i)) := by
  unfold sPr
  rw [loN_3, loN_3, show (sF N s 3 + (i + 1)).toNat = (sF N s 3 + i).toNat + 1 by omega, prT, show (((sF N s 3 + i).toNat : Nat) : Int) = sF N s 3 + i by omega, loN_p h0 (by omega) (by omega)]
  congr 1
  refine prT_eq _ (fun t t0 t1 => ?_)
  by_cases h : t < sF N s 3
  · rw [loN_w _ (by omega) (by omega), loN_w _ (by omega) (by omega)]
  · rw [loN_p h0 (by omega) (by omega), loN_p h0 (by omega) (by omega)]
theorem sPr_sn (h0 : 0 ≤ sF N s 3) : ∀ i : Nat, sPr (loN N s i) s = sPr N s + snT N (sF N s 1) (sF N s 2 + sF N s 3) i := by
  intro i
  induction i with
  | zero => show sPr (loN N s 0) s = sPr N s + 0; rw [loN_0, Int.add_zero]
  | succ i ih =>
    have := sPr_lo (N := N) (s := s) h0 (i := (i : Int)) (by omega)
    rw [show (((i + 1 : Nat) : Nat) : Int) = (i : Int) + 1 by omega, this, ih, snT, Int.add_assoc, Int.add_assoc]
end LO
theorem INV_S {N M : gN0} (h : AgS N M) (hI : INV N) : INV M := by
  obtain ⟨hC, hb, hoo⟩ := hI
  have hs := hC.1
  unfold iScal at hs
  refine ⟨InvC_ag h hC, bOk_of ?_ (fun j a b => h j (Or.inl (by omega))) hb, oOk_of (fun j a b => h j (Or.inl (by omega))) hoo⟩
  unfold Phi
  rw [h 5 (Or.inl (by omega)), phT_eq (N := N) _ (fun s a b => h _ (Or.inl (by omega)))]
/-- the row of a stay that is taken in, without a night -/
def bgN (N : gN0) (k f a c t g : Int) : gN0 := upN (mkN N k f 0 a c t g) 5 (N 5)
theorem bgN_ag {N : gN0} {k f a c t g : Int} (h5 : 0 ≤ N 5) (h6 : N 5 < 60) : AgS N (bgN N k f a c t g) := by
  intro j hj
  unfold bgN
  by_cases h : j = 5
  · rw [h, upN_eq]
  · rw [upN_ne h]; exact mkN_old h5 h6 (by decide) h hj
theorem bgN_s {N : gN0} {k f a c t g : Int} (h5 : 0 ≤ N 5) (w : Int) (hw : 0 ≤ w) : sF (bgN N k f a c t g) (N 5) w = sF (mkN N k f 0 a c t g) (N 5) w := by
  unfold bgN
  exact upN_ne (by omega)
theorem bgN_lo {N : gN0} {k f n a c t g : Int} (hI : InvC N) (hk0 : 0 ≤ k) (hk1 : k < N 1) (h6 : N 5 < 60) (hn : 0 ≤ n) : upN (loN (bgN N k f a c t g) (N 5) n) 5 (N 5 + 1) = mkN N k f n a c t g := by
  have hs := hI.1
  unfold iScal at hs
  have h5 : 0 ≤ N 5 := by omega
  have hf := mkN_f (N := N) (k := k) (first := f) (nights := 0) (adults := a) (children := c) (till := t) (group := g) h5
  have e1 : sF (bgN N k f a c t g) (N 5) 1 = k := (bgN_s h5 1 (by decide)).trans hf.2.1
  have e2 : sF (bgN N k f a c t g) (N 5) 2 = f := (bgN_s h5 2 (by decide)).trans hf.2.2.1
  have e3 : sF (bgN N k f a c t g) (N 5) 3 = 0 := (bgN_s h5 3 (by decide)).trans hf.2.2.2.1
  funext j
  unfold loN
  rw [e1, e2, e3]
  by_cases j5 : j = 5
  · subst j5; rw [upN_eq, mkN_5]
  rw [upN_ne j5]
  by_cases j3 : j = 56 + N 5 * 24 + 3
  · subst j3
    rw [upN_eq]
    unfold mkN
    rw [if_neg j5, if_neg (by omega), if_neg (by omega), if_neg (by omega), if_neg (by omega), if_neg (by omega), if_neg (by omega), if_pos rfl]
    omega
  rw [upN_ne j3]
  by_cases jp : 56 + N 5 * 24 + 10 ≤ j ∧ j < 56 + N 5 * 24 + 10 + n
  · rw [prP_at _ _ _ (by omega), nPr_ag (bgN_ag h5 h6) hI hk0 hk1]
    unfold mkN mkP
    rw [if_neg j5, if_neg (by omega), if_neg (by omega), if_neg (by omega), if_neg (by omega), if_neg (by omega), if_neg (by omega), if_neg (by omega), if_neg (by omega), if_neg (by omega), if_neg (by omega), if_pos jp]
    congr 1
    omega
  rw [prP_ne _ _ _ (by omega)]
  unfold bgN
  rw [upN_ne j5]
  unfold mkN mkP
  rw [if_neg j5, if_neg j5, if_neg (c := 56 + N 5 * 24 + 10 ≤ j ∧ j < 56 + N 5 * 24 + 10 + 0) (by omega), if_neg jp, if_neg (c := j = 56 + N 5 * 24 + 3) j3, if_neg (c := j = 56 + N 5 * 24 + 3) j3]
/-- counts ahead of the nights that are added -/
theorem cnt_lo {N : gN0} {s i d : Int} (hI : InvC N) (h0 : 0 ≤ s) (h1 : s < 60) (h3 : 0 ≤ sF N s 3) (h4 : sF N s 3 + i ≤ 14) (hi : 0 ≤ i) (hd : sF N s 2 + sF N s 3 + i ≤ d) (k : Int) : cnt (loN N s i) k d = cnt N k d := by
  have e5 : loN N s i 5 = N 5 := loN_out h3 h4 (Or.inl (by omega))
  have key : ∀ n : Nat, cntT (loN N s i) k d n = cntT N k d n := by
    intro n
    induction n with
    | zero => rfl
    | succ n ih =>
      unfold cntT
      rw [ih]
      congr 1
      by_cases hn : (n : Int) = s
      · rw [hn, loN_3, loN_f i (by decide) (by decide) h3, loN_f i (by decide) (by decide) h3, loN_f i (by decide) (by decide) h3, if_neg (by omega), if_neg (by omega)]
      · have e : ∀ w, 0 ≤ w → w < 24 → sF (loN N s i) n w = sF N n w := fun w a b => by unfold sF; exact loN_out h3 h4 (by omega)
        rw [e 0 (by decide) (by decide), e 1 (by decide) (by decide), e 2 (by decide) (by decide), e 3 (by decide) (by decide)]
  unfold cnt
  rw [e5, key]
theorem nPr_lo {N : gN0} {s i : Int} (hI : InvC N) (h0 : 0 ≤ s) (h1 : s < 60) (h3 : 0 ≤ sF N s 3) (h4 : sF N s 3 + i ≤ 14) (hi : 0 ≤ i) {k : Int} (hk0 : 0 ≤ k) (hk1 : k < N 1) : nPr (loN N s i) k (sF N s 2 + (sF N s 3 + i)) = nPr N k (sF N s 2 + (sF N s 3 + i)) :=
  nPr_of hI hk0 hk1 (fun j a b => loN_out h3 h4 (Or.inl (by omega))) (loN_out h3 h4 (Or.inl (by omega))) (loN_out h3 h4 (Or.inl (by omega))) (cnt_lo hI h0 h1 h3 h4 hi (by omega) k)
theorem loN_S {N : gN0} {i : Int} (h3 : 0 ≤ sF N (N 5) 3) (h4 : sF N (N 5) 3 + i ≤ 14) (h6 : N 5 < 60) : AgS N (loN N (N 5) i) := fun j hj => loN_out h3 h4 (by omega)
/-- a night is added to a stay's row -/
theorem stR_lo {a s i : Int} {N : gN0} {V V' : gV} (H : stR a s (loN N s i) V) (h3 : 0 ≤ sF N s 3) (hi : 0 ≤ i) (e : V' = up (up (up V (a + 1) (sF N s 3 + i) (nPr N (sF N s 1) (sF N s 2 + (sF N s 3 + i)))) a 3 (sF N s 3 + i + 1)) a 7 (sPr (loN N s i) s + nPr N (sF N s 1) (sF N s 2 + (sF N s 3 + i)))) : stR a s (loN N s (i + 1)) V' := by
  have ef : ∀ w, w ≠ 3 → w < 10 → sF (loN N s (i + 1)) s w = sF (loN N s i) s w := fun w a b => by rw [loN_f _ a b h3, loN_f _ a b h3]
  have ev : ∀ j, j ≠ 3 → j ≠ 7 → V' a j = V a j := fun j a b => by rw [e, up_ne _ _ (Or.inr b), up_ne _ _ (Or.inr a), up_ne _ _ (Or.inl (by omega))]
  obtain ⟨⟨a0, a1, a2, a3, a4, a5, a6, a7, a8, a9, a10⟩, b⟩ := H
  refine ⟨⟨?_, ?_, ?_, ?_, ?_, ?_, ?_, ?_, ?_, ?_, ?_⟩, fun n n0 n1 => ?_⟩
  · rw [ev 0 (by decide) (by decide), ef 0 (by decide) (by decide)]; exact a0
  · rw [ev 1 (by decide) (by decide), ef 1 (by decide) (by decide)]; exact a1
  · rw [ev 2 (by decide) (by decide), ef 2 (by decide) (by decide)]; exact a2
  · rw [e, up_ne _ _ (Or.inr (by decide)), up_eq, loN_3]; omega
  · rw [ev 4 (by decide) (by decide), ef 4 (by decide) (by decide)]; exact a4
  · rw [ev 5 (by decide) (by decide), ef 5 (by decide) (by decide)]; exact a5
  · rw [ev 6 (by decide) (by decide), ef 7 (by decide) (by decide)]; exact a6
  · rw [e, up_eq, sPr_lo h3 hi]
  · rw [ev 8 (by decide) (by decide), ef 6 (by decide) (by decide)]; exact a8
  · rw [ev 9 (by decide) (by decide), ef 8 (by decide) (by decide)]; exact a9
  · rw [ev 10 (by decide) (by decide), ef 9 (by decide) (by decide)]; exact a10
  · rw [loN_3] at n1
    rw [e, up_ne _ _ (Or.inl (by omega)), up_ne _ _ (Or.inl (by omega))]
    by_cases hn : n = sF N s 3 + i
    · subst hn
      rw [up_eq, loN_p h3 (by omega) (by omega)]
    · rw [up_ne _ _ (Or.inr hn), b n n0 (by rw [loN_3]; omega)]
      by_cases h7 : n < sF N s 3
      · rw [loN_w _ (by omega) (by omega), loN_w _ (by omega) (by omega)]
      · rw [loN_p h3 (by omega) (by omega), loN_p h3 (by omega) (by omega)]
section PU
variable {h : Int} {N M : gN0} {Sh : gSh} {V V' : gV}
/-- a row behind the last stay counts from now on -/
theorem RH_push (H : RH h N Sh V) (hz : szO N) (h0 : 0 ≤ N 5) (h1 : N 5 < 60) (hs : stR (h + 6 + 2 * N 5) (N 5) N V) (H14 : sF N (N 5) 3 ≤ 14) (e : V' = up V (h + 4) 1 (N 5 + 1)) : RH h (upN N 5 (N 5 + 1)) Sh V' := by
  subst e
  obtain ⟨z1, z2, z5, z7, z26, zs⟩ := hz
  obtain ⟨a1, a2, a3, a4, a5, a6, a7, a8, a9, a10⟩ := H
  have er : ∀ a, a ≠ h + 4 → up V (h + 4) 1 (N 5 + 1) a = V a := fun a ha => up_row _ _ _ ha
  have eN : ∀ j, j ≠ 5 → upN N 5 (N 5 + 1) j = N j := fun j hj => upN_ne hj
  have es : ∀ t, 0 ≤ t → t ≤ N 5 → stR (h + 6 + 2 * t) t N V → sF N t 3 ≤ 14 → stR (h + 6 + 2 * t) t (upN N 5 (N 5 + 1)) (up V (h + 4) 1 (N 5 + 1)) := fun t t0 t1 q q2 => stR_ag (fun w w0 w1 => eN _ (by omega)) q2 (er _ (by omega)) (er _ (by omega)) q
  refine ⟨a1, ptH_ag a2 (fun c j hc => up_ne _ _ (by unfold isPt at hc; omega)), ?_,
    vK_ag (eN 1 (by decide)) z1 (fun j hj => eN j (by omega)) (fun a x y => er a (by omega)) a4, vE_ag (eN 2 (by decide)) z2 (fun j x y => eN j (by omega)) (fun a x y => er a (by omega)) a5,
    fun t t0 t1 => ?_, vG_ag (eN 7 (by decide)) z7 (fun j x y => eN j (by omega)) (fun a x y => er a (by omega)) a7,
    vB_ag (fun j x y => eN j (by omega)) (er _ (by omega)) a8, vM_ag (fun j x y => eN j (by omega)) (er _ (by omega)) (er _ (by omega)) a9, vA_ag z26 (fun j x y => eN j (by omega)) (er _ (by omega)) (er _ (by omega)) a10⟩
  · obtain ⟨b0, b1, b2, b3, b4, b5, b6, b7, b8⟩ := a3
    have e0 : up V (h + 4) 1 (N 5 + 1) h = V h := er h (by omega)
    refine ⟨?_, ?_, ?_, ?_, ?_, ?_, ?_, ?_, ?_⟩
    · rw [e0, eN 0 (by decide)]; exact b0
    · rw [e0, eN 8 (by decide)]; exact b1
    · rw [e0, eN 1 (by decide)]; exact b2
    · rw [e0, eN 2 (by decide)]; exact b3
    · rw [e0, eN 7 (by decide)]; exact b4
    · rw [e0, eN 6 (by decide)]; exact b5
    · rw [e0, eN 3 (by decide)]; exact b6
    · rw [e0, eN 4 (by decide)]; exact b7
    · rw [up_eq, upN_eq]
  · rw [upN_eq] at t1
    by_cases ht : t = N 5
    · subst ht
      exact es _ h0 (Int.le_refl _) hs (H14)
    · exact es t t0 (by omega) (a6 t t0 (by omega)) (zs t t0 (by omega))
end PU
