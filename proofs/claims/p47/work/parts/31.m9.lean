/-! the reference: days, odds, undoing (rows laid by wip/whole/m9.py) -/
/-- alike but for states of stays and the books -/
def AgK (N M : gN0) : Prop := ∀ j, (j < 9 ∨ (12 < j ∧ j < 56) ∨ 1496 ≤ j) → M j = N j
theorem AgK.of {N M : gN0} {s : Int} (h : AgT N M s) (h0 : 0 ≤ s) (h1 : s < 60) : AgK N M := fun j hj => h j (by omega) (by omega)
theorem AgK.tr {N M K : gN0} (h1 : AgK N M) (h2 : AgK M K) : AgK N K := fun j hj => (h2 j hj).trans (h1 j hj)
theorem AgK.rfl' (N : gN0) : AgK N N := fun _ _ => rfl
/-- scalars are others -/
theorem INV_sc {N M : gN0} (hI : INV N) (h : ∀ j, 31 ≤ j → M j = N j) (e1 : M 1 = N 1) (e2 : M 2 = N 2) (e5 : M 5 = N 5) (e7 : M 7 = N 7) (hb : ∀ j, 9 ≤ j → j ≤ 12 → M j = N j) (hs : iScal M) (ho : oOk M) : INV M := by
  obtain ⟨⟨i1, i2, i3, i4, i5⟩, hbk, -⟩ := hI
  refine ⟨⟨hs, ?_, ?_, ?_, ?_⟩, bOk_of ?_ hb hbk, ho⟩
  · intro k a0 a1
    rw [e1] at a1
    have := i2 k a0 a1
    have e : ∀ w, 0 ≤ w → kF M k w = kF N k w := fun w _ => h _ (by omega)
    unfold kOk at this ⊢
    rw [e 0 (by decide), e 1 (by decide), e 2 (by decide)]
    exact this
  · intro k a0 a1
    rw [e2] at a1
    have := i3 k a0 a1
    have e : ∀ w, 0 ≤ w → seF M k w = seF N k w := fun w _ => h _ (by omega)
    unfold seOk at this ⊢
    rw [e 0 (by decide), e 1 (by decide), e 2 (by decide), e 3 (by decide)]
    exact this
  · intro t a0 a1
    rw [e5] at a1
    have := i4 t a0 a1
    have e : ∀ w, 0 ≤ w → sF M t w = sF N t w := fun w _ => h _ (by omega)
    have h7 := this.1
    unfold sOk at this ⊢
    rw [e 0 (by decide), e 1 (by decide), e 2 (by decide), e 3 (by decide), e 4 (by decide), e 5 (by decide), e 6 (by decide), e 7 (by decide), e 8 (by decide), e 9 (by decide), e1]
    refine ⟨this.1, fun n n0 n1 => ?_⟩
    rw [e (10 + n) (by omega)]
    exact this.2 n n0 n1
  · intro g a0 a1
    rw [e7] at a1
    have := i5 g a0 a1
    have e : ∀ w, 0 ≤ w → gF M g w = gF N g w := fun w _ => h _ (by omega)
    unfold gOk at this ⊢
    rw [e 0 (by decide), e 1 (by decide), e 2 (by decide), e 3 (by decide), e 4 (by decide), e1]
    exact this
  · unfold Phi
    rw [e5, phT_eq (N := N) _ (fun s p q => by unfold sF; exact h _ (by omega))]
theorem lkS_lo : ∀ (q : Nat) (N : gN0) (a m : Int), INV N → 0 ≤ a → (q : Int) = N 7 - a → ∀ j, j ≠ 5 → j ≠ 7 → (j < 56 ∨ 1596 ≤ j) → (lkS q N a m).1 j = N j := by
  intro q
  induction q with
  | zero => intro N a m h _ _ j _ _ _; rfl
  | succ q ih =>
    intro N a m h h0 hq j j5 j7 hj
    have hs := h.1.1
    unfold iScal at hs
    have hlt : a < N 7 := by omega
    have hg := h.1.2.2.2.2 a h0 hlt
    unfold gOk gF at hg
    simp only [Int.add_zero] at hg
    have sh : ∀ M : gN0, M 7 = N 7 → shG M (1496 + a * 5) j = M j := by
      intro M hM
      unfold shG
      rw [if_neg j7, if_neg (by omega)]
    rw [lkS, if_pos hlt]
    split
    · rw [ih _ _ _ (INV_sh h h0 hlt) h0 (by rw [shG_7]; omega) j j5 j7 hj, sh N rfl]
    · split
      · rename_i hl hh
        have hO : mkOk N (N (1496 + a * 5)) (N (1496 + a * 5 + 1)) (N (1496 + a * 5 + 2)) (N (1496 + a * 5 + 3)) (N (1496 + a * 5 + 4)) (N (1496 + a * 5 + 1)) (-1) := by unfold mkOk; omega
        have e7 : mkN N (N (1496 + a * 5)) (N (1496 + a * 5 + 1)) (N (1496 + a * 5 + 2)) (N (1496 + a * 5 + 3)) (N (1496 + a * 5 + 4)) (N (1496 + a * 5 + 1)) (-1) 7 = N 7 := mkN_old (by omega) (by omega) (by omega) (by decide) (Or.inl (by omega))
        rw [ih _ _ _ (INV_sh (INV_mk h hO (rfd_had hh.2 (by omega) (by omega)).1) h0 (by omega)) h0 (by rw [shG_7]; omega) j j5 j7 hj, sh _ e7]
        exact mkN_old (by omega) (by omega) (by omega) j5 (by omega)
      · exact ih _ _ _ h (by omega) (by omega) j j5 j7 hj
theorem lk_lo {N : gN0} (h : INV N) {j : Int} (h5 : j ≠ 5) (h7 : j ≠ 7) (hj : j < 56 ∨ 1596 ≤ j) : (lk N).1 j = N j := by
  have hs := h.1.1
  unfold iScal at hs
  exact lkS_lo _ _ _ _ h (Int.le_refl _) (by omega) j h5 h7 hj
/-- the one that is sent away -/
def snS (N : gN0) (k d : Int) : Nat → Int
  | 0 => -1
  | n + 1 => if ((sF N n 0 = 0 ∨ sF N n 0 = 1) ∧ sF N n 1 = k ∧ sF N n 2 ≤ d ∧ d ≤ sF N n 2 + sF N n 3 - 1) ∧ (snS N k d n = -1 ∨ sF N (snS N k d n) 2 ≤ sF N n 2) then n else snS N k d n
theorem snS_in (N : gN0) (k d : Int) : ∀ n : Nat, (snS N k d n = -1 ∧ cntT N k d n = 0) ∨ (0 ≤ snS N k d n ∧ snS N k d n < n ∧ (sF N (snS N k d n) 0 = 0 ∨ sF N (snS N k d n) 0 = 1) ∧ sF N (snS N k d n) 1 = k ∧ sF N (snS N k d n) 2 ≤ d ∧ d ≤ sF N (snS N k d n) 2 + sF N (snS N k d n) 3 - 1) := by
  intro n
  induction n with
  | zero => exact Or.inl ⟨rfl, rfl⟩
  | succ n ih =>
    have hc := cntT_in N k d n
    unfold snS cntT
    by_cases hq : (sF N n 0 = 0 ∨ sF N n 0 = 1) ∧ sF N n 1 = k ∧ sF N n 2 ≤ d ∧ d ≤ sF N n 2 + sF N n 3 - 1
    · by_cases hf : snS N k d n = -1 ∨ sF N (snS N k d n) 2 ≤ sF N n 2
      · rw [if_pos ⟨hq, hf⟩]
        exact Or.inr ⟨by omega, by omega, hq⟩
      · rw [if_neg (fun q => hf q.2)]
        rcases ih with h | h
        · exact absurd (Or.inl h.1) hf
        · exact Or.inr ⟨h.1, by omega, h.2.2⟩
    · rw [if_neg (fun q => hq q.1), if_neg hq]
      rcases ih with h | h
      · exact Or.inl ⟨h.1, by omega⟩
      · exact Or.inr ⟨h.1, by omega, h.2.2⟩
def sdN (N : gN0) (s : Int) : gN0 := upN (mvN N 1 0 (sF N s 6)) (56 + s * 24 + 0) 3
theorem sdN_ag (N : gN0) (s : Int) : AgT N (sdN N s) s := fun j h1 h2 => by
  unfold sdN
  rw [upN_ne (by omega), mvN_far _ (by decide) (by decide) h2]
theorem sdN_inv {N : gN0} {s : Int} (hI : INV N) (h0 : 0 ≤ s) (h1 : s < N 5) (ha : sF N s 0 = 0 ∨ sF N s 0 = 1) : INV (sdN N s) := by
  have hs := hI.1.2.2.2.1 s h0 h1
  have hs1 := hs.1
  have hp : phi (sF N s 0) ≤ 2016000 := by rcases ha with h | h <;> rw [h] <;> decide
  have hok : sOk (sdN N s) s := sOk_st (st := 3) (sOk_mv (f := 1) (t := 0) (a := sF N s 6) hs h0 (by decide) (by decide)) h0 (by decide) (by decide)
  have e0 : sF (sdN N s) s 0 = 3 := upN_eq _ _ _
  have eb : ∀ j, j < 13 → sdN N s j = mvN N 1 0 (sF N s 6) j := fun j hj => upN_ne (by omega)
  refine INV_s (sdN_ag N s) h0 h1 hI hok ?_
  have p3 : phi 3 = 4032000 := rfl
  rw [e0, eb 9 (by decide), eb 10 (by decide), eb 11 (by decide), eb 12 (by decide), p3]
  simp only [mvN, upN]
  simp
  omega
theorem cntT_sd {N M : gN0} {s k d : Int} (h : AgT N M s) (h0 : 0 ≤ s) (hm : sF M s 0 = 3) (hc : (sF N s 0 = 0 ∨ sF N s 0 = 1) ∧ sF N s 1 = k ∧ sF N s 2 ≤ d ∧ d ≤ sF N s 2 + sF N s 3 - 1) : ∀ n : Nat, cntT M k d n = cntT N k d n - (if s < n then 1 else 0) := by
  intro n
  induction n with
  | zero => rw [if_neg (by omega)]; rfl
  | succ n ih =>
    unfold cntT
    rw [ih]
    by_cases q : (n : Int) = s
    · rw [q, hm, if_neg (by omega), if_neg (by omega), if_pos hc, if_pos (by omega)]; omega
    · have e : ∀ w, 0 ≤ w → w < 24 → sF M n w = sF N n w := fun w _ _ => h _ (by omega) (by omega)
      rw [e 0 (by decide) (by decide), e 1 (by decide) (by decide), e 2 (by decide) (by decide), e 3 (by decide) (by decide)]
      by_cases h2 : s < n
      · rw [if_pos h2, if_pos (show s < ((n + 1 : Nat) : Int) by omega)]; omega
      · rw [if_neg h2, if_neg (show ¬ s < ((n + 1 : Nat) : Int) by omega)]; omega
def whS (k : Int) : Nat → gN0 → gN0
  | 0, N => N
  | q + 1, N => if kF N k 0 < cnt N k (N 0) then whS k q (sdN N (snS N k (N 0) (N 5).toNat)) else N
/-- what sending one away does -/
theorem sd_step {N : gN0} {k : Int} (hI : INV N) (hk0 : 0 ≤ k) (hk1 : k < N 1) (hc : kF N k 0 < cnt N k (N 0)) :
    0 ≤ snS N k (N 0) (N 5).toNat ∧ snS N k (N 0) (N 5).toNat < N 5 ∧ INV (sdN N (snS N k (N 0) (N 5).toNat)) ∧ AgK N (sdN N (snS N k (N 0) (N 5).toNat)) ∧ cnt (sdN N (snS N k (N 0) (N 5).toNat)) k (sdN N (snS N k (N 0) (N 5).toNat) 0) = cnt N k (N 0) - 1 := by
  have hs := hI.1.1
  unfold iScal at hs
  have hk := hI.1.2.1 k hk0 hk1
  unfold kOk at hk
  have hsn := snS_in N k (N 0) (N 5).toNat
  have hcc : cnt N k (N 0) = cntT N k (N 0) (N 5).toNat := rfl
  rcases hsn with h | ⟨g0, g1, g2⟩
  · omega
  · have hlt : snS N k (N 0) (N 5).toNat < N 5 := by omega
    generalize snS N k (N 0) (N 5).toNat = s at *
    have hag := sdN_ag N s
    have hK := AgK.of hag g0 (by omega)
    refine ⟨g0, hlt, sdN_inv hI g0 hlt g2.1, hK, ?_⟩
    rw [hK 0 (by decide)]
    unfold cnt
    rw [hK 5 (by decide), cntT_sd hag g0 (upN_eq _ _ _) g2, if_pos (by omega)]
theorem whS_inv {k : Int} : ∀ (q : Nat) (N : gN0), INV N → 0 ≤ k → k < N 1 → INV (whS k q N) ∧ AgK N (whS k q N) := by
  intro q
  induction q with
  | zero => intro N h _ _; exact ⟨h, AgK.rfl' N⟩
  | succ q ih =>
    intro N h h0 h1
    rw [whS]
    split
    · rename_i hc
      have hst := sd_step h h0 h1 hc
      have h2 := ih _ hst.2.2.1 h0 (by rw [hst.2.2.2.1 1 (by decide)]; exact h1)
      exact ⟨h2.1, hst.2.2.2.1.tr h2.2⟩
    · exact ⟨h, AgK.rfl' N⟩
def enN (N : gN0) (s : Int) : gN0 := upN (upN (upN (upN (upN N 10 (N 10 - sF N s 6)) 9 (N 9 - (sPr N s + sTx N s - sF N s 6))) 11 (N 11 + sPr N s)) 12 (N 12 + sTx N s)) (56 + s * 24 + 0) 4
theorem enN_ag (N : gN0) (s : Int) : AgT N (enN N s) s := fun j h1 h2 => by
  unfold enN
  rw [upN_ne (by omega), upN_ne (by omega), upN_ne (by omega), upN_ne (by omega), upN_ne (by omega)]
theorem enN_inv {N : gN0} {s : Int} (hI : INV N) (h0 : 0 ≤ s) (h1 : s < N 5) (ha : sF N s 0 = 1) : INV (enN N s) := by
  have hs := hI.1.2.2.2.1 s h0 h1
  have hs1 := hs.1
  have hp := sPr_in hs
  have ht := sTx_in hs
  have e : ∀ w, w ≠ 0 → 0 ≤ w → sF (enN N s) s w = sF N s w := by
    intro w a b
    unfold enN sF
    rw [upN_ne (by omega), upN_ne (by omega), upN_ne (by omega), upN_ne (by omega), upN_ne (by omega)]
  have e0 : sF (enN N s) s 0 = 4 := upN_eq _ _ _
  have e1 : enN N s 1 = N 1 := (enN_ag N s).lo h0 (by decide)
  have hok : sOk (enN N s) s := by
    unfold sOk at hs ⊢
    rw [e0, e1, e 1 (by decide) (by decide), e 2 (by decide) (by decide), e 3 (by decide) (by decide), e 4 (by decide) (by decide), e 5 (by decide) (by decide), e 6 (by decide) (by decide), e 7 (by decide) (by decide), e 8 (by decide) (by decide), e 9 (by decide) (by decide)]
    refine ⟨by omega, fun n a b => ?_⟩
    rw [e _ (by omega) (by omega)]
    exact hs.2 n a b
  have p1 : phi 1 = 2016000 := rfl
  have p4 : phi 4 = 12200000 := rfl
  refine INV_s (enN_ag N s) h0 h1 hI hok ?_
  rw [e0, ha, p1, p4]
  have eb : ∀ j, j < 13 → enN N s j = upN (upN (upN (upN N 10 (N 10 - sF N s 6)) 9 (N 9 - (sPr N s + sTx N s - sF N s 6))) 11 (N 11 + sPr N s)) 12 (N 12 + sTx N s) j := fun j hj => upN_ne (by omega)
  rw [eb 9 (by decide), eb 10 (by decide), eb 11 (by decide), eb 12 (by decide)]
  simp only [upN]
  simp
  omega
/-- the stays that are over end -/
def odE (N : gN0) : Nat → gN0
  | 0 => N
  | n + 1 => if sF (odE N n) n 0 = 1 ∧ sF (odE N n) n 2 + sF (odE N n) n 3 - 1 < odE N n 0 then enN (odE N n) n else odE N n
/-- the stays that are held too long are cancelled -/
def odH (N : gN0) : Nat → gN0
  | 0 => N
  | n + 1 => if sF (odH N n) n 0 = 0 ∧ (sF (odH N n) n 9 < odH N n 0 ∨ sF (odH N n) n 2 ≤ odH N n 0) then upN (odH N n) (56 + (n : Int) * 24 + 0) 2 else odH N n
def kdT (N : gN0) : Nat → gN0
  | 0 => N
  | n + 1 => whS n 61 (kdT N n)
theorem odE_inv {N : gN0} (hI : INV N) : ∀ n : Nat, (n : Int) ≤ N 5 → INV (odE N n) ∧ AgK N (odE N n) := by
  intro n
  induction n with
  | zero => intro _; exact ⟨hI, AgK.rfl' N⟩
  | succ n ih =>
    intro hn
    obtain ⟨a1, a2⟩ := ih (by omega)
    have hs := hI.1.1
    unfold iScal at hs
    have e5 := a2 5 (by decide)
    unfold odE
    split
    · rename_i h
      exact ⟨enN_inv a1 (by omega) (by omega) h.1, a2.tr (AgK.of (enN_ag _ _) (by omega) (by omega))⟩
    · exact ⟨a1, a2⟩
theorem odH_inv {N : gN0} (hI : INV N) : ∀ n : Nat, (n : Int) ≤ N 5 → INV (odH N n) ∧ AgK N (odH N n) := by
  intro n
  induction n with
  | zero => intro _; exact ⟨hI, AgK.rfl' N⟩
  | succ n ih =>
    intro hn
    obtain ⟨a1, a2⟩ := ih (by omega)
    have hs := hI.1.1
    unfold iScal at hs
    have e5 := a2 5 (by decide)
    unfold odH
    split
    · rename_i h
      exact ⟨INV_st a1 (by omega) (by omega) (by decide) (by decide) (by rw [h.1]; decide), a2.tr (AgK.of (stN_ag _ _ _) (by omega) (by omega))⟩
    · exact ⟨a1, a2⟩
theorem kdT_inv {N : gN0} (hI : INV N) : ∀ n : Nat, (n : Int) ≤ N 1 → INV (kdT N n) ∧ AgK N (kdT N n) := by
  intro n
  induction n with
  | zero => intro _; exact ⟨hI, AgK.rfl' N⟩
  | succ n ih =>
    intro hn
    obtain ⟨a1, a2⟩ := ih (by omega)
    unfold kdT
    have h := whS_inv (k := n) 61 _ a1 (by omega) (by rw [a2 1 (by decide)]; omega)
    exact ⟨h.1, a2.tr h.2⟩
def od0 (N : gN0) : gN0 := upN N 0 (N 0 + 1)
def od1 (N : gN0) : gN0 := odE (od0 N) (N 5).toNat
def od2 (N : gN0) : gN0 := odH (od1 N) (N 5).toNat
def od3 (N : gN0) : gN0 := kdT (od2 N) (N 1).toNat
/-- a day passes -/
def odN (N : gN0) : gN0 := (lk (od3 N)).1
theorem od_all {N : gN0} (hI : INV N) (ht : N 0 + 1 ≤ 36524) : INV (od0 N) ∧ (INV (od1 N) ∧ AgK (od0 N) (od1 N)) ∧ (INV (od2 N) ∧ AgK (od0 N) (od2 N)) ∧ (INV (od3 N) ∧ AgK (od0 N) (od3 N)) ∧ INV (odN N) ∧ odN N 0 = N 0 + 1 := by
  have hs := hI.1.1
  have e : ∀ j, j ≠ 0 → od0 N j = N j := fun j hj => upN_ne hj
  have e0 : od0 N 0 = N 0 + 1 := upN_eq _ _ _
  have h0 : INV (od0 N) := by
    refine INV_sc hI (fun j hj => e j (by omega)) (e 1 (by decide)) (e 2 (by decide)) (e 5 (by decide)) (e 7 (by decide)) (fun j a b => e j (by omega)) ?_ (oOk_of (fun j a b => e j (by omega)) hI.2.2)
    unfold iScal at hs ⊢
    rw [e0, e 1 (by decide), e 2 (by decide), e 3 (by decide), e 4 (by decide), e 5 (by decide), e 6 (by decide), e 7 (by decide)]
    omega
  unfold iScal at hs
  have e5 := e 5 (by decide)
  have h1 := odE_inv h0 (N 5).toNat (by omega)
  have h2 := odH_inv (N := od1 N) h1.1 (N 5).toNat (by rw [show od1 N 5 = od0 N 5 from h1.2 5 (by decide)]; omega)
  have h2' : AgK (od0 N) (od2 N) := AgK.tr h1.2 h2.2
  have h3 := kdT_inv (N := od2 N) h2.1 (N 1).toNat (by rw [h2' 1 (by decide), e 1 (by decide)]; omega)
  have h3' : AgK (od0 N) (od3 N) := AgK.tr h2' h3.2
  refine ⟨h0, h1, ⟨h2.1, h2'⟩, ⟨h3.1, h3'⟩, lk_inv h3.1, ?_⟩
  unfold odN
  rw [show (lk (od3 N)).1 0 = od3 N 0 from lk_lo h3.1 (by decide) (by decide) (by decide), h3' 0 (by decide), e0]
def psT (N : gN0) : Nat → gN0
  | 0 => N
  | n + 1 => odN (psT N n)
theorem psT_inv {N : gN0} (hI : INV N) : ∀ n : Nat, N 0 + n ≤ 36524 → INV (psT N n) ∧ psT N n 0 = N 0 + n := by
  intro n
  induction n with
  | zero => intro _; exact ⟨hI, by show N 0 = N 0 + ((0 : Nat) : Int); omega⟩
  | succ n ih =>
    intro hn
    obtain ⟨a1, a2⟩ := ih (by omega)
    have h := od_all a1 (by omega)
    unfold psT
    exact ⟨h.2.2.2.2.1, by rw [h.2.2.2.2.2, a2]; omega⟩
def otT (N : gN0) (sort : Int) : Nat → Int
  | 0 => 0
  | n + 1 => otT N sort n + (if (n : Int) ≠ sort then N (13 + n) else 0)
theorem otT_in {N : gN0} (h : oOk N) (sort : Int) : 0 ≤ otT N sort 4 ∧ otT N sort 4 ≤ 1000 := by
  have h1 := h.1
  have e : otT N sort 4 = 0 + (if ((0 : Nat) : Int) ≠ sort then N 13 else 0) + (if ((1 : Nat) : Int) ≠ sort then N 14 else 0) + (if ((2 : Nat) : Int) ≠ sort then N 15 else 0) + (if ((3 : Nat) : Int) ≠ sort then N 16 else 0) := rfl
  rw [e]
  (repeat' split) <;> omega
/-- the last state kept is laid again -/
def unN (V : gV) (b : Int) (N : gN0) : gN0 := fun j => if 0 ≤ j ∧ j < 5022 then V (b + 2) ((V b 2 - 1) * 5022 + j) else N j
theorem gMw_un {b : Int} {N : gN0} {Sh : gSh} {V V2 : gV} {sp : Int} (h : gMd b N Sh V2) (e : ∀ j, V2 (b + 2) j = V (b + 2) j) (hsp : sp = (V b 2 - 1) * 5022) : gMw b V2 (unN V b N) Sh (cpV V2 (b + 2) sp (b + 1) 0 5022) := by
  have e : cpV V2 (b + 2) sp (b + 1) 0 5022 = wrN V2 b (unN V b N) := by
    funext a j
    unfold cpV wrN
    by_cases ha : a = b + 1
    · subst ha
      rw [if_pos rfl]
      unfold unN
      by_cases hj : 0 ≤ j ∧ j < 0 + 5022
      · rw [if_pos ⟨rfl, hj⟩, if_pos (by omega), e, hsp, show (V b 2 - 1) * 5022 + (j - 0) = (V b 2 - 1) * 5022 + j by omega]
      · rw [if_neg (fun q => hj q.2), if_neg (by omega)]
        exact gMd_at h j
    · rw [if_neg (fun q => ha q.1), if_neg ha]
  exact ⟨by rw [e]; exact gMd_w h rfl, e⟩

