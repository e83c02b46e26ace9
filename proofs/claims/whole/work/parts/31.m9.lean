/-! the reference: days, odds, undoing (rows laid by wip/whole/m9.py) -/
/-- alike but for states of stays and the books -/
def AgK (N M : gN0) : Prop := ∀ j, (j < 9 ∨ (12 < j ∧ j < 56) ∨ 1496 ≤ j) → M j = N j
theorem AgK.of {N M : gN0} {s : Int} (h : AgT N M s) (h0 : 0 ≤ s) (h1 : s < 60) : AgK N M := fun j hj => h j (by omega) (by omega)
theorem AgK.tr {N M K : gN0} (h1 : AgK N M) (h2 : AgK M K) : AgK N K := fun j hj => (h2 j hj).trans (h1 j hj)
theorem AgK.rfl' (N : gN0) : AgK N N := fun _ _ => rfl
/-- scalars are others -/
theorem INV_sc {N M : gN0} (hI : INV N) (h : ∀ j, 31 ≤ j → M j = N j) (e1 : M 1 = N 1) (e2 : M 2 = N 2) (e5 : M 5 = N 5) (e7 : M 7 = N 7) (hb : ∀ j, 9 ≤ j → j ≤ 12 → M j = N j) (hs : iScal M) (ho : oOk M) : INV M := by
  obtain ⟨⟨i1, i2, i3, i4, i5⟩, hbk, -⟩ := hI
  refine ⟨⟨hs, ?_, ?_, ?_, ?_⟩, bOk_of ?_ hb hbk, ho⟩
  · intro k a0 a1
    rw [e1] at a1
    have := i2 k a0 a1
    have e : ∀ w, 0 ≤ w → kF M k w = kF N k w := fun w _ => h _ (by omega)
    unfold kOk at this ⊢
    rw [e 0 (by decide), e 1 (by decide), e 2 (by decide)]
    exact this
  · intro k a0 a1
    rw [e2] at a1
    have := i3 k a0 a1
    have e : ∀ w, 0 ≤ w → seF M k w = seF N k w := fun w _ => h _ (by omega)
    unfold seOk at this ⊢
    rw [e 0 (by decide), e 1 (by decide), e 2 (by decide), e 3 (by decide)]
    exact this
  · intro t a0 a1
    rw [e5] at a1
    have := i4 t a0 a1
    have e : ∀ w, 0 ≤ w → sF M t w = sF N t w := fun w _ => h _ (by omega)
    have h7 := this.1
    unfold sOk at this ⊢
    rw [e 0 (by decide), e 1 (by decide), e 2 (by decide), e 3 (by decide), e 4 (by decide), e 5 (by decide), e 6 (by decide), e 7 (by decide), e 8 (by decide), e 9 (by decide), e1]
    refine ⟨this.1, fun n n0 n1 => ?_⟩
    rw [e (10 + n) (by omega)]
    exact this.2 n n0 n1
  · intro g a0 a1
    rw [e7] at a1
    have := i5 g a0 a1
    have e : ∀ w, 0 ≤ w → gF M g w = gF N g w := fun w _ => h _ (by omega)
    unfold gOk at this ⊢
    rw [e 0 (by decide), e 1 (by decide), e 2 (by decide), e 3 (by decide), e 4 (by decide), e1]
    exact this
  · unfold Phi
    rw [e5, phT_eq (N := N) _ (fun s p q => by unfold sF; exact h _ (by omega))]
theorem lkS_lo : ∀ (q : Nat) (N : gN0) (a m : Int), INV N → 0 ≤ a → (q : Int) = N 7 - a → ∀ j, j ≠ 5 → j ≠ 7 → (j < 56 ∨ 1596 ≤ j) → (lkS q N a m).1 j = N j := by
  intro q
  induction q with
  | zero => intro N a m h _ _ j _ _ _; rfl
  | succ q ih =>
    intro N a m h h0 hq j j5 j7 hj
    have hs := h.1.1
    unfold iScal at hs
    have hlt : a < N 7 := by omega
    have hg := h.1.2.2.2.2 a h0 hlt
    unfold gOk gF at hg
    simp only [Int.add_zero] at hg
    have sh : ∀ M : gN0, M 7 = N 7 → shG M (1496 + a * 5) j = M j := by
      intro M hM
      unfold shG
      rw [if_neg j7, if_neg (by omega)]
    rw [lkS, if_pos hlt]
    split
    · rw [ih _ _ _ (INV_sh h h0 hlt) h0 (by rw [shG_7]; omega) j j5 j7 hj, sh N rfl]
    · split
      · rename_i hl hh
        have hO : mkOk N (N (1496 + a * 5)) (N (1496 + a * 5 + 1)) (N (1496 + a * 5 + 2)) (N (1496 + a * 5 + 3)) (N (1496 + a * 5 + 4)) (N (1496 + a * 5 + 1)) (-1) := by unfold mkOk; omega
        have e7 : mkN N (N (1496 + a * 5)) (N (1496 + a * 5 + 1)) (N (1496 + a * 5 + 2)) (N (1496 + a * 5 + 3)) (N (1496 + a * 5 + 4)) (N (1496 + a * 5 + 1)) (-1) 7 = N 7 := mkN_old (by omega) (by omega) (by omega) (by decide) (Or.inl (by omega))
        rw [ih _ _ _ (INV_sh (INV_mk h hO (rfd_had hh.2 (by omega) (by omega)).1) h0 (by omega)) h0 (by rw [shG_7]; omega) j j5 j7 hj, sh _ e7]
        exact mkN_old (by omega) (by omega) (by omega) j5 (by omega)
      · exact ih _ _ _ h (by omega) (by omega) j j5 j7 hj
theorem lk_lo {N : gN0} (h : INV N) {j : Int} (h5 : j ≠ 5) (h7 : j ≠ 7) (hj : j < 56 ∨ 1596 ≤ j) : (lk N).1 j = N j := by
  have hs := h.1.1
  unfold iScal at hs
  exact lkS_lo _ _ _ _ h (Int.le_refl _) (by omega) j h5 h7 hj
/-- the one that is sent away -/
def snS (N : gN0) (k d : Int) : Nat → Int
  | 0 => -1
  | n + 1 => if ((sF N n 0 = 0 ∨ sF N n 0 = 1) ∧ sF N n 1 = k ∧ sF N n 2 ≤ d ∧ d ≤ sF N n 2 + sF N n 3 - 1) ∧ (snS N k d n = -1 ∨ sF N (snS N k d n) 2 ≤ sF N n 2) then n else snS N k d n
theorem snS_in (N : gN0) (k d : Int) : ∀ n : Nat, (snS N k d n = -1 ∧ cntT N k d n = 0) ∨ (0 ≤ snS N k d n ∧ snS N k d n < n ∧ (sF N (snS N k d n) 0 = 0 ∨ sF N (snS N k d n) 0 = 1) ∧ sF N (snS N k d n) 1 = k ∧ sF N (snS N k d n) 2 ≤ d ∧ d ≤ sF N (snS N k d n) 2 + sF N (snS N k d n) 3 - 1) := by
  intro n
  induction n with
  | zero => exact Or.inl ⟨rfl, rfl⟩
  | succ n ih =>
    have hc := cntT_in N k d n
    unfold snS cntT
    by_cases hq : (sF N n 0 = 0 ∨ sF N n 0 = 1) ∧ sF N n 1 = k ∧ sF N n 2 ≤ d ∧ d ≤ sF N n 2 + sF N n 3 - 1
    · by_cases hf : snS N k d n = -1 ∨ sF N (snS N k d n) 2 ≤ sF N n 2
      · rw [if_pos ⟨hq, hf⟩]
        exact Or.inr ⟨by omega, by omega, hq⟩
      · rw [if_neg (fun q => hf q.2)]
        rcases ih with h | h
        · exact absurd (Or.inl h.1) hf
        · exact Or.inr ⟨h.1, by omega, h.2.2⟩
    · rw [if_neg (fun q => hq q.1), if_neg hq]
      rcases ih with h | h
      · exact Or.inl ⟨h.1, by omega⟩
      · exact Or.inr ⟨h.1, by omega, h.2.2⟩
def sdN (N : gN0) (s : Int) : gN0 := upN (mvN N 1 0 (sF N s 6)) (56 + s * 24 + 0) 3
theorem sdN_ag (N : gN0) (s : Int) : AgT N (sdN N s) s := fun j h1 h2 => by
  unfold sdN
  rw [upN_ne (by omega), mvN_far _ (by decide) (by decide) h2]
theorem sdN_inv {N : gN0} {s : Int} (hI : INV N) (h0 : 0 ≤ s) (h1 : s < N 5) (ha : sF N s 0 = 0 ∨ sF N s 0 = 1) : INV (sdN N s) := by
  have hs := hI.1.2.2.2.1 s h0 h1
  have hs1 := hs.1
  have hp : phi (sF N s 0) ≤ 2016000 := by rcases ha with h | h <;> rw [h] <;> decide
  have hok : sOk (sdN N s) s := sOk_st (st := 3) (sOk_mv (f := 1) (t := 0) (a := sF N s 6) hs h0 (by decide) (by decide)) h0 (by decide) (by decide)
  have e0 : sF (sdN N s) s 0 = 3 := upN_eq _ _ _
  have eb : ∀ j, j < 13 → sdN N s j = mvN N 1 0 (sF N s 6) j := fun j hj => upN_ne (by omega)
  refine INV_s (sdN_ag N s) h0 h1 hI hok ?_
  have p3 : phi 3 = 4032000 := rfl
  rw [e0, eb 9 (by decide), eb 10 (by decide), eb 11 (by decide), eb 12 (by decide), p3]
  simp only [mvN, upN]
  simp
  omega
theorem cntT_sd {N M : gN0} {s k d : Int} (h : AgT N M s) (h0 : 0 ≤ s) (hm : sF M s 0 = 3) (hc : (sF N s 0 = 0 ∨ sF N s 0 = 1) ∧ sF N s 1 = k ∧ sF N s 2 ≤ d ∧ d ≤ sF N s 2 + sF N s 3 - 1) : ∀ n : Nat, cntT M k d n = cntT N k d n - (if s < n then 1 else 0) := by
  intro n
  induction n with
  | zero => rw [if_neg (by omega)]; rfl
  | succ n ih =>
    unfold cntT
    rw [ih]
    by_cases q : (n : Int) = s
    · rw [q, hm, if_neg (by omega), if_neg (by omega), if_pos hc, if_pos (by omega)]; omega
    · have e : ∀ w, 0 ≤ w → w < 24 → sF M n w = sF N n w := fun w _ _ => h _ (by omega) (by omega)
      rw [e 0 (by decide) (by decide), e 1 (by decide) (by decide), e 2 (by decide) (by decide), e 3 (by decide) (by decide)]
      by_cases h2 : s < n
      · rw [if_pos h2, if_pos (show s < ((n + 1 : Nat) : Int) by omega)]; omega
      · rw [if_neg h2, if_neg (show ¬ s < ((n + 1 : Nat) : Int) by omega)]; omega
def whS (k : Int) : Nat → gN0 → gN0
  | 0, N => N
  | q + 1, N => if kF N k 0 < cnt N k (N 0) then whS k q (sdN N (snS N k (N 0) (N 5).toNat)) else N
/-- what sending one away does -/
theorem sd_step {N : gN0} {k : Int} (hI : INV N) (hk0 : 0 ≤ k) (hk1 : k < N 1) (hc : kF N k 0 < cnt N k (N 0)) :
    0 ≤ snS N k (N 0) (N 5).toNat ∧ snS N k (N 0) (N 5).toNat < N 5 ∧ INV (sdN N (snS N k (N 0) (N 5).toNat)) ∧ AgK N (sdN N (snS N k (N 0) (N 5).toNat)) ∧ cnt (sdN N (snS N k (N 0) (N 5).toNat)) k (sdN N (snS N k (N 0) (N 5).toNat) 0) = cnt N k (N 0) - 1 := by
  have hs := hI.1.1
  unfold iScal at hs
  have hk := hI.1.2.1 k hk0 hk1
  unfold kOk at hk
  have hsn := snS_in N k (N 0) (N 5).toNat
  have hcc : cnt N k (N 0) = cntT N k (N 0) (N 5).toNat := rfl
  rcases hsn with h | ⟨g0, g1, g2⟩
  · omega
  · have hlt : snS N k (N 0) (N 5).toNat < N 5 := by omega
    generalize snS N k (N 0) (N 5).toNat = s at *
    have hag := sdN_ag N s
    have hK := AgK.of hag g0 (by omega)
    refine ⟨g0, hlt, sdN_inv hI g0 hlt g2.1, hK, ?_⟩
    rw [hK 0 (by decide)]
    unfold cnt
    rw [hK 5 (by decide), cntT_sd hag g0 (upN_eq _ _ _) g2, if_pos (by omega)]
theorem whS_inv {k : Int} : ∀ (q : Nat) (N : gN0), INV N → 0 ≤ k → k < N 1 → INV (whS k q N) ∧ AgK N (whS k q N) := by
  intro q
  induction q with
  | zero => intro N h _ _; exact ⟨h, AgK.rfl' N⟩
  | succ q ih =>
    intro N h h0 h1
    rw [whS]
    split
    · rename_i hc
      have hst := sd_step h h0 h1 hc
      have h2 := ih _ hst.2.2.1 h0 (by rw [hst.2.2.2.1 1 (by decide)]; exact h1)
      exact ⟨h2.1, hst.2.2.2.1.tr h2.2⟩
    · exact ⟨h, AgK.rfl' N⟩
def enN (N : gN0) (s : Int) : gN0 := upN (upN (upN (upN (upN N 10 (N 10 - sF N s 6)) 9 (N 9 - (sPr N s + sTx N s - sF N s 6))) 11 (N 11 + sPr N s)) 12 (N 12 + sTx N s)) (56 + s * 24 + 0) 4
theorem enN_ag (N : gN0) (s : Int) : AgT N (enN N s) s := fun j h1 h2 => by
  unfold enN
  rw [upN_ne (by omega), upN_ne (by omega), upN_ne (by omega), upN_ne (by omega), upN_ne (by omega)]
theorem enN_inv {N : gN0} {s : Int} (hI : INV N) (h0 : 0 ≤ s) (h1 : s < N 5) (ha : sF N s 0 = 1) : INV (enN N s) := by
  have hs := hI.1.2.2.2.1 s h0 h1
  have hs1 := hs.1
  have hp := sPr_in hs
  have ht := sTx_in hs
  have e : ∀ w, w ≠ 0 → 0 ≤ w → sF (enN N s) s w = sF N s w := by
    intro w a b
    unfold enN sF
    rw [upN_ne (by omega), upN_ne (by omega), upN_ne (by omega), upN_ne (by omega), upN_ne (by omega)]
  have e0 : sF (enN N s) s 0 = 4 := upN_eq _ _ _
  have e1 : enN N s 1 = N 1 := (enN_ag N s).lo h0 (by decide)
  have hok : sOk (enN N s) s := by
    unfold sOk at hs ⊢
    rw [e0, e1, e 1 (by decide) (by decide), e 2 (by decide) (by decide), e 3 (by decide) (by decide), e 4 (by decide) (by decide), e 5 (by decide) (by decide), e 6 (by decide) (by decide), e 7 (by decide) (by decide), e 8 (by decide) (by decide), e 9 (by decide) (by decide)]
    refine ⟨by omega, fun n a b => ?_⟩
    rw [e _ (by omega) (by omega)]
    exact hs.2 n a b
  have p1 : phi 1 = 2016000 := rfl
  have p4 : phi 4 = 12200000 := rfl
  refine INV_s (enN_ag N s) h0 h1 hI hok ?_
  rw [e0, ha, p1, p4]
  have eb : ∀ j, j < 13 → enN N s j = upN (upN (upN (upN N 10 (N 10 - sF N s 6)) 9 (N 9 - (sPr N s + sTx N s - sF N s 6))) 11 (N 11 + sPr N s)) 12 (N 12 + sTx N s) j := fun j hj => upN_ne (by omega)
  rw [eb 9 (by decide), eb 10 (by decide), eb 11 (by decide), eb 12 (by decide)]
  simp only [upN]
  simp
  omega
/-- the stays that are over end -/
def odE (N : gN0) : Nat → gN0
  | 0 => N
  | n + 1 => if sF (odE N n) n 0 = 1 ∧ sF (odE N n) n 2 + sF (odE N n) n 3 - 1 < odE N n 0 then enN (odE N n) n else odE N n
/-- the stays that are held too long are cancelled -/
def odH (N : gN0) : Nat → gN0
  | 0 => N
  | n + 1 => if sF (odH N n) n 0 = 0 ∧ (sF (odH N n) n 9 < odH N n 0 ∨ sF (odH N n) n 2 ≤ odH N n 0) then upN (odH N n) (56 + (n : Int) * 24 + 0) 2 else odH N n
def kdT (N : gN0) : Nat → gN0
  | 0 => N
  | n + 1 => whS n 61 (kdT N n)
theorem odE_inv {N : gN0} (hI : INV N) : ∀ n : Nat, (n : Int) ≤ N 5 → INV (odE N n) ∧ AgK N (odE N n) := by
  intro n
  induction n with
  | zero => intro _; exact ⟨hI, AgK.rfl' N⟩
  | succ n ih =>
    intro hn
    obtain ⟨a1, a2⟩ := ih (by omega)
    have hs := hI.1.1
    unfold iScal at hs
    have e5 := a2 5 (by decide)
    unfold odE
    split
    · rename_i h
      exact ⟨enN_inv a1 (by omega) (by omega) h.1, a2.tr (AgK.of (enN_ag _ _) (by omega) (by omega))⟩
    · exact ⟨a1, a2⟩
theorem odH_inv {N : gN0} (hI : INV N) : ∀ n : Nat, (n : Int) ≤ N 5 → INV (odH N n) ∧ AgK N (odH N n) := by
  intro n
  induction n with
  | zero => intro _; exact ⟨hI, AgK.rfl' N⟩
  | succ n ih =>
    intro hn
    obtain ⟨a1, a2⟩ := ih (by omega)
    have hs := hI.1.1
    unfold iScal at hs
    have e5 := a2 5 (by decide)
    unfold odH
    split
    · rename_i h
      exact ⟨INV_st a1 (by omega) (by omega) (by decide) (by decide) (by rw [h.1]; decide), a2.tr (AgK.of (stN_ag _ _ _) (by omega) (by omega))⟩
    · exact ⟨a1, a2⟩
theorem kdT_inv {N : gN0} (hI : INV N) : ∀ n : Nat, (n : Int) ≤ N 1 → INV (kdT N n) ∧ AgK N (kdT N n) := by
  intro n
  induction n with
  | zero => intro _; exact ⟨hI, AgK.rfl' N⟩
  | succ n ih =>
    intro hn
    obtain ⟨a1, a2⟩ := ih (by omega)
    unfold kdT
    have h := whS_inv (k := n) 61 _ a1 (by omega) (by rw [a2 1 (by decide)]; omega)
    exact ⟨h.1, a2.tr h.2⟩
def od0 (N : gN0) : gN0 := upN N 0 (N 0 + 1)
def od1 (N : gN0) : gN0 := odE (od0 N) (N 5).toNat
def od2 (N : gN0) : gN0 := odH (od1 N) (N 5).toNat
def od3 (N : gN0) : gN0 := kdT (od2 N) (N 1).toNat
/-- a day passes -/
def odN (N : gN0) : gN0 := (lk (od3 N)).1
theorem od_all {N : gN0} (hI : INV N) (ht : N 0 + 1 ≤ 36524) : INV (od0 N) ∧ (INV (od1 N) ∧ AgK (od0 N) (od1 N)) ∧ (INV (od2 N) ∧ AgK (od0 N) (od2 N)) ∧ (INV (od3 N) ∧ AgK (od0 N) (od3 N)) ∧ INV (odN N) ∧ odN N 0 = N 0 + 1 := by
  have hs := hI.1.1
  have e : ∀ j, j ≠ 0 → od0 N j = N j := fun j hj => upN_ne hj
  have e0 : od0 N 0 = N 0 + 1 := upN_eq _ _ _
  have h0 : INV (od0 N) := by
    refine INV_sc hI (fun j hj => e j (by omega)) (e 1 (by decide)) (e 2 (by decide)) (e 5 (by decide)) (e 7 (by decide)) (fun j a b => e j (by omega)) ?_ (oOk_of (fun j a b => e j (by omega)) hI.2.2)
    unfold iScal at hs ⊢
    rw [e0, e 1 (by decide), e 2 (by decide), e 3 (by decide), e 4 (by decide), e 5 (by decide), e 6 (by decide), e 7 (by decide)]
    omega
  unfold iScal at hs
  have e5 := e 5 (by decide)
  have h1 := odE_inv h0 (N 5).toNat (by omega)
  have h2 := odH_inv (N := od1 N) h1.1 (N 5).toNat (by rw [show od1 N 5 = od0 N 5 from h1.2 5 (by decide)]; omega)
  have h2' : AgK (od0 N) (od2 N) := AgK.tr h1.2 h2.2
  have h3 := kdT_inv (N := od2 N) h2.1 (N 1).toNat (by rw [h2' 1 (by decide), e 1 (by decide)]; omega)
  have h3' : AgK (od0 N) (od3 N) := AgK.tr h2' h3.2
  refine ⟨h0, h1, ⟨h2.1, h2'⟩, ⟨h3.1, h3'⟩, lk_inv h3.1, ?_⟩
  unfold odN
  rw [show (lk (od3 N)).1 0 = od3 N 0 from lk_lo h3.1 (by decide) (by decide) (by decide), h3' 0 (by decide), e0]
def psT (N : gN0) : Nat → gN0
  | 0 => N
  | n + 1 => odN (psT N n)
theorem psT_inv {N : gN0} (hI : INV N) : ∀ n : Nat, N 0 + n ≤ 36524 → INV (psT N n) ∧ psT N n 0 = N 0 + n := by
  intro n
  induction n with
  | zero => intro _; exact ⟨hI, by show N 0 = N 0 + ((0 : Nat) : Int); omega⟩
  | succ n ih =>
    intro hn
    obtain ⟨a1, a2⟩ := ih (by omega)
    have h := od_all a1 (by omega)
    unfold psT
    exact ⟨h.2.2.2.2.1, by rw [h.2.2.2.2.2, a2]; omega⟩
def otT (N : gN0) (sort : Int) : Nat → Int
  | 0 => 0
  | n + 1 => otT N sort n + (if (n : Int) ≠ sort then N (13 + n) else 0)
theorem otT_in {N : gN0} (h : oOk N) (sort : Int) : 0 ≤ otT N sort 4 ∧ otT N sort 4 ≤ 1000 := by
  have h1 := h.1
  have e : otT N sort 4 = 0 + (if ((0 : Nat) : Int) ≠ sort then N 13 else 0) + (if ((1 : Nat) : Int) ≠ sort then N 14 else 0) + (if ((2 : Nat) : Int) ≠ sort then N 15 else 0) + (if ((3 : Nat) : Int) ≠ sort then N 16 else 0) := rfl
  rw [e]
  (repeat' split) <;> omega
/-- the last state kept is laid again -/
def unN (V : gV) (b : Int) (N : gN0) : gN0 := fun j => if 0 ≤ j ∧ j < 5022 then V (b + 2) ((V b 2 - 1) * 5022 + j) else N j
theorem gMw_un {b : Int} {N : gN0} {Sh : gSh} {V V2 : gV} {sp : Int} (h : gMd b N Sh V2) (e : ∀ j, V2 (b + 2) j = V (b + 2) j) (hsp : sp = (V b 2 - 1) * 5022) : gMw b V2 (unN V b N) Sh (cpV V2 (b + 2) sp (b + 1) 0 5022) := by
  have e : cpV V2 (b + 2) sp (b + 1) 0 5022 = wrN V2 b (unN V b N) := by
    funext a j
    unfold cpV wrN
    by_cases ha : a = b + 1
    · subst ha
      rw [if_pos rfl]
      unfold unN
      by_cases hj : 0 ≤ j ∧ j < 0 + 5022
      · rw [if_pos ⟨rfl, hj⟩, if_pos (by omega), e, hsp, show (V b 2 - 1) * 5022 + (j - 0) = (V b 2 - 1) * 5022 + j by omega]
      · rw [if_neg (fun q => hj q.2), if_neg (by omega)]
        exact gMd_at h j
    · rw [if_neg (fun q => ha q.1), if_neg ha]
  exact ⟨by rw [e]; exact gMd_w h rfl, e⟩

theorem kX12_sent {E l Sh V z} {b : Int} {N : gN0} {k0 : Int} (hm : gMd b N Sh V) (hI : InvC N) (hk : inI k0) : gM E l yX12_sent (.code yX12_sent cX12_sent 4 (some .int)) (rmk 4 0 0 95) [(2, b), (0, k0)] Sh V z (gRi (snS N k0 (N 0) (N 5).toNat) Sh V) := by
  refine gM_at (L0 := [(2, b), (0, k0), (9, 0), (9, 0)]) rfl rfl rfl ?_
  intro p e s m args below meth c hC hr hex hnm hz
  have hsc := hI.1
  unfold iScal at hsc
  refine gB hC _ _ _ _ _ _ _ qX12_sent_0 rfl ?_
  refine g_loop (fun x : Nat => (x : Int) ≤ N 5) (fun x => (N 5 - (x : Int)).toNat) 4 (fun x => [(2, b), (0, k0), (0, snS N k0 (N 0) x), (0, (x : Int))]) (fun _ => V) 0 (by show (0 : Int) ≤ N 5; omega) ?_
  rintro n z hn ih
  have hsi := snS_in N k0 (N 0) n
  refine gB hC _ _ _ _ _ _ _ qX12_sent_4 rfl ?_
  refine g_getr hC dX12_sent_6 fX12_9 hm.1.1 (by decide) rfl 0 rfl hm.2.1.1 ?_
  refine gB hC _ _ _ _ _ _ _ qX12_sent_9 rfl ?_
  refine g_iald hC dX12_sent_10 hm.1.2.1 (gMd_at hm _) (by omega) (by omega) (by decide) (fun i10 => ?_)
  refine g_icmp_ge hC 77 dX12_sent_11 rfl (by first | omega | exact bI_in _) (by first | omega | exact bI_in _) (fun c11 => ?_) (fun c11 => ?_)
  · obtain rfl : n = (N 5).toNat := by omega
    refine gB hC _ _ _ _ _ _ _ qX12_sent_77 rfl ?_
    refine g_ireturn hC dX12_sent_78 hr ⟨rfl, rfl, rfl, by omega⟩ gs_rfl ⟨Nat.le_of_ble_eq_true rfl, Nat.le_of_ble_eq_true rfl⟩
  · have hs := (hI.2.2.2.1 n (by omega) (by omega)).1
    refine gB hC _ _ _ _ _ _ _ qX12_sent_14 rfl ?_
    refine g_cV1 hC dX12_sent_16 mX12_49 vX12_isAlive (kX12_isAlive hm (by omega) (by omega)) rfl hm.1.1 (by decide) rfl (Nat.le_of_ble_eq_true rfl) (RR rfl rfl rfl rfl) (fun z => ?_)
    refine g_if_eq hC 71 dX12_sent_19 rfl (by first | omega | exact bI_in _) (fun c19 => ?_) (fun c19 => ?_)
    · have c19 := bI_0.mp c19
      refine gB hC _ _ _ _ _ _ _ qX12_sent_71 rfl ?_
      refine (?_ : _ → _) (ih (n + 1) z (by show ((n + 1 : Nat) : Int) ≤ N 5; omega) (by show (N 5 - ((n + 1 : Nat) : Int)).toNat < (N 5 - (n : Int)).toNat; omega))
      first | rw [snS, if_pos (by omega)] | rw [snS, if_neg (by omega)]
      exact id
    · have c19 := bI_n0.mp c19
      refine gB hC _ _ _ _ _ _ _ qX12_sent_22 rfl ?_
      refine g_cV1i hC dX12_sent_25 mX12_43 vX12_of (kX12_of hm (by omega) (by omega)) rfl hm.1.1 (by decide) rfl (Nat.le_of_ble_eq_true rfl) (RR rfl rfl rfl rfl) (fun z i25 => ?_)
      refine gB hC _ _ _ _ _ _ _ qX12_sent_28 rfl ?_
      refine g_icmp_ne hC 71 dX12_sent_29 rfl (by first | omega | exact bI_in _) (by first | omega | exact bI_in _) (fun c29 => ?_) (fun c29 => ?_)
      · refine gB hC _ _ _ _ _ _ _ qX12_sent_71 rfl ?_
        refine (?_ : _ → _) (ih (n + 1) z (by show ((n + 1 : Nat) : Int) ≤ N 5; omega) (by show (N 5 - ((n + 1 : Nat) : Int)).toNat < (N 5 - (n : Int)).toNat; omega))
        first | rw [snS, if_pos (by omega)] | rw [snS, if_neg (by omega)]
        exact id
      · refine gB hC _ _ _ _ _ _ _ qX12_sent_32 rfl ?_
        refine g_getr hC dX12_sent_35 fX12_9 hm.1.1 (by decide) rfl 0 rfl hm.2.1.1 ?_
        refine gB hC _ _ _ _ _ _ _ qX12_sent_38 rfl ?_
        refine g_iald hC dX12_sent_39 hm.1.2.1 (gMd_at hm _) (by omega) (by omega) (by decide) (fun i39 => ?_)
        refine g_cV1 hC dX12_sent_40 mX12_53 vX12_has (kX12_has hm (by omega) (by omega) (by omega) (by omega)) rfl hm.1.1 (by decide) rfl (Nat.le_of_ble_eq_true rfl) (RR rfl rfl rfl rfl) (fun z => ?_)
        refine g_if_ne hC 49 dX12_sent_43 rfl (by first | omega | exact bI_in _) (fun c43 => ?_) (fun c43 => ?_)
        · have c43 := bI_n0.mp c43
          refine gB hC _ _ _ _ _ _ _ qX12_sent_49 rfl ?_
          refine g_icmp_eq hC 69 dX12_sent_51 rfl (by first | omega | exact bI_in _) (by first | omega | exact bI_in _) (fun c51 => ?_) (fun c51 => ?_)
          · refine gB hC _ _ _ _ _ _ _ qX12_sent_69 rfl ?_
            refine gB hC _ _ _ _ _ _ _ qX12_sent_71 rfl ?_
            refine (?_ : _ → _) (ih (n + 1) z (by show ((n + 1 : Nat) : Int) ≤ N 5; omega) (by show (N 5 - ((n + 1 : Nat) : Int)).toNat < (N 5 - (n : Int)).toNat; omega))
            first | rw [snS, if_pos (by omega)] | rw [snS, if_neg (by omega)]
            exact id
          · refine gB hC _ _ _ _ _ _ _ qX12_sent_54 rfl ?_
            refine g_cV1i hC dX12_sent_57 mX12_43 vX12_of (kX12_of hm (by omega) (by omega)) rfl hm.1.1 (by decide) rfl (Nat.le_of_ble_eq_true rfl) (RR rfl rfl rfl rfl) (fun z i57 => ?_)
            refine gB hC _ _ _ _ _ _ _ qX12_sent_60 rfl ?_
            refine g_cV1i hC dX12_sent_63 mX12_43 vX12_of (kX12_of hm (by omega) (by omega)) rfl hm.1.1 (by decide) rfl (Nat.le_of_ble_eq_true rfl) (RR rfl rfl rfl rfl) (fun z i63 => ?_)
            refine g_icmp_lt hC 71 dX12_sent_66 rfl (by first | omega | exact bI_in _) (by first | omega | exact bI_in _) (fun c66 => ?_) (fun c66 => ?_)
            · refine gB hC _ _ _ _ _ _ _ qX12_sent_71 rfl ?_
              refine (?_ : _ → _) (ih (n + 1) z (by show ((n + 1 : Nat) : Int) ≤ N 5; omega) (by show (N 5 - ((n + 1 : Nat) : Int)).toNat < (N 5 - (n : Int)).toNat; omega))
              first | rw [snS, if_pos (by omega)] | rw [snS, if_neg (by omega)]
              exact id
            · refine gB hC _ _ _ _ _ _ _ qX12_sent_69 rfl ?_
              refine gB hC _ _ _ _ _ _ _ qX12_sent_71 rfl ?_
              refine (?_ : _ → _) (ih (n + 1) z (by show ((n + 1 : Nat) : Int) ≤ N 5; omega) (by show (N 5 - ((n + 1 : Nat) : Int)).toNat < (N 5 - (n : Int)).toNat; omega))
              first | rw [snS, if_pos (by omega)] | rw [snS, if_neg (by omega)]
              exact id
        · have c43 := bI_0.mp c43
          refine gB hC _ _ _ _ _ _ _ qX12_sent_46 rfl ?_
          refine gB hC _ _ _ _ _ _ _ qX12_sent_71 rfl ?_
          refine (?_ : _ → _) (ih (n + 1) z (by show ((n + 1 : Nat) : Int) ≤ N 5; omega) (by show (N 5 - ((n + 1 : Nat) : Int)).toNat < (N 5 - (n : Int)).toNat; omega))
          first | rw [snS, if_pos (by omega)] | rw [snS, if_neg (by omega)]
          exact id

theorem kX12_ends {E l Sh V z} {b : Int} {N : gN0} {s0 : Int} (hm : gMd b N Sh V) (hI : INV N) (h0 : 0 ≤ s0) (h1 : s0 < N 5) : gM E l yX12_ends (.code yX12_ends cX12_ends 4 none) (rmk 3 0 0 70) [(2, b), (0, s0)] Sh V z (gR none Sh (wrN V b (enN N s0))) := by
  refine gM_at (L0 := [(2, b), (0, s0), (9, 0), (9, 0)]) rfl rfl rfl ?_
  intro p e s m args below meth c hC hr hex hnm hz
  have hsc := hI.1.1
  unfold iScal at hsc
  have hbk := hI.2.1
  unfold bOk at hbk
  have hph := Phi_in hI.1
  have hsk := hI.1.2.2.2.1 s0 h0 h1
  have hs1 := hsk.1
  have hpr := sPr_in hsk
  have htx := sTx_in hsk
  have h6 : sF (upN N 10 (N 10 - sF N s0 6)) s0 6 = sF N s0 6 := upN_ne (by omega)
  refine gB hC _ _ _ _ _ _ _ qX12_ends_0 rfl ?_
  refine g_cV1i hC dX12_ends_2 mX12_146 vX12_price (kX12_price hm hsk (by omega) (by omega)) rfl hm.1.1 (by decide) rfl (Nat.le_of_ble_eq_true rfl) (RR rfl rfl rfl rfl) (fun z i2 => ?_)
  refine gB hC _ _ _ _ _ _ _ qX12_ends_5 rfl ?_
  refine g_cV1i hC dX12_ends_8 mX12_155 vX12_tax (kX12_tax hm hsk (by omega) (by omega)) rfl hm.1.1 (by decide) rfl (Nat.le_of_ble_eq_true rfl) (RR rfl rfl rfl rfl) (fun z i8 => ?_)
  refine gB hC _ _ _ _ _ _ _ qX12_ends_11 rfl ?_
  refine g_getr hC dX12_ends_13 fX12_9 hm.1.1 (by decide) rfl 0 rfl hm.2.1.1 ?_
  refine gB hC _ _ _ _ _ _ _ qX12_ends_16 rfl ?_
  refine g_iald hC dX12_ends_19 hm.1.2.1 (gMd_at hm _) (by omega) (by omega) (by decide) (fun i19 => ?_)
  refine gB hC _ _ _ _ _ _ _ qX12_ends_20 rfl ?_
  refine g_cV1i hC dX12_ends_24 mX12_43 vX12_of (kX12_of hm (by omega) (by omega)) rfl hm.1.1 (by decide) rfl (Nat.le_of_ble_eq_true rfl) (RR rfl rfl rfl rfl) (fun z i24 => ?_)
  refine gB hC _ _ _ _ _ _ _ qX12_ends_27 rfl ?_
  refine g_ast hC dX12_ends_28 hm.1.2.1 (by omega) (by omega) (by decide) (by first | omega | exact bI_in _) (fun V28 e28 => ?_)
  have hw28 := gMw_up (gMw_in hm) e28
  refine gB hC _ _ _ _ _ _ _ qX12_ends_29 rfl ?_
  refine g_getr hC dX12_ends_30 fX12_9 hw28.1.1.1 (by decide) rfl 0 rfl hw28.1.2.1.1 ?_
  refine gB hC _ _ _ _ _ _ _ qX12_ends_33 rfl ?_
  refine g_iald hC dX12_ends_36 hw28.1.1.2.1 (gMd_at hw28.1 _) (by omega) (by omega) (by decide) (fun i36 => ?_)
  repeat rw [upN_ne (by omega)]
  refine gB hC _ _ _ _ _ _ _ qX12_ends_37 rfl ?_
  refine g_cV1i hC dX12_ends_44 mX12_43 vX12_of (kX12_of hw28.1 (by omega) (by omega)) rfl hw28.1.1.1 (by decide) rfl (Nat.le_of_ble_eq_true rfl) (RR rfl rfl rfl rfl) (fun z i44 => ?_)
  rw [h6]
  refine gB hC _ _ _ _ _ _ _ qX12_ends_47 rfl ?_
  refine g_ast hC dX12_ends_49 hw28.1.1.2.1 (by omega) (by omega) (by decide) (by first | omega | exact bI_in _) (fun V49 e49 => ?_)
  have hw49 := gMw_up hw28 e49
  refine gB hC _ _ _ _ _ _ _ qX12_ends_50 rfl ?_
  refine g_getr hC dX12_ends_51 fX12_9 hw49.1.1.1 (by decide) rfl 0 rfl hw49.1.2.1.1 ?_
  refine gB hC _ _ _ _ _ _ _ qX12_ends_54 rfl ?_
  refine g_iald hC dX12_ends_57 hw49.1.1.2.1 (gMd_at hw49.1 _) (by omega) (by omega) (by decide) (fun i57 => ?_)
  repeat rw [upN_ne (by omega)]
  refine gB hC _ _ _ _ _ _ _ qX12_ends_58 rfl ?_
  refine g_ast hC dX12_ends_60 hw49.1.1.2.1 (by omega) (by omega) (by decide) (by first | omega | exact bI_in _) (fun V60 e60 => ?_)
  have hw60 := gMw_up hw49 e60
  refine gB hC _ _ _ _ _ _ _ qX12_ends_61 rfl ?_
  refine g_getr hC dX12_ends_62 fX12_9 hw60.1.1.1 (by decide) rfl 0 rfl hw60.1.2.1.1 ?_
  refine gB hC _ _ _ _ _ _ _ qX12_ends_65 rfl ?_
  refine g_iald hC dX12_ends_68 hw60.1.1.2.1 (gMd_at hw60.1 _) (by omega) (by omega) (by decide) (fun i68 => ?_)
  repeat rw [upN_ne (by omega)]
  refine gB hC _ _ _ _ _ _ _ qX12_ends_69 rfl ?_
  refine g_ast hC dX12_ends_71 hw60.1.1.2.1 (by omega) (by omega) (by decide) (by first | omega | exact bI_in _) (fun V71 e71 => ?_)
  have hw71 := gMw_up hw60 e71
  refine gB hC _ _ _ _ _ _ _ qX12_ends_72 rfl ?_
  refine g_cV0m hC dX12_ends_76 mX12_90 vX12_lays (kX12_lays hw71.1 (by omega) (by omega) (by first | omega | exact bI_in _)) rfl hw71.1.1.1 (by decide) rfl (Nat.le_of_ble_eq_true rfl) (RR rfl rfl rfl rfl) (fun z V76 e76 => ?_)
  have hw76 := gMw_wr hw71 e76
  refine g_return hC dX12_ends_79 hr ⟨rfl, rfl, ?_⟩ gs_rfl ⟨Nat.le_of_ble_eq_true rfl, Nat.le_of_ble_eq_true rfl⟩
  rw [hw76.2]; rfl

theorem kX12_oneDay {E l Sh V z} {b : Int} {N : gN0} (hm : gMd b N Sh V) (hI : INV N) (ht : N 0 + 1 ≤ 36524) : gM E l yX12_oneDay (.code yX12_oneDay cX12_oneDay 3 none) (rmk 7 0 0 178) [(2, b)] Sh V z (gR none Sh (wrN V b (odN N))) := by
  refine gM_at (L0 := [(2, b), (9, 0), (9, 0)]) rfl rfl rfl ?_
  intro p e s m args below meth c hC hr hex hnm hz
  have hsc := hI.1.1
  unfold iScal at hsc
  obtain ⟨hI0, ⟨hI1, hK1⟩, ⟨hI2, hK2⟩, ⟨hI3, hK3⟩, -, -⟩ := od_all hI ht
  have e0 : ∀ j, j ≠ 0 → od0 N j = N j := fun j hj => upN_ne hj
  have e00 : od0 N 0 = N 0 + 1 := upN_eq _ _ _
  have e05 := e0 5 (by decide)
  have e01 := e0 1 (by decide)
  refine gB hC _ _ _ _ _ _ _ qX12_oneDay_0 rfl ?_
  refine g_getr hC dX12_oneDay_1 fX12_9 hm.1.1 (by decide) rfl 0 rfl hm.2.1.1 ?_
  refine gB hC _ _ _ _ _ _ _ qX12_oneDay_4 rfl ?_
  refine g_iald hC dX12_oneDay_6 hm.1.2.1 (gMd_at hm _) (by omega) (by omega) (by decide) (fun i6 => ?_)
  refine gB hC _ _ _ _ _ _ _ qX12_oneDay_7 rfl ?_
  refine g_ast hC dX12_oneDay_9 hm.1.2.1 (by omega) (by omega) (by decide) (by first | omega | exact bI_in _) (fun V9 e9 => ?_)
  have hw9 := gMw_up (gMw_in hm) e9
  refine gB hC _ _ _ _ _ _ _ qX12_oneDay_10 rfl ?_
  rw [hw9.2]
  refine g_loop (fun x : Nat => (x : Int) ≤ N 5) (fun x => (N 5 - (x : Int)).toNat) 12 (fun x => [(2, b), (0, (x : Int)), (9, 0)]) (fun x => wrN V b (odE (od0 N) x)) 0 (by show (0 : Int) ≤ N 5; omega) ?_
  rintro n z hn ih
  have hwn : gMw b V (odE (od0 N) n) Sh (wrN V b (odE (od0 N) n)) := ⟨gMd_w hm rfl, rfl⟩
  obtain ⟨hIn, hKn⟩ := odE_inv hI0 n (by omega)
  have k5 := hKn 5 (by decide)
  have k0 := hKn 0 (by decide)
  refine gB hC _ _ _ _ _ _ _ qX12_oneDay_12 rfl ?_
  refine g_getr hC dX12_oneDay_14 fX12_9 hwn.1.1.1 (by decide) rfl 0 rfl hwn.1.2.1.1 ?_
  refine gB hC _ _ _ _ _ _ _ qX12_oneDay_17 rfl ?_
  refine g_iald hC dX12_oneDay_18 hwn.1.1.2.1 (gMd_at hwn.1 _) (by omega) (by omega) (by decide) (fun i18 => ?_)
  refine g_icmp_ge hC 57 dX12_oneDay_19 rfl (by first | omega | exact bI_in _) (by first | omega | exact bI_in _) (fun c19 => ?_) (fun c19 => ?_)
  · refine gB hC _ _ _ _ _ _ _ qX12_oneDay_57 rfl ?_
    obtain rfl : n = (N 5).toNat := by omega
    have k15 := hK1 5 (by decide)
    have k10 := hK1 0 (by decide)
    clear ih hwn
    refine g_loop (fun x : Nat => (x : Int) ≤ N 5) (fun x => (N 5 - (x : Int)).toNat) 59 (fun x => [(2, b), (0, (x : Int)), (9, 0)]) (fun x => wrN V b (odH (od1 N) x)) 0 (by show (0 : Int) ≤ N 5; omega) ?_
    rintro n z hn ih
    have hwn : gMw b V (odH (od1 N) n) Sh (wrN V b (odH (od1 N) n)) := ⟨gMd_w hm rfl, rfl⟩
    obtain ⟨hIn2, hKn2⟩ := odH_inv hI1 n (by omega)
    have k5 := hKn2 5 (by decide)
    have k0 := hKn2 0 (by decide)
    refine gB hC _ _ _ _ _ _ _ qX12_oneDay_59 rfl ?_
    refine g_getr hC dX12_oneDay_61 fX12_9 hwn.1.1.1 (by decide) rfl 0 rfl hwn.1.2.1.1 ?_
    refine gB hC _ _ _ _ _ _ _ qX12_oneDay_64 rfl ?_
    refine g_iald hC dX12_oneDay_65 hwn.1.1.2.1 (gMd_at hwn.1 _) (by omega) (by omega) (by decide) (fun i65 => ?_)
    refine g_icmp_ge hC 122 dX12_oneDay_66 rfl (by first | omega | exact bI_in _) (by first | omega | exact bI_in _) (fun c66 => ?_) (fun c66 => ?_)
    · refine gB hC _ _ _ _ _ _ _ qX12_oneDay_122 rfl ?_
      obtain rfl : n = (N 5).toNat := by omega
      have k21 := hK2 1 (by decide)
      clear ih hwn
      refine g_loop (fun x : Nat × aV => (x.1 : Int) ≤ N 1) (fun x => (N 1 - (x.1 : Int)).toNat) 124 (fun x => [(2, b), (0, (x.1 : Int)), x.2]) (fun x => wrN V b (kdT (od2 N) x.1)) (0, (9, 0)) (by show (0 : Int) ≤ N 1; omega) ?_
      rintro ⟨n, a2⟩ z hn ih
      dsimp only at hn ih ⊢
      have hwn : gMw b V (kdT (od2 N) n) Sh (wrN V b (kdT (od2 N) n)) := ⟨gMd_w hm rfl, rfl⟩
      obtain ⟨hIn3, hKn3⟩ := kdT_inv hI2 n (by omega)
      have k31 := hKn3 1 (by decide)
      refine gB hC _ _ _ _ _ _ _ qX12_oneDay_124 rfl ?_
      refine g_getr hC dX12_oneDay_126 fX12_9 hwn.1.1.1 (by decide) rfl 0 rfl hwn.1.2.1.1 ?_
      refine gB hC _ _ _ _ _ _ _ qX12_oneDay_129 rfl ?_
      refine g_iald hC dX12_oneDay_130 hwn.1.1.2.1 (gMd_at hwn.1 _) (by omega) (by omega) (by decide) (fun i130 => ?_)
      refine g_icmp_ge hC 189 dX12_oneDay_131 rfl (by first | omega | exact bI_in _) (by first | omega | exact bI_in _) (fun c131 => ?_) (fun c131 => ?_)
      · obtain rfl : n = (N 1).toNat := by omega
        refine gB hC _ _ _ _ _ _ _ qX12_oneDay_189 rfl ?_
        refine g_cV1im hC dX12_oneDay_190 mX12_124 vX12_looks (kX12_looks hwn.1 hI3.1) rfl hwn.1.1.1 (by decide) rfl (Nat.le_of_ble_eq_true rfl) (RR rfl rfl rfl rfl) (fun z V190 e190 i190 => ?_)
        have hw190 := gMw_wr hwn e190
        refine gB hC _ _ _ _ _ _ _ qX12_oneDay_193 rfl ?_
        refine g_return hC dX12_oneDay_194 hr ⟨rfl, rfl, ?_⟩ gs_rfl ⟨Nat.le_of_ble_eq_true rfl, Nat.le_of_ble_eq_true rfl⟩
        rw [hw190.2]; rfl
      · refine g_loop (fun x : gN0 × Nat × aV => INV x.1 ∧ AgK (od2 N) x.1 ∧ whS n x.2.1 x.1 = kdT (od2 N) (n + 1) ∧ cnt x.1 n (x.1 0) ≤ x.2.1) (fun x => x.2.1) 134 (fun x => [(2, b), (0, (n : Int)), x.2.2]) (fun x => wrN V b x.1) (kdT (od2 N) n, 61, a2) ⟨hIn3, hKn3, rfl, by have := cnt_in hIn3.1 n (kdT (od2 N) n 0); show cnt (kdT (od2 N) n) n (kdT (od2 N) n 0) ≤ ((61 : Nat) : Int); omega⟩ ?_
        rintro ⟨M, q, a3⟩ z ⟨hM, hMK, hS, hcq⟩ ih2
        dsimp only at hM hMK hS hcq ih2 ⊢
        clear hwn
        have hwn : gMw b V (M) Sh (wrN V b (M)) := ⟨gMd_w hm rfl, rfl⟩
        have m1 := hMK 1 (by decide)
        have hms := hM.1.1
        unfold iScal at hms
        have hcm := cnt_in hM.1 n (M 0)
        refine gB hC _ _ _ _ _ _ _ qX12_oneDay_134 rfl ?_
        refine g_getr hC dX12_oneDay_137 fX12_9 hwn.1.1.1 (by decide) rfl 0 rfl hwn.1.2.1.1 ?_
        refine gB hC _ _ _ _ _ _ _ qX12_oneDay_140 rfl ?_
        refine g_iald hC dX12_oneDay_141 hwn.1.1.2.1 (gMd_at hwn.1 _) (by omega) (by omega) (by decide) (fun i141 => ?_)
        refine g_cV1i hC dX12_oneDay_142 mX12_60 vX12_counts (kX12_counts hwn.1 hM.1 (by omega) (by omega)) rfl hwn.1.1.1 (by decide) rfl (Nat.le_of_ble_eq_true rfl) (RR rfl rfl rfl rfl) (fun z i142 => ?_)
        refine gB hC _ _ _ _ _ _ _ qX12_oneDay_145 rfl ?_
        refine g_cV1i hC dX12_oneDay_148 mX12_63 vX12_ofKind (kX12_ofKind hwn.1 (by omega) (by omega)) rfl hwn.1.1.1 (by decide) rfl (Nat.le_of_ble_eq_true rfl) (RR rfl rfl rfl rfl) (fun z i148 => ?_)
        refine g_icmp_le hC 183 dX12_oneDay_151 rfl (by first | omega | exact bI_in _) (by first | omega | exact bI_in _) (fun c151 => ?_) (fun c151 => ?_)
        · have hS2 : M = kdT (od2 N) (n + 1) := by rw [← hS]; cases q with
            | zero => rfl
            | succ q => rw [whS, if_neg (by omega)]
          subst hS2
          refine gB hC _ _ _ _ _ _ _ qX12_oneDay_183 rfl ?_
          exact ih (n + 1, _) z (by show ((n + 1 : Nat) : Int) ≤ N 1; omega) (by show (N 1 - ((n + 1 : Nat) : Int)).toNat < (N 1 - (n : Int)).toNat; omega)
        · have hkk := hM.1.2.1 n (by omega) (by omega)
          unfold kOk at hkk
          have hcd : kF M n 0 < cnt M n (M 0) := by omega
          obtain ⟨q2, rfl⟩ : ∃ q2, q = q2 + 1 := ⟨q - 1, by omega⟩
          rw [whS, if_pos hcd] at hS
          have hst := sd_step hM (k := n) (by omega) (by omega) hcd
          have hs9 := (hM.1.2.2.2.1 _ hst.1 hst.2.1).1
          have hbk := hM.2.1
          unfold bOk at hbk
          have hph := Phi_in hM.1
          refine gB hC _ _ _ _ _ _ _ qX12_oneDay_154 rfl ?_
          refine g_cV1i hC dX12_oneDay_156 mX12_162 vX12_sent (kX12_sent hwn.1 hM.1 (by omega)) rfl hwn.1.1.1 (by decide) rfl (Nat.le_of_ble_eq_true rfl) (RR rfl rfl rfl rfl) (fun z i156 => ?_)
          refine gB hC _ _ _ _ _ _ _ qX12_oneDay_159 rfl ?_
          refine g_cV1i hC dX12_oneDay_167 mX12_43 vX12_of (kX12_of hwn.1 (by omega) (by omega)) rfl hwn.1.1.1 (by decide) rfl (Nat.le_of_ble_eq_true rfl) (RR rfl rfl rfl rfl) (fun z i167 => ?_)
          refine g_cV0m hC dX12_oneDay_170 mX12_149 vX12_moves (kX12_moves hwn.1 (by decide) (by decide) (by decide) (by decide) (by show inI (M 10 - _); omega) (by show inI (upN M _ _ 9 + _); rw [upN_ne (by decide)]; omega)) rfl hwn.1.1.1 (by decide) rfl (Nat.le_of_ble_eq_true rfl) (RR rfl rfl rfl rfl) (fun z V170 e170 => ?_)
          have hw170 := gMw_wr hwn e170
          refine gB hC _ _ _ _ _ _ _ qX12_oneDay_173 rfl ?_
          refine g_cV0m hC dX12_oneDay_177 mX12_90 vX12_lays (kX12_lays hw170.1 (by omega) (by omega) (by first | omega | exact bI_in _)) rfl hw170.1.1.1 (by decide) rfl (Nat.le_of_ble_eq_true rfl) (RR rfl rfl rfl rfl) (fun z V177 e177 => ?_)
          have hw177 := gMw_wr hw170 e177
          refine gB hC _ _ _ _ _ _ _ qX12_oneDay_180 rfl ?_
          rw [hw177.2]
          exact ih2 (sdN M (snS M n (M 0) (M 5).toNat), q2, _) z ⟨hst.2.2.1, hMK.tr hst.2.2.2.1, hS, by show cnt _ _ _ ≤ ((q2 : Nat) : Int); rw [hst.2.2.2.2]; omega⟩ (Nat.lt_succ_self _)
    · 
      refine gB hC _ _ _ _ _ _ _ qX12_oneDay_69 rfl ?_
      refine g_cV1i hC dX12_oneDay_72 mX12_43 vX12_of (kX12_of hwn.1 (by omega) (by omega)) rfl hwn.1.1.1 (by decide) rfl (Nat.le_of_ble_eq_true rfl) (RR rfl rfl rfl rfl) (fun z i72 => ?_)
      refine g_if_ne hC 116 dX12_oneDay_75 rfl (by first | omega | exact bI_in _) (fun c75 => ?_) (fun c75 => ?_)
      · refine gB hC _ _ _ _ _ _ _ qX12_oneDay_116 rfl ?_
        have hst : odH (od1 N) (n + 1) = odH (od1 N) n := by rw [odH, if_neg (by omega)]
        rw [← hst]
        exact ih (n + 1) z (by show ((n + 1 : Nat) : Int) ≤ N 5; omega) (by show (N 5 - ((n + 1 : Nat) : Int)).toNat < (N 5 - (n : Int)).toNat; omega)
      · refine gB hC _ _ _ _ _ _ _ qX12_oneDay_78 rfl ?_
        refine g_cV1i hC dX12_oneDay_82 mX12_43 vX12_of (kX12_of hwn.1 (by omega) (by omega)) rfl hwn.1.1.1 (by decide) rfl (Nat.le_of_ble_eq_true rfl) (RR rfl rfl rfl rfl) (fun z i82 => ?_)
        refine gB hC _ _ _ _ _ _ _ qX12_oneDay_85 rfl ?_
        refine g_getr hC dX12_oneDay_86 fX12_9 hwn.1.1.1 (by decide) rfl 0 rfl hwn.1.2.1.1 ?_
        refine gB hC _ _ _ _ _ _ _ qX12_oneDay_89 rfl ?_
        refine g_iald hC dX12_oneDay_90 hwn.1.1.2.1 (gMd_at hwn.1 _) (by omega) (by omega) (by decide) (fun i90 => ?_)
        refine g_icmp_lt hC 109 dX12_oneDay_91 rfl (by first | omega | exact bI_in _) (by first | omega | exact bI_in _) (fun c91 => ?_) (fun c91 => ?_)
        · refine gB hC _ _ _ _ _ _ _ qX12_oneDay_109 rfl ?_
          refine g_cV0m hC dX12_oneDay_113 mX12_90 vX12_lays (kX12_lays hwn.1 (by omega) (by omega) (by first | omega | exact bI_in _)) rfl hwn.1.1.1 (by decide) rfl (Nat.le_of_ble_eq_true rfl) (RR rfl rfl rfl rfl) (fun z V113 e113 => ?_)
          have hw113 := gMw_wr hwn e113
          refine gB hC _ _ _ _ _ _ _ qX12_oneDay_116 rfl ?_
          rw [hw113.2]
          have hst : odH (od1 N) (n + 1) = upN (odH (od1 N) n) (56 + (n : Int) * 24 + 0) 2 := by rw [odH, if_pos (by omega)]
          rw [← hst]
          exact ih (n + 1) z (by show ((n + 1 : Nat) : Int) ≤ N 5; omega) (by show (N 5 - ((n + 1 : Nat) : Int)).toNat < (N 5 - (n : Int)).toNat; omega)
        · refine gB hC _ _ _ _ _ _ _ qX12_oneDay_94 rfl ?_
          refine g_cV1i hC dX12_oneDay_97 mX12_43 vX12_of (kX12_of hwn.1 (by omega) (by omega)) rfl hwn.1.1.1 (by decide) rfl (Nat.le_of_ble_eq_true rfl) (RR rfl rfl rfl rfl) (fun z i97 => ?_)
          refine gB hC _ _ _ _ _ _ _ qX12_oneDay_100 rfl ?_
          refine g_getr hC dX12_oneDay_101 fX12_9 hwn.1.1.1 (by decide) rfl 0 rfl hwn.1.2.1.1 ?_
          refine gB hC _ _ _ _ _ _ _ qX12_oneDay_104 rfl ?_
          refine g_iald hC dX12_oneDay_105 hwn.1.1.2.1 (gMd_at hwn.1 _) (by omega) (by omega) (by decide) (fun i105 => ?_)
          refine g_icmp_gt hC 116 dX12_oneDay_106 rfl (by first | omega | exact bI_in _) (by first | omega | exact bI_in _) (fun c106 => ?_) (fun c106 => ?_)
          · refine gB hC _ _ _ _ _ _ _ qX12_oneDay_116 rfl ?_
            have hst : odH (od1 N) (n + 1) = odH (od1 N) n := by rw [odH, if_neg (by omega)]
            rw [← hst]
            exact ih (n + 1) z (by show ((n + 1 : Nat) : Int) ≤ N 5; omega) (by show (N 5 - ((n + 1 : Nat) : Int)).toNat < (N 5 - (n : Int)).toNat; omega)
          · refine gB hC _ _ _ _ _ _ _ qX12_oneDay_109 rfl ?_
            refine g_cV0m hC dX12_oneDay_113 mX12_90 vX12_lays (kX12_lays hwn.1 (by omega) (by omega) (by first | omega | exact bI_in _)) rfl hwn.1.1.1 (by decide) rfl (Nat.le_of_ble_eq_true rfl) (RR rfl rfl rfl rfl) (fun z V113 e113 => ?_)
            have hw113 := gMw_wr hwn e113
            refine gB hC _ _ _ _ _ _ _ qX12_oneDay_116 rfl ?_
            rw [hw113.2]
            have hst : odH (od1 N) (n + 1) = upN (odH (od1 N) n) (56 + (n : Int) * 24 + 0) 2 := by rw [odH, if_pos (by omega)]
            rw [← hst]
            exact ih (n + 1) z (by show ((n + 1 : Nat) : Int) ≤ N 5; omega) (by show (N 5 - ((n + 1 : Nat) : Int)).toNat < (N 5 - (n : Int)).toNat; omega)
  · have hs := (hIn.1.2.2.2.1 n (by omega) (by omega)).1
    refine gB hC _ _ _ _ _ _ _ qX12_oneDay_22 rfl ?_
    refine g_cV1i hC dX12_oneDay_25 mX12_43 vX12_of (kX12_of hwn.1 (by omega) (by omega)) rfl hwn.1.1.1 (by decide) rfl (Nat.le_of_ble_eq_true rfl) (RR rfl rfl rfl rfl) (fun z i25 => ?_)
    refine gB hC _ _ _ _ _ _ _ qX12_oneDay_28 rfl ?_
    refine g_icmp_ne hC 51 dX12_oneDay_29 rfl (by first | omega | exact bI_in _) (by first | omega | exact bI_in _) (fun c29 => ?_) (fun c29 => ?_)
    · refine gB hC _ _ _ _ _ _ _ qX12_oneDay_51 rfl ?_
      have hst : odE (od0 N) (n + 1) = odE (od0 N) n := by rw [odE, if_neg (by omega)]
      rw [← hst]
      exact ih (n + 1) z (by show ((n + 1 : Nat) : Int) ≤ N 5; omega) (by show (N 5 - ((n + 1 : Nat) : Int)).toNat < (N 5 - (n : Int)).toNat; omega)
    · refine gB hC _ _ _ _ _ _ _ qX12_oneDay_32 rfl ?_
      refine g_cV1i hC dX12_oneDay_34 mX12_46 vX12_last (kX12_last hwn.1 (by omega) (by omega) (by omega)) rfl hwn.1.1.1 (by decide) rfl (Nat.le_of_ble_eq_true rfl) (RR rfl rfl rfl rfl) (fun z i34 => ?_)
      refine gB hC _ _ _ _ _ _ _ qX12_oneDay_37 rfl ?_
      refine g_getr hC dX12_oneDay_38 fX12_9 hwn.1.1.1 (by decide) rfl 0 rfl hwn.1.2.1.1 ?_
      refine gB hC _ _ _ _ _ _ _ qX12_oneDay_41 rfl ?_
      refine g_iald hC dX12_oneDay_42 hwn.1.1.2.1 (gMd_at hwn.1 _) (by omega) (by omega) (by decide) (fun i42 => ?_)
      refine g_icmp_ge hC 51 dX12_oneDay_43 rfl (by first | omega | exact bI_in _) (by first | omega | exact bI_in _) (fun c43 => ?_) (fun c43 => ?_)
      · refine gB hC _ _ _ _ _ _ _ qX12_oneDay_51 rfl ?_
        have hst : odE (od0 N) (n + 1) = odE (od0 N) n := by rw [odE, if_neg (by omega)]
        rw [← hst]
        exact ih (n + 1) z (by show ((n + 1 : Nat) : Int) ≤ N 5; omega) (by show (N 5 - ((n + 1 : Nat) : Int)).toNat < (N 5 - (n : Int)).toNat; omega)
      · refine gB hC _ _ _ _ _ _ _ qX12_oneDay_46 rfl ?_
        refine g_cV0m hC dX12_oneDay_48 mX12_158 vX12_ends (kX12_ends hwn.1 hIn (by omega) (by omega)) rfl hwn.1.1.1 (by decide) rfl (Nat.le_of_ble_eq_true rfl) (RR rfl rfl rfl rfl) (fun z V48 e48 => ?_)
        have hw48 := gMw_wr hwn e48
        refine gB hC _ _ _ _ _ _ _ qX12_oneDay_51 rfl ?_
        rw [hw48.2]
        have hst : odE (od0 N) (n + 1) = enN (odE (od0 N) n) n := by rw [odE, if_pos (by omega)]
        rw [← hst]
        exact ih (n + 1) z (by show ((n + 1 : Nat) : Int) ≤ N 5; omega) (by show (N 5 - ((n + 1 : Nat) : Int)).toNat < (N 5 - (n : Int)).toNat; omega)

theorem kX12_passes {E l Sh V z} {b : Int} {N : gN0} {days : Int} (hm : gMd b N Sh V) (hI : INV N) (hv0 : 0 ≤ V b 2) (hv1 : V b 2 ≤ 6) (h1 : inI days) : gM E l yX12_passes (.code yX12_passes cX12_passes 3 (some .int)) (rmk 8 0 0 200) [(2, b), (0, days)] Sh V z (gRi (if (fitC (bI ((1 ≤ days ∧ days ≤ 31) ∧ N 0 + days < 36525)) 1 1) = 0 then dateZ (N 0 + days) else 0) Sh (if (fitC (bI ((1 ≤ days ∧ days ≤ 31) ∧ N 0 + days < 36525)) 1 1) = 0 then wrN (kpV (up V b 3 0) b) b (psT N days.toNat) else up V b 3 (fitC (bI ((1 ≤ days ∧ days ≤ 31) ∧ N 0 + days < 36525)) 1 1))) := by
  refine gM_at (L0 := [(2, b), (0, days), (9, 0)]) rfl rfl rfl ?_
  intro p e s m args below meth c hC hr hex hnm hz
  have hsc := hI.1.1
  unfold iScal at hsc
  refine gB hC _ _ _ _ _ _ _ qX12_passes_0 rfl ?_
  refine g_cS1 hC dX12_passes_5 mX12_35 sX12_in (kX12_in (by omega) (by omega) (by omega)) rfl rfl (Nat.le_of_ble_eq_true rfl) (RR rfl rfl rfl rfl) (fun z => ?_)
  refine g_if_eq hC 28 dX12_passes_8 rfl (by first | omega | exact bI_in _) (fun c8 => ?_) (fun c8 => ?_)
  · have c8 := bI_0.mp c8
    refine gB hC _ _ _ _ _ _ _ qX12_passes_28 rfl ?_
    refine gB hC _ _ _ _ _ _ _ qX12_passes_29 rfl ?_
    refine g_cV1m hC dX12_passes_31 mX12_111 vX12_fits (kX12_fitsC (C := (fitC (bI ((1 ≤ days ∧ days ≤ 31) ∧ N 0 + days < 36525)) 1 1)) hm (by first | omega | exact bI_in _) (by first | omega | exact bI_in _) (by first | omega | exact bI_in _) (fit_eq (by first | rfl | exact (bI_t (by omega)).symm | exact (bI_f (by omega)).symm) (by first | rfl | exact (bI_t (by omega)).symm | exact (bI_f (by omega)).symm) (by first | rfl | exact (bI_t (by omega)).symm | exact (bI_f (by omega)).symm))) rfl hm.1.1 (by decide) rfl (Nat.le_of_ble_eq_true rfl) (RR rfl rfl rfl rfl) (fun z V31 e31 => ?_)
    have hm31 := gMd_o hm e31 (Or.inr ⟨rfl, by decide⟩)
    have h231 : V31 b 2 = V b 2 := by rw [e31, up_ne _ _ (Or.inr (by decide))]
    refine g_if_ne hC 39 dX12_passes_34 rfl (by first | omega | exact bI_in _) (fun c34 => ?_) (fun c34 => ?_)
    · exact absurd (bI_n0.mp c34) (fit_n1 (by first | rfl | exact bI_f (by omega)))
    · have cF := bI_0.mp c34
      refine gB hC _ _ _ _ _ _ _ qX12_passes_37 rfl ?_
      refine g_ireturn hC dX12_passes_38 hr ⟨?_, rfl, ?_, ?_⟩ gs_rfl ⟨Nat.le_of_ble_eq_true rfl, Nat.le_of_ble_eq_true rfl⟩
      · rw [if_neg cF]
      · rw [if_neg cF]; exact e31
      · rw [if_neg cF]; decide
  · have c8 := bI_n0.mp c8
    refine gB hC _ _ _ _ _ _ _ qX12_passes_11 rfl ?_
    refine g_getr hC dX12_passes_12 fX12_9 hm.1.1 (by decide) rfl 0 rfl hm.2.1.1 ?_
    refine gB hC _ _ _ _ _ _ _ qX12_passes_15 rfl ?_
    refine g_iald hC dX12_passes_16 hm.1.2.1 (gMd_at hm _) (by omega) (by omega) (by decide) (fun i16 => ?_)
    refine gB hC _ _ _ _ _ _ _ qX12_passes_17 rfl ?_
    refine g_ldc hC 36525 kX12_132 rfl dX12_passes_19 ?_
    refine g_icmp_ge hC 28 dX12_passes_21 rfl (by first | omega | exact bI_in _) (by first | omega | exact bI_in _) (fun c21 => ?_) (fun c21 => ?_)
    · refine gB hC _ _ _ _ _ _ _ qX12_passes_28 rfl ?_
      refine gB hC _ _ _ _ _ _ _ qX12_passes_29 rfl ?_
      refine g_cV1m hC dX12_passes_31 mX12_111 vX12_fits (kX12_fitsC (C := (fitC (bI ((1 ≤ days ∧ days ≤ 31) ∧ N 0 + days < 36525)) 1 1)) hm (by first | omega | exact bI_in _) (by first | omega | exact bI_in _) (by first | omega | exact bI_in _) (fit_eq (by first | rfl | exact (bI_t (by omega)).symm | exact (bI_f (by omega)).symm) (by first | rfl | exact (bI_t (by omega)).symm | exact (bI_f (by omega)).symm) (by first | rfl | exact (bI_t (by omega)).symm | exact (bI_f (by omega)).symm))) rfl hm.1.1 (by decide) rfl (Nat.le_of_ble_eq_true rfl) (RR rfl rfl rfl rfl) (fun z V31 e31 => ?_)
      have hm31 := gMd_o hm e31 (Or.inr ⟨rfl, by decide⟩)
      have h231 : V31 b 2 = V b 2 := by rw [e31, up_ne _ _ (Or.inr (by decide))]
      refine g_if_ne hC 39 dX12_passes_34 rfl (by first | omega | exact bI_in _) (fun c34 => ?_) (fun c34 => ?_)
      · exact absurd (bI_n0.mp c34) (fit_n1 (by first | rfl | exact bI_f (by omega)))
      · have cF := bI_0.mp c34
        refine gB hC _ _ _ _ _ _ _ qX12_passes_37 rfl ?_
        refine g_ireturn hC dX12_passes_38 hr ⟨?_, rfl, ?_, ?_⟩ gs_rfl ⟨Nat.le_of_ble_eq_true rfl, Nat.le_of_ble_eq_true rfl⟩
        · rw [if_neg cF]
        · rw [if_neg cF]; exact e31
        · rw [if_neg cF]; decide
    · refine gB hC _ _ _ _ _ _ _ qX12_passes_24 rfl ?_
      refine gB hC _ _ _ _ _ _ _ qX12_passes_29 rfl ?_
      refine g_cV1m hC dX12_passes_31 mX12_111 vX12_fits (kX12_fitsC (C := (fitC (bI ((1 ≤ days ∧ days ≤ 31) ∧ N 0 + days < 36525)) 1 1)) hm (by first | omega | exact bI_in _) (by first | omega | exact bI_in _) (by first | omega | exact bI_in _) (fit_eq (by first | rfl | exact (bI_t (by omega)).symm | exact (bI_f (by omega)).symm) (by first | rfl | exact (bI_t (by omega)).symm | exact (bI_f (by omega)).symm) (by first | rfl | exact (bI_t (by omega)).symm | exact (bI_f (by omega)).symm))) rfl hm.1.1 (by decide) rfl (Nat.le_of_ble_eq_true rfl) (RR rfl rfl rfl rfl) (fun z V31 e31 => ?_)
      have hm31 := gMd_o hm e31 (Or.inr ⟨rfl, by decide⟩)
      have h231 : V31 b 2 = V b 2 := by rw [e31, up_ne _ _ (Or.inr (by decide))]
      refine g_if_ne hC 39 dX12_passes_34 rfl (by first | omega | exact bI_in _) (fun c34 => ?_) (fun c34 => ?_)
      · have cF := bI_n0.mp c34
        have hp1 := fit_p1 cF
        have hdz := dateZ_in (d := N 0 + days) (by omega) (by omega)
        refine gB hC _ _ _ _ _ _ _ qX12_passes_39 rfl ?_
        refine g_cV0m hC dX12_passes_40 mX12_115 vX12_keeps (kX12_keeps hm31 (by omega) (by omega)) rfl hm31.1.1 (by decide) rfl (Nat.le_of_ble_eq_true rfl) (RR rfl rfl rfl rfl) (fun z V40 e40 => ?_)
        have hm40 := gMd_kp hm31 e40
        refine gB hC _ _ _ _ _ _ _ qX12_passes_43 rfl ?_
        have hV0 : V40 = wrN V40 b N := wrN_self hm40
        rw [hV0]
        refine g_loop (fun x : Nat => (x : Int) ≤ days) (fun x => (days - (x : Int)).toNat) 45 (fun x => [(2, b), (0, days), (0, (x : Int))]) (fun x => wrN V40 b (psT N x)) 0 (by show (0 : Int) ≤ days; omega) ?_
        rintro n z hn ih
        have hwn : gMw b V40 (psT N n) Sh (wrN V40 b (psT N n)) := ⟨gMd_w hm40 rfl, rfl⟩
        obtain ⟨hIn, e0⟩ := psT_inv hI n (by omega)
        refine gB hC _ _ _ _ _ _ _ qX12_passes_45 rfl ?_
        refine g_icmp_ge hC 60 dX12_passes_47 rfl (by first | omega | exact bI_in _) (by first | omega | exact bI_in _) (fun c47 => ?_) (fun c47 => ?_)
        · obtain rfl : n = days.toNat := by omega
          refine gB hC _ _ _ _ _ _ _ qX12_passes_60 rfl ?_
          refine g_getr hC dX12_passes_61 fX12_9 hwn.1.1.1 (by decide) rfl 0 rfl hwn.1.2.1.1 ?_
          refine gB hC _ _ _ _ _ _ _ qX12_passes_64 rfl ?_
          refine g_iald hC dX12_passes_65 hwn.1.1.2.1 (gMd_at hwn.1 _) (by omega) (by omega) (by decide) (fun i65 => ?_)
          rw [e0, show N 0 + ((days.toNat : Nat) : Int) = N 0 + days by omega]
          refine g_cS1i hC dX12_passes_66 mX12_66 sX12_dateOf (kX12_dateOf (by omega) (by omega)) rfl rfl (Nat.le_of_ble_eq_true rfl) (RR rfl rfl rfl rfl) (fun z i66 => ?_)
          refine g_ireturn hC dX12_passes_69 hr ⟨?_, rfl, ?_, ?_⟩ gs_rfl ⟨Nat.le_of_ble_eq_true rfl, Nat.le_of_ble_eq_true rfl⟩
          · rw [if_pos cF]
          · rw [if_pos cF, hwn.2, e40, e31, cF]
            first | done | rfl
          · rw [if_pos cF]
            omega
        · refine gB hC _ _ _ _ _ _ _ qX12_passes_50 rfl ?_
          refine g_cV0m hC dX12_passes_51 mX12_165 vX12_oneDay (kX12_oneDay hwn.1 hIn (by omega)) rfl hwn.1.1.1 (by decide) rfl (Nat.le_of_ble_eq_true rfl) (RR rfl rfl rfl rfl) (fun z V51 e51 => ?_)
          have hw51 := gMw_wr hwn e51
          refine gB hC _ _ _ _ _ _ _ qX12_passes_54 rfl ?_
          rw [hw51.2]
          exact ih (n + 1) z (by show ((n + 1 : Nat) : Int) ≤ days; omega) (by show (days - ((n + 1 : Nat) : Int)).toNat < (days - (n : Int)).toNat; omega)
      · exact absurd (fit_ok (by first | rfl | exact bI_t (by omega)) (by first | rfl | exact bI_t (by omega)) (by first | rfl | exact bI_t (by omega))) (bI_0.mp c34)

theorem kX12_setOdds {E l Sh V z} {b : Int} {N : gN0} {sort price odds : Int} (hm : gMd b N Sh V) (hI : INV N) (hv0 : 0 ≤ V b 2) (hv1 : V b 2 ≤ 6) (h1 : inI sort) (h2 : inI price) (h3 : inI odds) : gM E l yX12_setOdds (.code yX12_setOdds cX12_setOdds 6 (some .int)) (rmk 8 0 0 200) [(2, b), (0, sort), (0, price), (0, odds)] Sh V z (gRi (if (fitC (bI (0 ≤ sort ∧ sort ≤ 3)) (bI ((0 ≤ price ∧ price ≤ 100000) ∧ (0 ≤ odds ∧ odds ≤ 1000) ∧ otT N sort 4 + odds ≤ 1000)) 1) = 0 then otT N sort 4 + odds else 0) Sh (if (fitC (bI (0 ≤ sort ∧ sort ≤ 3)) (bI ((0 ≤ price ∧ price ≤ 100000) ∧ (0 ≤ odds ∧ odds ≤ 1000) ∧ otT N sort 4 + odds ≤ 1000)) 1) = 0 then wrN (kpV (up V b 3 0) b) b (upN (upN N (17 + sort) price) (13 + sort) odds) else up V b 3 (fitC (bI (0 ≤ sort ∧ sort ≤ 3)) (bI ((0 ≤ price ∧ price ≤ 100000) ∧ (0 ≤ odds ∧ odds ≤ 1000) ∧ otT N sort 4 + odds ≤ 1000)) 1))) := by
  refine gM_at (L0 := [(2, b), (0, sort), (0, price), (0, odds), (9, 0), (9, 0)]) rfl rfl rfl ?_
  intro p e s m args below meth c hC hr hex hnm hz
  have hsc := hI.1.1
  unfold iScal at hsc
  have hot := otT_in hI.2.2 sort
  refine gB hC _ _ _ _ _ _ _ qX12_setOdds_0 rfl ?_
  refine g_loop (fun x : Nat => x ≤ 4) (fun x => 4 - x) 6 (fun x => [(2, b), (0, sort), (0, price), (0, odds), (0, otT N sort x), (0, (x : Int))]) (fun _ => V) 0 (by decide) ?_
  rintro n z hn ih
  refine gB hC _ _ _ _ _ _ _ qX12_setOdds_6 rfl ?_
  refine g_icmp_ge hC 43 dX12_setOdds_9 rfl (by first | omega | exact bI_in _) (by first | omega | exact bI_in _) (fun c9 => ?_) (fun c9 => ?_)
  · obtain rfl : n = 4 := by omega
    refine gB hC _ _ _ _ _ _ _ qX12_setOdds_43 rfl ?_
    refine g_cS1 hC dX12_setOdds_47 mX12_35 sX12_in (kX12_in (by omega) (by omega) (by omega)) rfl rfl (Nat.le_of_ble_eq_true rfl) (RR rfl rfl rfl rfl) (fun z => ?_)
    refine gB hC _ _ _ _ _ _ _ qX12_setOdds_50 rfl ?_
    refine g_ldc hC 100000 kX12_110 rfl dX12_setOdds_52 ?_
    refine g_cS1 hC dX12_setOdds_54 mX12_35 sX12_in (kX12_in (by omega) (by omega) (by omega)) rfl rfl (Nat.le_of_ble_eq_true rfl) (RR rfl rfl rfl rfl) (fun z => ?_)
    refine g_if_eq hC 85 dX12_setOdds_57 rfl (by first | omega | exact bI_in _) (fun c57 => ?_) (fun c57 => ?_)
    · have c57 := bI_0.mp c57
      refine gB hC _ _ _ _ _ _ _ qX12_setOdds_85 rfl ?_
      refine gB hC _ _ _ _ _ _ _ qX12_setOdds_86 rfl ?_
      refine g_cV1m hC dX12_setOdds_87 mX12_111 vX12_fits (kX12_fitsC (C := (fitC (bI (0 ≤ sort ∧ sort ≤ 3)) (bI ((0 ≤ price ∧ price ≤ 100000) ∧ (0 ≤ odds ∧ odds ≤ 1000) ∧ otT N sort 4 + odds ≤ 1000)) 1)) hm (by first | omega | exact bI_in _) (by first | omega | exact bI_in _) (by first | omega | exact bI_in _) (fit_eq (by first | rfl | exact (bI_t (by omega)).symm | exact (bI_f (by omega)).symm) (by first | rfl | exact (bI_t (by omega)).symm | exact (bI_f (by omega)).symm) (by first | rfl | exact (bI_t (by omega)).symm | exact (bI_f (by omega)).symm))) rfl hm.1.1 (by decide) rfl (Nat.le_of_ble_eq_true rfl) (RR rfl rfl rfl rfl) (fun z V87 e87 => ?_)
      have hm87 := gMd_o hm e87 (Or.inr ⟨rfl, by decide⟩)
      have h287 : V87 b 2 = V b 2 := by rw [e87, up_ne _ _ (Or.inr (by decide))]
      refine g_if_ne hC 95 dX12_setOdds_90 rfl (by first | omega | exact bI_in _) (fun c90 => ?_) (fun c90 => ?_)
      · exact absurd (bI_n0.mp c90) (fit_n2 (by first | rfl | exact bI_f (by omega)))
      · have cF := bI_0.mp c90
        refine gB hC _ _ _ _ _ _ _ qX12_setOdds_93 rfl ?_
        refine g_ireturn hC dX12_setOdds_94 hr ⟨?_, rfl, ?_, ?_⟩ gs_rfl ⟨Nat.le_of_ble_eq_true rfl, Nat.le_of_ble_eq_true rfl⟩
        · rw [if_neg cF]
        · rw [if_neg cF]; exact e87
        · rw [if_neg cF]; decide
    · have c57 := bI_n0.mp c57
      refine gB hC _ _ _ _ _ _ _ qX12_setOdds_60 rfl ?_
      refine g_cS1 hC dX12_setOdds_65 mX12_35 sX12_in (kX12_in (by omega) (by omega) (by omega)) rfl rfl (Nat.le_of_ble_eq_true rfl) (RR rfl rfl rfl rfl) (fun z => ?_)
      refine g_if_eq hC 85 dX12_setOdds_68 rfl (by first | omega | exact bI_in _) (fun c68 => ?_) (fun c68 => ?_)
      · have c68 := bI_0.mp c68
        refine gB hC _ _ _ _ _ _ _ qX12_setOdds_85 rfl ?_
        refine gB hC _ _ _ _ _ _ _ qX12_setOdds_86 rfl ?_
        refine g_cV1m hC dX12_setOdds_87 mX12_111 vX12_fits (kX12_fitsC (C := (fitC (bI (0 ≤ sort ∧ sort ≤ 3)) (bI ((0 ≤ price ∧ price ≤ 100000) ∧ (0 ≤ odds ∧ odds ≤ 1000) ∧ otT N sort 4 + odds ≤ 1000)) 1)) hm (by first | omega | exact bI_in _) (by first | omega | exact bI_in _) (by first | omega | exact bI_in _) (fit_eq (by first | rfl | exact (bI_t (by omega)).symm | exact (bI_f (by omega)).symm) (by first | rfl | exact (bI_t (by omega)).symm | exact (bI_f (by omega)).symm) (by first | rfl | exact (bI_t (by omega)).symm | exact (bI_f (by omega)).symm))) rfl hm.1.1 (by decide) rfl (Nat.le_of_ble_eq_true rfl) (RR rfl rfl rfl rfl) (fun z V87 e87 => ?_)
        have hm87 := gMd_o hm e87 (Or.inr ⟨rfl, by decide⟩)
        have h287 : V87 b 2 = V b 2 := by rw [e87, up_ne _ _ (Or.inr (by decide))]
        refine g_if_ne hC 95 dX12_setOdds_90 rfl (by first | omega | exact bI_in _) (fun c90 => ?_) (fun c90 => ?_)
        · exact absurd (bI_n0.mp c90) (fit_n2 (by first | rfl | exact bI_f (by omega)))
        · have cF := bI_0.mp c90
          refine gB hC _ _ _ _ _ _ _ qX12_setOdds_93 rfl ?_
          refine g_ireturn hC dX12_setOdds_94 hr ⟨?_, rfl, ?_, ?_⟩ gs_rfl ⟨Nat.le_of_ble_eq_true rfl, Nat.le_of_ble_eq_true rfl⟩
          · rw [if_neg cF]
          · rw [if_neg cF]; exact e87
          · rw [if_neg cF]; decide
      · have c68 := bI_n0.mp c68
        refine gB hC _ _ _ _ _ _ _ qX12_setOdds_71 rfl ?_
        refine g_icmp_gt hC 85 dX12_setOdds_78 rfl (by first | omega | exact bI_in _) (by first | omega | exact bI_in _) (fun c78 => ?_) (fun c78 => ?_)
        · refine gB hC _ _ _ _ _ _ _ qX12_setOdds_85 rfl ?_
          refine gB hC _ _ _ _ _ _ _ qX12_setOdds_86 rfl ?_
          refine g_cV1m hC dX12_setOdds_87 mX12_111 vX12_fits (kX12_fitsC (C := (fitC (bI (0 ≤ sort ∧ sort ≤ 3)) (bI ((0 ≤ price ∧ price ≤ 100000) ∧ (0 ≤ odds ∧ odds ≤ 1000) ∧ otT N sort 4 + odds ≤ 1000)) 1)) hm (by first | omega | exact bI_in _) (by first | omega | exact bI_in _) (by first | omega | exact bI_in _) (fit_eq (by first | rfl | exact (bI_t (by omega)).symm | exact (bI_f (by omega)).symm) (by first | rfl | exact (bI_t (by omega)).symm | exact (bI_f (by omega)).symm) (by first | rfl | exact (bI_t (by omega)).symm | exact (bI_f (by omega)).symm))) rfl hm.1.1 (by decide) rfl (Nat.le_of_ble_eq_true rfl) (RR rfl rfl rfl rfl) (fun z V87 e87 => ?_)
          have hm87 := gMd_o hm e87 (Or.inr ⟨rfl, by decide⟩)
          have h287 : V87 b 2 = V b 2 := by rw [e87, up_ne _ _ (Or.inr (by decide))]
          refine g_if_ne hC 95 dX12_setOdds_90 rfl (by first | omega | exact bI_in _) (fun c90 => ?_) (fun c90 => ?_)
          · exact absurd (bI_n0.mp c90) (fit_n2 (by first | rfl | exact bI_f (by omega)))
          · have cF := bI_0.mp c90
            refine gB hC _ _ _ _ _ _ _ qX12_setOdds_93 rfl ?_
            refine g_ireturn hC dX12_setOdds_94 hr ⟨?_, rfl, ?_, ?_⟩ gs_rfl ⟨Nat.le_of_ble_eq_true rfl, Nat.le_of_ble_eq_true rfl⟩
            · rw [if_neg cF]
            · rw [if_neg cF]; exact e87
            · rw [if_neg cF]; decide
        · refine gB hC _ _ _ _ _ _ _ qX12_setOdds_81 rfl ?_
          refine gB hC _ _ _ _ _ _ _ qX12_setOdds_86 rfl ?_
          refine g_cV1m hC dX12_setOdds_87 mX12_111 vX12_fits (kX12_fitsC (C := (fitC (bI (0 ≤ sort ∧ sort ≤ 3)) (bI ((0 ≤ price ∧ price ≤ 100000) ∧ (0 ≤ odds ∧ odds ≤ 1000) ∧ otT N sort 4 + odds ≤ 1000)) 1)) hm (by first | omega | exact bI_in _) (by first | omega | exact bI_in _) (by first | omega | exact bI_in _) (fit_eq (by first | rfl | exact (bI_t (by omega)).symm | exact (bI_f (by omega)).symm) (by first | rfl | exact (bI_t (by omega)).symm | exact (bI_f (by omega)).symm) (by first | rfl | exact (bI_t (by omega)).symm | exact (bI_f (by omega)).symm))) rfl hm.1.1 (by decide) rfl (Nat.le_of_ble_eq_true rfl) (RR rfl rfl rfl rfl) (fun z V87 e87 => ?_)
          have hm87 := gMd_o hm e87 (Or.inr ⟨rfl, by decide⟩)
          have h287 : V87 b 2 = V b 2 := by rw [e87, up_ne _ _ (Or.inr (by decide))]
          refine g_if_ne hC 95 dX12_setOdds_90 rfl (by first | omega | exact bI_in _) (fun c90 => ?_) (fun c90 => ?_)
          · have cF := bI_n0.mp c90
            have hp1 := fit_p1 cF
            have hp2 := fit_p2 cF
            refine gB hC _ _ _ _ _ _ _ qX12_setOdds_95 rfl ?_
            refine g_cV0m hC dX12_setOdds_96 mX12_115 vX12_keeps (kX12_keeps hm87 (by omega) (by omega)) rfl hm87.1.1 (by decide) rfl (Nat.le_of_ble_eq_true rfl) (RR rfl rfl rfl rfl) (fun z V96 e96 => ?_)
            have hm96 := gMd_kp hm87 e96
            refine gB hC _ _ _ _ _ _ _ qX12_setOdds_99 rfl ?_
            refine g_getr hC dX12_setOdds_100 fX12_9 hm96.1.1 (by decide) rfl 0 rfl hm96.2.1.1 ?_
            refine gB hC _ _ _ _ _ _ _ qX12_setOdds_103 rfl ?_
            refine g_ast hC dX12_setOdds_108 hm96.1.2.1 (by omega) (by omega) (by decide) (by first | omega | exact bI_in _) (fun V108 e108 => ?_)
            have hw108 := gMw_up (gMw_in hm96) e108
            refine gB hC _ _ _ _ _ _ _ qX12_setOdds_109 rfl ?_
            refine g_getr hC dX12_setOdds_110 fX12_9 hw108.1.1.1 (by decide) rfl 0 rfl hw108.1.2.1.1 ?_
            refine gB hC _ _ _ _ _ _ _ qX12_setOdds_113 rfl ?_
            refine g_ast hC dX12_setOdds_118 hw108.1.1.2.1 (by omega) (by omega) (by decide) (by first | omega | exact bI_in _) (fun V118 e118 => ?_)
            have hw118 := gMw_up hw108 e118
            refine gB hC _ _ _ _ _ _ _ qX12_setOdds_119 rfl ?_
            refine g_ireturn hC dX12_setOdds_123 hr ⟨?_, rfl, ?_, ?_⟩ gs_rfl ⟨Nat.le_of_ble_eq_true rfl, Nat.le_of_ble_eq_true rfl⟩
            · rw [if_pos cF]
            · rw [if_pos cF, hw118.2, e96, e87, cF]
              first | done | rfl
            · rw [if_pos cF]
              omega
          · have cF := bI_0.mp c90
            refine gB hC _ _ _ _ _ _ _ qX12_setOdds_93 rfl ?_
            refine g_ireturn hC dX12_setOdds_94 hr ⟨?_, rfl, ?_, ?_⟩ gs_rfl ⟨Nat.le_of_ble_eq_true rfl, Nat.le_of_ble_eq_true rfl⟩
            · rw [if_neg cF]
            · rw [if_neg cF]; exact e87
            · rw [if_neg cF]; decide
  · refine gB hC _ _ _ _ _ _ _ qX12_setOdds_12 rfl ?_
    refine g_icmp_eq hC 33 dX12_setOdds_17 rfl (by first | omega | exact bI_in _) (by first | omega | exact bI_in _) (fun c17 => ?_) (fun c17 => ?_)
    · refine gB hC _ _ _ _ _ _ _ qX12_setOdds_33 rfl ?_
      refine gB hC _ _ _ _ _ _ _ qX12_setOdds_34 rfl ?_
      have h9 := ih (n + 1) z (by omega) (by omega)
      first | (rw [show otT N sort (n + 1) = otT N sort n + N (13 + n) by rw [otT, if_pos (by omega)]] at h9; exact h9) | (rw [show otT N sort (n + 1) = otT N sort n + 0 by rw [otT, if_neg (by omega)]] at h9; exact h9)
    · refine gB hC _ _ _ _ _ _ _ qX12_setOdds_20 rfl ?_
      refine g_getr hC dX12_setOdds_21 fX12_9 hm.1.1 (by decide) rfl 0 rfl hm.2.1.1 ?_
      refine gB hC _ _ _ _ _ _ _ qX12_setOdds_24 rfl ?_
      refine g_iald hC dX12_setOdds_29 hm.1.2.1 (gMd_at hm _) (by omega) (by omega) (by decide) (fun i29 => ?_)
      refine gB hC _ _ _ _ _ _ _ qX12_setOdds_30 rfl ?_
      refine gB hC _ _ _ _ _ _ _ qX12_setOdds_34 rfl ?_
      have h9 := ih (n + 1) z (by omega) (by omega)
      first | (rw [show otT N sort (n + 1) = otT N sort n + N (13 + n) by rw [otT, if_pos (by omega)]] at h9; exact h9) | (rw [show otT N sort (n + 1) = otT N sort n + 0 by rw [otT, if_neg (by omega)]] at h9; exact h9)

theorem kX12_undo {E l Sh V z} {b : Int} {N : gN0} (hm : gMd b N Sh V) (hv0 : 0 ≤ V b 2) (hv1 : V b 2 ≤ 6) : gM E l yX12_undo (.code yX12_undo cX12_undo 1 (some .int)) (rmk 1 0 0 40) [(2, b)] Sh V z (gRi (V b 2 - 1) Sh (if V b 2 = 0 then up V b 3 0 else wrN (up (up V b 3 0) b 2 (V b 2 - 1)) b (unN V b N))) := by
  refine gM_at (L0 := [(2, b)]) rfl rfl rfl ?_
  intro p e s m args below meth c hC hr hex hnm hz
  refine gB hC _ _ _ _ _ _ _ qX12_undo_0 rfl ?_
  refine g_puti hC dX12_undo_2 fX12_31 hm.1.1 (by decide) rfl (fun _ h => by cases h; rfl) 3 rfl (by first | omega | exact bI_in _) (fun V2 e2 => ?_)
  have hm2 := gMd_o hm e2 (Or.inr ⟨rfl, by decide⟩)
  have h22 : V2 b 2 = V b 2 := by rw [e2, up_ne _ _ (Or.inr (by decide))]
  refine gB hC _ _ _ _ _ _ _ qX12_undo_5 rfl ?_
  refine g_geti hC dX12_undo_6 fX12_101 hm2.1.1 (by decide) rfl 2 rfl (fun i6 => ?_)
  refine g_if_ne hC 14 dX12_undo_9 rfl (by first | omega | exact bI_in _) (fun c9 => ?_) (fun c9 => ?_)
  · refine gB hC _ _ _ _ _ _ _ qX12_undo_14 rfl ?_
    refine g_geti hC dX12_undo_16 fX12_101 hm2.1.1 (by decide) rfl 2 rfl (fun i16 => ?_)
    refine gB hC _ _ _ _ _ _ _ qX12_undo_19 rfl ?_
    refine g_puti hC dX12_undo_21 fX12_101 hm2.1.1 (by decide) rfl (fun _ h => by cases h; rfl) 2 rfl (by first | omega | exact bI_in _) (fun V21 e21 => ?_)
    have hm21 := gMd_o hm2 e21 (Or.inr ⟨rfl, by decide⟩)
    have h212 : V21 b 2 = V b 2 - 1 := by rw [e21, up_eq, h22]
    have h21r : ∀ j, V21 (b + 2) j = V (b + 2) j := by intro j; rw [e21, up_ne _ _ (Or.inl (by omega)), e2, up_ne _ _ (Or.inl (by omega))]
    refine gB hC _ _ _ _ _ _ _ qX12_undo_24 rfl ?_
    refine g_getr hC dX12_undo_25 fX12_13 hm21.1.1 (by decide) rfl 1 rfl hm21.2.1.2.1 ?_
    refine gB hC _ _ _ _ _ _ _ qX12_undo_28 rfl ?_
    refine g_geti hC dX12_undo_29 fX12_101 hm21.1.1 (by decide) rfl 2 rfl (fun i29 => ?_)
    refine gB hC _ _ _ _ _ _ _ qX12_undo_32 rfl ?_
    refine g_getr hC dX12_undo_37 fX12_9 hm21.1.1 (by decide) rfl 0 rfl hm21.2.1.1 ?_
    refine gB hC _ _ _ _ _ _ _ qX12_undo_40 rfl ?_
    refine g_copy_int hC dX12_undo_44 mX12_104 gCpN gCpS gCpI hm21.1.2.2.1 hm21.1.2.1 ⟨by decide, by decide⟩ (by omega) (by decide) (by decide) (by omega) (by decide) ⟨Nat.le_of_ble_eq_true rfl, Nat.le_of_ble_eq_true rfl⟩ ?_
    have hwB := gMw_un (V := V) hm21 h21r (sp := V21 b 2 * 5022) (by omega)
    generalize eB : cpV V21 (b + 2) _ (b + 1) 0 5022 = VB at hwB ⊢
    have hB2 : VB b 2 = V b 2 - 1 := by rw [hwB.2]; unfold wrN; rw [if_neg (by omega)]; exact h212
    refine gB hC _ _ _ _ _ _ _ qX12_undo_47 rfl ?_
    refine g_geti hC dX12_undo_48 fX12_101 hwB.1.1.1 (by decide) rfl 2 rfl (fun i48 => ?_)
    refine g_ireturn hC dX12_undo_51 hr ⟨?_, rfl, ?_, by omega⟩ gs_rfl ⟨Nat.le_of_ble_eq_true rfl, Nat.le_of_ble_eq_true rfl⟩
    · rw [hB2]
    · rw [if_neg (by omega), hwB.2, e21, h22, e2]
  · refine gB hC _ _ _ _ _ _ _ qX12_undo_12 rfl ?_
    refine g_ireturn hC dX12_undo_13 hr ⟨?_, rfl, ?_, by omega⟩ gs_rfl ⟨Nat.le_of_ble_eq_true rfl, Nat.le_of_ble_eq_true rfl⟩
    · congr 3; omega
    · rw [if_pos (by omega), e2]
