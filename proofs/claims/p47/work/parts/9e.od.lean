/-! a day passes: what it keeps, ends and late ones in one round; a law's world beside the class (laid by wip/p47/g9e.py) -/
theorem stN_eq (N : gN0) (s st : Int) : stN N s st = upN N (56 + s * 24 + 0) st := rfl
theorem LI_od0 {n : Int} {N : gN0} (h : LI n N) (ht : N 0 + 1 ≤ 36524) : LI (n + 1) (od0 N) := by
  have hI := (od_all h.1 ht).1
  have h2 := LI_mono h (show n ≤ n + 1 by omega)
  have e : ∀ j, j ≠ 0 → od0 N j = N j := fun j hj => upN_ne hj
  have hsc := h.1.1.1
  unfold iScal at hsc
  refine LI_of h2 hI (fun j hj => e j (by omega)) (by show upN N 0 (N 0 + 1) 0 ≤ _; rw [upN_eq]; have := h.2.1.2.2.2.2.1; omega) (fun t t0 t1 => ?_) (fun y y0 y1 => ?_) (fun j j0 j1 => by rw [e j (by omega)]; exact h.2.2.2.2 j j0 j1)
  · rw [e 5 (by decide)] at t1
    have ef : ∀ j, 0 ≤ j → j < 24 → sF (od0 N) t j = sF N t j := fun j j0 j1 => e _ (by omega)
    rw [ef 2 (by decide) (by decide), ef 0 (by decide) (by decide), ef 6 (by decide) (by decide)]
    exact h2.2.2.1 t t0 t1
  · rw [e 7 (by decide)] at y1
    have ef : ∀ j, 0 ≤ j → j < 5 → gF (od0 N) y j = gF N y j := fun j j0 j1 => e _ (by omega)
    rw [ef 1 (by decide) (by decide), ef 2 (by decide) (by decide)]
    exact h2.2.2.2.1 y y0 y1
theorem sF_st {N : gN0} {s st w : Int} (hw : w ≠ 0) : sF (upN N (56 + s * 24 + 0) st) s w = sF N s w := upN_ne (by omega)
theorem enN_s (N : gN0) {s w : Int} (hs : 0 ≤ s) (hw : w ≠ 0) (w0 : 0 ≤ w) : sF (enN N s) s w = sF N s w ∧ sF (enN N s) s 0 = 4 := by
  refine ⟨?_, upN_eq _ _ _⟩
  show enN N s (56 + s * 24 + w) = N (56 + s * 24 + w)
  unfold enN
  rw [upN_ne (by omega), upN_ne (by omega), upN_ne (by omega), upN_ne (by omega), upN_ne (by omega)]
theorem LI_odE {n : Int} {N : gN0} (h : LI n N) : ∀ k : Nat, (k : Int) ≤ N 5 → LI n (odE N k) := by
  intro k
  induction k with
  | zero => intro _; exact h
  | succ k ih =>
    intro hk
    have hi := ih (by omega)
    have hv := odE_inv h.1 k (by omega)
    have e5 : odE N k 5 = N 5 := hv.2 5 (by omega)
    have hl := hi.2.2.1 k (by omega) (by omega)
    rw [odE]
    split
    · rename_i hc
      exact LI_T hi (enN_inv hv.1 (by omega) (by omega) hc.1) (enN_ag _ _) (by omega) (by omega) ⟨by rw [(enN_s _ (by omega) (by decide) (by decide)).1]; exact hl.1, fun h0 => by rw [(enN_s (w := 6) _ (by omega) (by decide) (by decide)).2] at h0; exact absurd h0 (by decide)⟩
    · exact hi
theorem LI_odH {n : Int} {N : gN0} (h : LI n N) : ∀ k : Nat, (k : Int) ≤ N 5 → LI n (odH N k) := by
  intro k
  induction k with
  | zero => intro _; exact h
  | succ k ih =>
    intro hk
    have hi := ih (by omega)
    have hv := odH_inv h.1 k (by omega)
    have e5 : odH N k 5 = N 5 := hv.2 5 (by omega)
    have hl := hi.2.2.1 k (by omega) (by omega)
    rw [odH]
    split
    · rename_i hc
      rw [← stN_eq]
      exact LI_T hi (INV_st hv.1 (by omega) (by omega) (by decide) (by decide) (by rw [hc.1]; decide)) (stN_ag _ _ _) (by omega) (by omega) ⟨by rw [stN_w _ _ _ (by decide)]; exact hl.1, fun h0 => by rw [stN_0] at h0; exact absurd h0 (by decide)⟩
    · exact hi
theorem sdN_s (N : gN0) {s w : Int} (hs : 0 ≤ s) (hw : w ≠ 0) (w0 : 0 ≤ w) : sF (sdN N s) s w = sF N s w ∧ sF (sdN N s) s 0 = 3 := by
  refine ⟨?_, upN_eq _ _ _⟩
  show sdN N s (56 + s * 24 + w) = N (56 + s * 24 + w)
  unfold sdN
  rw [upN_ne (by omega)]
  exact mvN_far N (by omega) (by omega) (by omega)
theorem LI_whS {n k : Int} (k0 : 0 ≤ k) (k1 : k < 2) : ∀ (q : Nat) (N : gN0), LI n N → LI n (whS k q N) := by
  intro q
  induction q with
  | zero => intro N h; exact h
  | succ q ih =>
    intro N h
    rw [whS]
    split
    · rename_i hc
      have hst := sd_step h.1 (k := k) k0 (by rw [h.2.1.1]; exact k1) hc
      have hl := h.2.2.1 _ hst.1 hst.2.1
      exact ih _ (LI_T h hst.2.2.1 (sdN_ag _ _) hst.1 hst.2.1 ⟨by rw [(sdN_s _ hst.1 (by decide) (by decide)).1]; exact hl.1, fun h0 => by rw [(sdN_s (w := 6) _ hst.1 (by decide) (by decide)).2] at h0; exact absurd h0 (by decide)⟩)
    · exact h
theorem LI_kdT {n : Int} {N : gN0} (h : LI n N) : ∀ k : Nat, (k : Int) ≤ 2 → LI n (kdT N k) := by
  intro k
  induction k with
  | zero => intro _; exact h
  | succ k ih => intro hk; exact LI_whS (by omega) (by omega) 61 _ (ih (by omega))
theorem LI_od3 {n : Int} {N : gN0} (h : LI n N) (ht : N 0 + 1 ≤ 36524) : LI (n + 1) (od0 N) ∧ LI (n + 1) (od2 N) ∧ LI (n + 1) (od3 N) := by
  have hsc := h.1.1.1
  unfold iScal at hsc
  have h0 := LI_od0 h ht
  have e5 : od0 N 5 = N 5 := upN_ne (by decide)
  have h1 : LI (n + 1) (od1 N) := LI_odE h0 _ (by omega)
  have e51 : od1 N 5 = N 5 := ((od_all h.1 ht).2.1.2 5 (by omega)).trans e5
  have h2 : LI (n + 1) (od2 N) := LI_odH h1 _ (by omega)
  exact ⟨h0, h2, LI_kdT h2 _ (by rw [h.2.1.1]; decide)⟩
/-- ends and late ones, stay by stay -/
def stE (N : gN0) (s : Int) : gN0 := if sF N s 0 = 1 ∧ sF N s 2 + sF N s 3 - 1 < N 0 then enN N s else N
def stH (N : gN0) (s : Int) : gN0 := if sF N s 0 = 0 ∧ (sF N s 9 < N 0 ∨ sF N s 2 ≤ N 0) then upN N (56 + s * 24 + 0) 2 else N
def odI (N : gN0) : Nat → gN0
  | 0 => N
  | n + 1 => stH (stE (odI N n) n) n
theorem odE_st (N : gN0) (n : Nat) : odE N (n + 1) = stE (odE N n) n := rfl
theorem odH_st (N : gN0) (n : Nat) : odH N (n + 1) = stH (odH N n) n := rfl
theorem upN_comm (N : gN0) {a b x y : Int} (h : a ≠ b) : upN (upN N a x) b y = upN (upN N b y) a x := by
  funext j
  unfold upN
  by_cases h1 : j = b
  · by_cases h2 : j = a
    · omega
    · rw [if_pos h1, if_neg h2, if_pos h1]
  · rw [if_neg h1]
    by_cases h2 : j = a
    · rw [if_pos h2, if_pos h2]
    · rw [if_neg h2, if_neg h2, if_neg h1]
theorem enN_up {N : gN0} {s m : Int} (h : s ≠ m) (h3 : 0 ≤ sF N m 3 ∧ sF N m 3 ≤ 14) (hs : 0 ≤ s) (hm : 0 ≤ m) (x : Int) : enN (upN N (56 + s * 24 + 0) x) m = upN (enN N m) (56 + s * 24 + 0) x := by
  have e : ∀ j, j ≠ 56 + s * 24 + 0 → upN N (56 + s * 24 + 0) x j = N j := fun j hj => upN_ne hj
  have ef : ∀ w, 0 ≤ w → w < 24 → sF (upN N (56 + s * 24 + 0) x) m w = sF N m w := fun w w0 w1 => e _ (by omega)
  have ep : sPr (upN N (56 + s * 24 + 0) x) m = sPr N m := by
    unfold sPr
    rw [ef 3 (by decide) (by decide)]
    exact prT_eq _ (fun i i0 i1 => ef _ (by omega) (by omega))
  have et : sTx (upN N (56 + s * 24 + 0) x) m = sTx N m := by
    unfold sTx
    rw [ef 3 (by decide) (by decide), ef 4 (by decide) (by decide), ef 5 (by decide) (by decide), ef 7 (by decide) (by decide)]
  unfold enN
  rw [ep, et, ef 6 (by decide) (by decide), e 9 (by omega), e 10 (by omega), e 11 (by omega), e 12 (by omega)]
  rw [upN_comm N (show 56 + s * 24 + 0 ≠ 10 by omega), upN_comm _ (show 56 + s * 24 + 0 ≠ 9 by omega), upN_comm _ (show 56 + s * 24 + 0 ≠ 11 by omega), upN_comm _ (show 56 + s * 24 + 0 ≠ 12 by omega), upN_comm _ (show 56 + s * 24 + 0 ≠ 56 + m * 24 + 0 by omega)]
theorem st_comm {N : gN0} {s m : Int} (h : s ≠ m) (h3 : 0 ≤ sF N m 3 ∧ sF N m 3 ≤ 14) (hs : 0 ≤ s) (hm : 0 ≤ m) : stH (stE N m) s = stE (stH N s) m := by
  have eE : ∀ w, 0 ≤ w → w < 24 → sF (enN N m) s w = sF N s w := fun w w0 w1 => enN_ag N m _ (by omega) (by omega)
  have e0 : enN N m 0 = N 0 := enN_ag N m _ (by omega) (by omega)
  have eH : ∀ x w, 0 ≤ w → w < 24 → sF (upN N (56 + s * 24 + 0) x) m w = sF N m w := fun x w w0 w1 => upN_ne (by omega)
  have eH0 : ∀ x, upN N (56 + s * 24 + 0) x 0 = N 0 := fun x => upN_ne (by omega)
  by_cases c1 : sF N m 0 = 1 ∧ sF N m 2 + sF N m 3 - 1 < N 0
  · by_cases c2 : sF N s 0 = 0 ∧ (sF N s 9 < N 0 ∨ sF N s 2 ≤ N 0)
    · have a1 : stE N m = enN N m := if_pos c1
      have a2 : stH N s = upN N (56 + s * 24 + 0) 2 := if_pos c2
      rw [a1, a2]
      unfold stH stE
      rw [if_pos (by rw [eE 0 (by decide) (by decide), eE 9 (by decide) (by decide), eE 2 (by decide) (by decide), e0]; exact c2), if_pos (by rw [eH 2 0 (by decide) (by decide), eH 2 2 (by decide) (by decide), eH 2 3 (by decide) (by decide), eH0]; exact c1)]
      exact (enN_up h h3 hs hm 2).symm
    · have a1 : stE N m = enN N m := if_pos c1
      have a2 : stH N s = N := if_neg c2
      rw [a1, a2, a1]
      unfold stH
      rw [if_neg (by rw [eE 0 (by decide) (by decide), eE 9 (by decide) (by decide), eE 2 (by decide) (by decide), e0]; exact c2)]
  · have a1 : stE N m = N := if_neg c1
    rw [a1]
    by_cases c2 : sF N s 0 = 0 ∧ (sF N s 9 < N 0 ∨ sF N s 2 ≤ N 0)
    · have a2 : stH N s = upN N (56 + s * 24 + 0) 2 := if_pos c2
      rw [a2]
      unfold stE
      rw [if_neg (by rw [eH 2 0 (by decide) (by decide), eH 2 2 (by decide) (by decide), eH 2 3 (by decide) (by decide), eH0]; exact c1)]
    · have a2 : stH N s = N := if_neg c2
      rw [a2, a1]
theorem odH_E {N : gN0} (m : Int) (hm : 0 ≤ m) : ∀ n : Nat, (n : Int) ≤ m → (∀ k : Nat, k ≤ n → 0 ≤ sF (odH N k) m 3 ∧ sF (odH N k) m 3 ≤ 14) → odH (stE N m) n = stE (odH N n) m := by
  intro n
  induction n with
  | zero => intro _ _; rfl
  | succ n ih =>
    intro hn h3
    rw [odH_st, odH_st, ih (by omega) (fun k hk => h3 k (by omega))]
    exact st_comm (by omega) (h3 n (by omega)) (by omega) hm
theorem odI_eq {N : gN0} (hI : INV N) : ∀ n : Nat, (n : Int) ≤ N 5 → odI N n = odH (odE N n) n := by
  intro n
  induction n with
  | zero => intro _; rfl
  | succ n ih =>
    intro hn
    have hE := odE_inv hI n (by omega)
    have e5 : odE N n 5 = N 5 := hE.2 5 (by omega)
    show stH (stE (odI N n) n) n = odH (odE N (n + 1)) (n + 1)
    rw [ih (by omega), odH_st, odE_st]
    rw [odH_E (n : Int) (by omega) n (Int.le_refl _) (fun k hk => by
      have hH := odH_inv hE.1 k (by omega)
      have e5' : odH (odE N n) k 5 = odE N n 5 := hH.2 5 (by omega)
      have := (hH.1.1.2.2.2.1 n (by omega) (by omega)).1
      omega)]
/-- the law's world beside the class's -/
theorem LB_x {q w : Int} {N : gN0} {Sh : gSh} {V V' : gV} (h60 : N 5 ≤ 60) (H : LB q w N Sh V) (ho : OUX (q + 2) Sh V V') : LB q w N Sh V' := by
  have hqw := H.a0
  exact LB_to h60 (fun _ _ h => h) (fun a sh ha hq => ho a sh ha (by omega)) H
theorem LW_x {q w : Int} {N M : gN0} {Sh : gSh} {V V' : gV} (h20 : N 7 ≤ 20) (hB : LB q w M Sh V) (ho : OUX (q + 2) Sh V V') (H : LW q w N V) : LW q w N V' := by
  have hqw := hB.a0
  exact LW_ag rfl h20 (fun _ _ _ => rfl) hB.2.2.2.2.1 (by rw [ho q _ hB.sL (by omega)]) (ho _ _ hB.sgO (by omega)) (fun p hp => ho p _ hp.1 (by rcases hp.2 with h | h <;> omega)) H
theorem LB_dc {q w σ : Int} {N : gN0} {Sh : gSh} {V V' : gV} (h60 : N 5 ≤ 60) (H : LB q w N Sh V) (e : V' = up V (q + 1) 0 σ) : LB q w N Sh V' := by
  have hqw := H.a0
  exact LB_in h60 H (fun _ _ h => h) (fun a ha => by rw [e]; exact up_row _ _ _ (by omega))
theorem LW_dc {q w σ : Int} {N M : gN0} {Sh : gSh} {V V' : gV} (h20 : N 7 ≤ 20) (hB : LB q w M Sh V) (e : V' = up V (q + 1) 0 σ) (H : LW q w N V) : LW q w N V' := by
  have hqw := hB.a0
  have eo : ∀ a, a ≠ q + 1 → V' a = V a := fun a ha => by rw [e]; exact up_row _ _ _ ha
  exact LW_ag rfl h20 (fun _ _ _ => rfl) hB.2.2.2.2.1 (by rw [eo q (by omega)]) (eo _ (by omega)) (fun p hp => eo p (by rcases hp.2 with h | h <;> omega)) H
theorem XR_dc {q w σ c : Int} {N : gN0} {P : Int → gN0} {Sh : gSh} {V V' : gV} (H : XR (q + 2) N P c Sh V) (hI : INV N) (e : V' = up V (q + 1) 0 σ) : XR (q + 2) N P c Sh V' :=
  XR_ag H hI (fun a a0 a1 => by rw [e]; exact up_row _ _ _ (by omega))
theorem XR_q {q w c : Int} {N M : gN0} {P : Int → gN0} {Sh : gSh} {V V' : gV} (H : XR (q + 2) N P c Sh V) (hI : INV N) (hB : LB q w M Sh V) (e : OUQ q w V V') : XR (q + 2) N P c Sh V' := by
  have hqw := hB.a0
  exact XR_ag H hI (fun a a0 a1 => e a (by omega) (by omega))
/-- a row of the law's is written -/
theorem XR_r {q w r i x c : Int} {N M : gN0} {P : Int → gN0} {Sh : gSh} {V V' : gV} (H : XR (q + 2) N P c Sh V) (hI : INV N) (hB : LB q w M Sh V) (e : V' = up V r i x) (hr : r = q ∨ w ≤ r) : XR (q + 2) N P c Sh V' := by
  have hqw := hB.a0
  exact XR_ag H hI (fun a a0 a1 => by rw [e]; exact up_row _ _ _ (by omega))
theorem OUQ_r {q w r i x : Int} {V V1 V2 : gV} (h : OUQ q w V V1) (e : V2 = up V1 r i x) (hr : r = q ∨ w ≤ r) : OUQ q w V V2 := fun a a0 a1 => by rw [e, up_row _ _ _ (by omega)]; exact h a a0 a1
/-- what an act answers: true, and all tell one state -/
def gAct (q w n : Int) : gPo := fun o Sh' V' _ => o = .inl (some (0, 1)) ∧ ∃ (N : gN0) (P : Int → gN0) (c : Int), LI n N ∧ XR (q + 2) N P c Sh' V' ∧ LB q w N Sh' V' ∧ LW q w N V'
