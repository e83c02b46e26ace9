/-! the class's object at x .. x + 1140; checks and codes (laid by wip/whole/gen76.py) -/
def XS (x : Int) (Sh : gSh) : Prop := Sh x = some (10, 0) ∧ shH (x + 1) Sh ∧ shY (x + 163) Sh ∧ Sh (x + 1137) = some (4, 0) ∧ Sh (x + 1137 + 1) = some (100, 60) ∧ Sh (x + 1137 + 2) = some (100, 60) ∧ Sh (x + 1137 + 3) = some (100, 6)
def XP (x : Int) (V : gV) : Prop := (V x 0 = x + 1 ∧ V x 1 = x + 163 ∧ V x 2 = x + 1137) ∧ ptY (x + 163) V ∧ V (x + 1137) 0 = x + 1137 + 1 ∧ V (x + 1137) 2 = x + 1137 + 2 ∧ V (x + 1137) 4 = x + 1137 + 3
/-- the class's object tells a state and what can be taken back -/
def XR (x : Int) (N : gN0) (P : Int → gN0) (c : Int) (Sh : gSh) (V : gV) : Prop := XS x Sh ∧ XP x V ∧ RH (x + 1) N Sh V ∧ HY (x + 163) P c Sh V
def OUX (x : Int) (Sh : gSh) (V V' : gV) : Prop := ∀ a sh, Sh a = some sh → (a < x ∨ x + 1141 ≤ a) → V' a = V a
theorem OUX.rfl' (x : Int) (Sh : gSh) (V : gV) : OUX x Sh V V := fun _ _ _ _ => rfl
section XX
variable {x z c : Int} {N M : gN0} {P : Int → gN0} {Sh : gSh} {V V1 V2 : gV}
theorem OUX.tr (h1 : OUX x Sh V V1) (h2 : OUX x Sh V1 V2) : OUX x Sh V V2 := fun a sh hs ha => (h2 a sh hs ha).trans (h1 a sh hs ha)
theorem OUX.yh (h1 : OUX x Sh V V1) (h2 : OUTY (x + 163) V1 V2) : OUX x Sh V V2 := fun a sh hs ha => (h2 a (by omega)).trans (h1 a sh hs ha)
theorem OUX.ho (h1 : OUX x Sh V V1) (h2 : OUT (x + 1) V1 V2) : OUX x Sh V V2 := fun a sh hs ha => (h2 a (by omega)).trans (h1 a sh hs ha)
theorem OUX.pl (h1 : OUX x Sh V V1) (h2 : ∀ a, (a < x + 1137 ∨ x + 1137 + 4 ≤ a) → V2 a = V1 a) : OUX x Sh V V2 := fun a sh hs ha => (h2 a (by omega)).trans (h1 a sh hs ha)
theorem OUX.nw (h1 : OUX x Sh V V1) (hz : Sh z = none) (h2 : ∀ a, a ≠ z → V2 a = V1 a) : OUX x Sh V V2 := fun a sh hs ha => (h2 a (fun q => by rw [q, hz] at hs; cases hs)).trans (h1 a sh hs ha)
theorem OUX.of (h : ∀ a, (a < x ∨ x + 1141 ≤ a) → V1 a = V a) : OUX x Sh V V1 := fun a _ _ ha => h a ha
/-- numbers alike -/
theorem XR_ag (H : XR x N P c Sh V) (hI : INV N) (e : ∀ a, x ≤ a → a < x + 1141 → V1 a = V a) : XR x N P c Sh V1 := by
  obtain ⟨h1, ⟨⟨p0, p1, p2⟩, p3, p4, p5, p6⟩, h3, h4⟩ := H
  refine ⟨h1, ⟨⟨?_, ?_, ?_⟩, ptY_out p3 (fun a a0 a1 => e a (by omega) (by omega)), ?_, ?_, ?_⟩, RH_ag h3 hI.szO (fun _ _ _ => rfl) (fun a a0 a1 => e a (by omega) (by omega)), HY_out h4 (fun a a0 a1 => e a (by omega) (by omega))⟩
  · rw [e x (by omega) (by omega)]; exact p0
  · rw [e x (by omega) (by omega)]; exact p1
  · rw [e x (by omega) (by omega)]; exact p2
  · rw [e _ (by omega) (by omega)]; exact p4
  · rw [e _ (by omega) (by omega)]; exact p5
  · rw [e _ (by omega) (by omega)]; exact p6
/-- the hotel has changed -/
theorem XR_H (H : XR x N P c Sh V) (h1 : RH (x + 1) M Sh V1) (h2 : OUT (x + 1) V V1) : XR x M P c Sh V1 := by
  obtain ⟨a1, ⟨⟨p0, p1, p2⟩, p3, p4, p5, p6⟩, a3, a4⟩ := H
  have e : ∀ a, (a < x + 1 ∨ x + 1 + 162 ≤ a) → V1 a = V a := h2
  refine ⟨a1, ⟨⟨?_, ?_, ?_⟩, ptY_out p3 (fun a a0 a1 => e a (by omega)), ?_, ?_, ?_⟩, h1, HY_out a4 (fun a a0 a1 => e a (by omega))⟩
  · rw [e x (by omega)]; exact p0
  · rw [e x (by omega)]; exact p1
  · rw [e x (by omega)]; exact p2
  · rw [e _ (by omega)]; exact p4
  · rw [e _ (by omega)]; exact p5
  · rw [e _ (by omega)]; exact p6
/-- what can be taken back has changed -/
theorem XR_Y {Q : Int → gN0} {d : Int} (H : XR x N P c Sh V) (hI : INV N) (h1 : HY (x + 163) Q d Sh V1) (h2 : ptY (x + 163) V1) (h3 : OUTY (x + 163) V V1) : XR x N Q d Sh V1 := by
  obtain ⟨a1, ⟨⟨p0, p1, p2⟩, p3, p4, p5, p6⟩, a3, a4⟩ := H
  have e : ∀ a, (a < x + 163 ∨ x + 163 + 974 ≤ a) → V1 a = V a := h3
  refine ⟨a1, ⟨⟨?_, ?_, ?_⟩, h2, ?_, ?_, ?_⟩, RH_ag a3 hI.szO (fun _ _ _ => rfl) (fun a a0 a1 => e a (by omega)), h1⟩
  · rw [e x (by omega)]; exact p0
  · rw [e x (by omega)]; exact p1
  · rw [e x (by omega)]; exact p2
  · rw [e _ (by omega)]; exact p4
  · rw [e _ (by omega)]; exact p5
  · rw [e _ (by omega)]; exact p6
/-- the plan has changed -/
theorem XR_P (H : XR x N P c Sh V) (hI : INV N) (h1 : ∀ j, j ≠ 1 → j ≠ 3 → V1 (x + 1137) j = V (x + 1137) j) (h2 : ∀ a, (a < x + 1137 ∨ x + 1137 + 4 ≤ a) → V1 a = V a) : XR x N P c Sh V1 := by
  obtain ⟨a1, ⟨⟨p0, p1, p2⟩, p3, p4, p5, p6⟩, a3, a4⟩ := H
  refine ⟨a1, ⟨⟨?_, ?_, ?_⟩, ptY_out p3 (fun a a0 a1 => h2 a (by omega)), ?_, ?_, ?_⟩, RH_ag a3 hI.szO (fun _ _ _ => rfl) (fun a a0 a1 => h2 a (by omega)), HY_out a4 (fun a a0 a1 => h2 a (by omega))⟩
  · rw [h2 x (by omega)]; exact p0
  · rw [h2 x (by omega)]; exact p1
  · rw [h2 x (by omega)]; exact p2
  · rw [h1 _ (by decide) (by decide)]; exact p4
  · rw [h1 _ (by decide) (by decide)]; exact p5
  · rw [h1 _ (by decide) (by decide)]; exact p6
theorem shH_new {h : Int} {sh : Nat × Nat} (H : shH h Sh) (hl : h + 162 ≤ z) : shH h (shp Sh z sh) := fun j j0 j1 => (shp_ne _ _ (by omega)).trans (H j j0 j1)
/-- beside a new cell -/
theorem XR_new {sh : Nat × Nat} (H : XR x N P c Sh V) (hI : INV N) (hl : x + 1141 ≤ z) (e : ∀ a, a ≠ z → V1 a = V a) : XR x N P c (shp Sh z sh) V1 := by
  obtain ⟨⟨s1, s2, s3, s4, s5, s6, s7⟩, a2, a3, ⟨b1, b2, b3, b4, b5, b6⟩⟩ := XR_ag H hI (fun a a0 a1 => e a (by omega))
  have ne : ∀ a, a < z → shp Sh z sh a = Sh a := fun a ha => shp_ne _ _ (by omega)
  refine ⟨⟨(ne _ (by omega)).trans s1, shH_new s2 (by omega), ⟨(ne _ (by omega)).trans s3.1, (ne _ (by omega)).trans s3.2.1, fun i i0 i1 => shH_new (s3.2.2 i i0 i1) (by omega)⟩, (ne _ (by omega)).trans s4, (ne _ (by omega)).trans s5, (ne _ (by omega)).trans s6, (ne _ (by omega)).trans s7⟩, a2, ⟨shH_new a3.1 (by omega), a3.2⟩, ⟨b1, b2, b3, b4, b5, fun i i0 i1 => ?_⟩⟩
  obtain ⟨g1, g2⟩ := b6 i i0 i1
  exact ⟨⟨shH_new g1.1 (by omega), g1.2⟩, g2⟩
theorem XR_sh {Sh' : gSh} (H : XR x N P c Sh' V) (hs : XS x Sh) : XR x N P c Sh V := by
  obtain ⟨a1, a2, a3, ⟨b1, b2, b3, b4, b5, b6⟩⟩ := H
  refine ⟨hs, a2, ⟨hs.2.1, a3.2⟩, ⟨b1, b2, b3, b4, b5, fun i i0 i1 => ?_⟩⟩
  obtain ⟨g1, g2⟩ := b6 i i0 i1
  have e : x + 163 + 2 + 162 * ((V (x + 163) 1 + 5 - i) % 6) = x + 163 + 2 + 162 * ((V (x + 163) 1 + 5 - i) % 6) := rfl
  exact ⟨⟨hs.2.2.1.2.2 _ (by omega) (by omega), g1.2⟩, g2⟩
theorem XR.rh (H : XR x N P c Sh V) : RH (x + 1) N Sh V := H.2.2.1
theorem XR.hy (H : XR x N P c Sh V) : HY (x + 163) P c Sh V := H.2.2.2
theorem XR.p0 (H : XR x N P c Sh V) : V x 0 = x + 1 := H.2.1.1.1
theorem XR.p1 (H : XR x N P c Sh V) : V x 1 = x + 163 := H.2.1.1.2.1
theorem XR.p2 (H : XR x N P c Sh V) : V x 2 = x + 1137 := H.2.1.1.2.2
theorem XR.pY (H : XR x N P c Sh V) : ptY (x + 163) V := H.2.1.2.1
theorem XR.pO (H : XR x N P c Sh V) : V (x + 1137) 0 = x + 1137 + 1 := H.2.1.2.2.1
theorem XR.pM (H : XR x N P c Sh V) : V (x + 1137) 2 = x + 1137 + 2 := H.2.1.2.2.2.1
theorem XR.pL (H : XR x N P c Sh V) : V (x + 1137) 4 = x + 1137 + 3 := H.2.1.2.2.2.2
theorem XR.sX (H : XR x N P c Sh V) : Sh x = some (10, 0) := H.1.1
theorem XR.sY (H : XR x N P c Sh V) : shY (x + 163) Sh := H.1.2.2.1
theorem XR.sP (H : XR x N P c Sh V) : Sh (x + 1137) = some (4, 0) := H.1.2.2.2.1
theorem XR.sO (H : XR x N P c Sh V) : Sh (x + 1137 + 1) = some (100, 60) := H.1.2.2.2.2.1
theorem XR.sM (H : XR x N P c Sh V) : Sh (x + 1137 + 2) = some (100, 60) := H.1.2.2.2.2.2.1
theorem XR.sL (H : XR x N P c Sh V) : Sh (x + 1137 + 3) = some (100, 6) := H.1.2.2.2.2.2.2
end XX
/-- codes -/
theorem fl1 {P1 : Prop} [Decidable P1] {x2 x3 : Int} (h : ¬ P1) : fitC (bI P1) x2 x3 = 1 := by unfold fitC; rw [if_pos (bI_f h)]
theorem fl2 {P1 P2 : Prop} [Decidable P1] [Decidable P2] {x3 : Int} (h1 : P1) (h : ¬ P2) : fitC (bI P1) (bI P2) x3 = 2 := by unfold fitC; rw [if_neg (by rw [bI_t h1]; decide), if_pos (bI_f h)]
theorem fl3 {P1 P2 P3 : Prop} [Decidable P1] [Decidable P2] [Decidable P3] (h1 : P1) (h2 : P2) (h : ¬ P3) : fitC (bI P1) (bI P2) (bI P3) = 3 := by unfold fitC; rw [if_neg (by rw [bI_t h1]; decide), if_neg (by rw [bI_t h2]; decide), if_pos (bI_f h)]
theorem fk1 {P1 : Prop} [Decidable P1] (h1 : P1) : fitC (bI P1) 1 1 = 0 := fit_ok (bI_t h1) rfl rfl
theorem fk2 {P1 P2 : Prop} [Decidable P1] [Decidable P2] (h1 : P1) (h2 : P2) : fitC (bI P1) (bI P2) 1 = 0 := fit_ok (bI_t h1) (bI_t h2) rfl
theorem fk3 {P1 P2 P3 : Prop} [Decidable P1] [Decidable P2] [Decidable P3] (h1 : P1) (h2 : P2) (h3 : P3) : fitC (bI P1) (bI P2) (bI P3) = 0 := fit_ok (bI_t h1) (bI_t h2) (bI_t h3)
/-- an answer, or an exception by a code -/
def gRk (C : Int) (X1 X2 X3 : String) (r : aV) (FS FF : gV → Prop) (Sh : gSh) : gPo := fun o Sh' V' _ => Sh' = Sh ∧ ((C = 0 ∧ o = .inl (some r) ∧ FS V') ∨ (FF V' ∧ ((C = 1 ∧ o = .inr X1) ∨ (C = 2 ∧ o = .inr X2) ∨ (C = 3 ∧ o = .inr X3))))
section SHN
variable {h : Int} {N : gN0} {Sh : gSh} {V V' : gV}
/-- a stay has fewer nights -/
theorem RH_sn {s n : Int} (H : RH h N Sh V) (hz : szO N) (h0 : 0 ≤ s) (h1 : s < N 5) (hn0 : 0 ≤ n) (hn1 : n < sF N s 3) (e : V' = up (up V (h + 6 + 2 * s) 3 (sF N s 3 - n)) (h + 6 + 2 * s) 7 (prT N s (sF N s 3 - n).toNat)) : RH h (shN N s n) Sh V' := by
  have z5 := hz.2.2.1
  have es : ∀ w, w ≠ 3 → sF (shN N s n) s w = sF N s w := fun w hw => upN_ne (by omega)
  have e3 : sF (shN N s n) s 3 = sF N s 3 - n := upN_eq _ _ _
  have ev : ∀ j, j ≠ 3 → j ≠ 7 → V' (h + 6 + 2 * s) j = V (h + 6 + 2 * s) j := fun j j3 j7 => by rw [e, up_ne _ _ (Or.inr j7), up_ne _ _ (Or.inr j3)]
  refine RH_T (s := s) H hz h0 (by omega) (fun j hj _ => upN_ne (by omega)) (fun a q1 _ _ => by rw [e, up_row _ _ _ q1, up_row _ _ _ q1]) (by rw [ev 11 (by decide) (by decide)]; exact H.2.1.pn h0 (by omega)) (fun _ => ?_) (fun i i0 i1 => ?_)
  · obtain ⟨⟨a0, a1, a2, a3, a4, a5, a6, a7, a8, a9, a10⟩, b⟩ := H.st h0 h1
    refine ⟨⟨?_, ?_, ?_, ?_, ?_, ?_, ?_, ?_, ?_, ?_, ?_⟩, fun t t0 t1 => ?_⟩
    · rw [ev 0 (by decide) (by decide), es 0 (by decide)]; exact a0
    · rw [ev 1 (by decide) (by decide), es 1 (by decide)]; exact a1
    · rw [ev 2 (by decide) (by decide), es 2 (by decide)]; exact a2
    · rw [e, up_ne _ _ (Or.inr (by decide)), up_eq, e3]
    · rw [ev 4 (by decide) (by decide), es 4 (by decide)]; exact a4
    · rw [ev 5 (by decide) (by decide), es 5 (by decide)]; exact a5
    · rw [ev 6 (by decide) (by decide), es 7 (by decide)]; exact a6
    · rw [e, up_eq]; unfold sPr; rw [e3]; exact (prT_eq _ (fun i i0 i1 => es _ (by omega))).symm
    · rw [ev 8 (by decide) (by decide), es 6 (by decide)]; exact a8
    · rw [ev 9 (by decide) (by decide), es 8 (by decide)]; exact a9
    · rw [ev 10 (by decide) (by decide), es 9 (by decide)]; exact a10
    · rw [e3] at t1
      rw [e, up_row _ _ _ (by omega), up_row _ _ _ (by omega), es _ (by omega)]
      exact b t t0 (by omega)
  · rw [e, up_row _ _ _ (by omega), up_row _ _ _ (by omega), H.b i0 i1]
    exact (upN_ne (by omega)).symm
end SHN
