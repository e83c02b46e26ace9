/-! the law's world: the class's object and the reference tell one state (laid by wip/whole/gen9f.py) -/
/-- cells o and d are the law's rows -/
def LI (x b o d : Int) (Sh : gSh) (V : gV) (N : gN0) (P : Int → gN0) (c : Int) : Prop :=
  (XR x N P c Sh V ∧ gMd b N Sh V ∧ HB b P c V) ∧ (INV N ∧ KZ N ∧ ∀ i, 0 ≤ i → i < c → INV (P i) ∧ KZ (P i)) ∧ (Sh o = some (101, 1) ∧ Sh d = some (102, 1) ∧ 0 ≤ x ∧ x + 1141 ≤ b ∧ b + 6 ≤ o ∧ o < d)
/-- all stays but the class's own cells, and the law's rows -/
def OUO (x o d : Int) (Sh : gSh) (V V' : gV) : Prop := ∀ a sh, Sh a = some sh → (a < x ∨ x + 1141 ≤ a) → a ≠ o → a ≠ d → V' a = V a
/-- all stays but what the reference reckons with -/
def AGo (b : Int) (V W : gV) : Prop := ∀ a, a ≠ b + 3 → a ≠ b + 4 → a ≠ b + 5 → W a = V a
theorem AGo.rfl' (b : Int) (V : gV) : AGo b V V := fun _ _ _ _ => rfl
theorem AGo.ro (b : Int) (V : gV) (rho : gN0) (n : Int) : AGo b V (roV V b rho n) := fun a h3 _ _ => by funext j; unfold roV; rw [if_neg (fun q => h3 q.1)]
theorem AGo.inn (b : Int) (V : gV) (N : gN0) (n : Int) : AGo b V (inV V b N n) := fun a _ h4 _ => by funext j; unfold inV; rw [if_neg (fun q => h4 q.1)]
theorem AGo.rw' (b : Int) (V : gV) (C : gN0) (n : Int) : AGo b V (rwV V (b + 5) C n) := fun a _ _ h5 => by funext j; unfold rwV; rw [if_neg (fun q => h5 q.1)]
theorem AGo.rh (b : Int) (V : gV) (N : gN0) (n : Nat) : AGo b V (rhV V b N n) := by
  cases n with
  | zero => exact AGo.rfl' _ _
  | succ n => exact AGo.ro _ _ _ _
theorem AGo.ife {b C : Int} {V W : gV} (h : AGo b (up V b 3 0) W) : AGo b (up V b 3 C) (if C = 0 then W else up V b 3 C) := by
  by_cases hc : C = 0
  · rw [if_pos hc, hc]; exact h
  · rw [if_neg hc]; exact AGo.rfl' _ _
theorem AGo.if2 {b C : Int} {V W A : gV} (h : AGo b V W) : AGo b (if C = 0 then V else A) (if C = 0 then W else A) := by
  by_cases hc : C = 0
  · rw [if_pos hc, if_pos hc]; exact h
  · rw [if_neg hc, if_neg hc]; exact AGo.rfl' _ _
theorem AGo.wr {b : Int} {V W : gV} {N : gN0} (h : AGo b V W) : AGo b (wrN V b N) (wrN W b N) := by
  intro a h3 h4 h5
  unfold wrN
  by_cases ha : a = b + 1
  · rw [if_pos ha, if_pos ha]
  · rw [if_neg ha, if_neg ha]; exact h a h3 h4 h5
theorem AGo.if1 {b : Int} {V : gV} {p : Prop} [Decidable p] {N : gN0} {n : Int} : AGo b V (if p then inV V b N n else V) := by
  by_cases hc : p
  · rw [if_pos hc]; exact AGo.inn _ _ _ _
  · rw [if_neg hc]; exact AGo.rfl' _ _
theorem gMd_go {b : Int} {N : gN0} {Sh : gSh} {V W : gV} (h : gMd b N Sh V) (e : AGo b V W) : gMd b N Sh W := by
  obtain ⟨h1, ⟨h2, h3, h4, h5, h6⟩, h7⟩ := h
  have eb := e b (by omega) (by omega) (by omega)
  refine ⟨h1, ⟨?_, ?_, ?_, ?_, ?_⟩, (e (b + 1) (by omega) (by omega) (by omega)).trans h7⟩
  · rw [eb]; exact h2
  · rw [eb]; exact h3
  · rw [eb]; exact h4
  · rw [eb]; exact h5
  · rw [eb]; exact h6
theorem HB_go {b c : Int} {P : Int → gN0} {V W : gV} (h : HB b P c V) (e : AGo b V W) : HB b P c W :=
  HB_ag h (by rw [e b (by omega) (by omega) (by omega)]) (e (b + 2) (by omega) (by omega) (by omega))
section GLI
variable {x b o d c C r : Int} {N N' : gN0} {P P' : Int → gN0} {c' : Int} {Sh : gSh} {V V1 V2 W : gV}
theorem LI.xr (H : LI x b o d Sh V N P c) : XR x N P c Sh V := H.1.1
theorem LI.md (H : LI x b o d Sh V N P c) : gMd b N Sh V := H.1.2.1
theorem LI.hb (H : LI x b o d Sh V N P c) : HB b P c V := H.1.2.2
theorem LI.inv (H : LI x b o d Sh V N P c) : INV N := H.2.1.1
theorem LI.kz (H : LI x b o d Sh V N P c) : KZ N := H.2.1.2.1
theorem LI.so (H : LI x b o d Sh V N P c) : Sh o = some (101, 1) := H.2.2.1
theorem LI.sd (H : LI x b o d Sh V N P c) : Sh d = some (102, 1) := H.2.2.2.1
theorem LI.ap (H : LI x b o d Sh V N P c) : 0 ≤ x ∧ x + 1141 ≤ b ∧ b + 6 ≤ o ∧ o < d := H.2.2.2.2
theorem LI.sb (H : LI x b o d Sh V N P c) : Sh b = some (11, 0) := H.md.1.1
theorem LI.sx (H : LI x b o d Sh V N P c) : Sh x = some (10, 0) := H.xr.sX
/-- what the class did leaves the reference -/
theorem LI_m (H : LI x b o d Sh V N P c) (e : OUO x o d Sh V V1) : gMd b N Sh V1 ∧ HB b P c V1 ∧ 0 ≤ V1 b 2 ∧ V1 b 2 ≤ 6 := by
  obtain ⟨a1, a2, a3, a4⟩ := H.ap
  have hm := H.md
  obtain ⟨⟨s0, s1, s2, s3, s4, s5⟩, ⟨h2, h3, h4, h5, h6⟩, h7⟩ := hm
  have eb := e b _ s0 (by omega) (by omega) (by omega)
  have e1 := e _ _ s1 (by omega) (by omega) (by omega)
  have e2 := e _ _ s2 (by omega) (by omega) (by omega)
  have hb := H.hb
  have hb1 : HB b P c V1 := HB_ag hb (by rw [eb]) e2
  refine ⟨⟨⟨s0, s1, s2, s3, s4, s5⟩, ⟨?_, ?_, ?_, ?_, ?_⟩, e1.trans h7⟩, hb1, ?_, ?_⟩
  · rw [eb]; exact h2
  · rw [eb]; exact h3
  · rw [eb]; exact h4
  · rw [eb]; exact h5
  · rw [eb]; exact h6
  · rw [hb1.1]; exact hb1.2.1
  · rw [hb1.1]; exact hb1.2.2.1
/-- behind a wrapper -/
theorem LI_w (H : LI x b o d Sh V N P c) {a w : Int} (ha : a = o ∨ a = d) (hN : C = 0 → INV N') (h : (C = 0 ∧ ∃ V0, (XR x N' P' c' Sh V0 ∧ OUX x Sh V V0) ∧ V1 = up V0 a 0 w) ∨ (C ≠ 0 ∧ (XR x N P c Sh V1 ∧ OUX x Sh V V1))) :
    OUO x o d Sh V V1 ∧ (C = 0 → XR x N' P' c' Sh V1 ∧ V1 a 0 = w) ∧ (C ≠ 0 → XR x N P c Sh V1) := by
  obtain ⟨a1, a2, a3, a4⟩ := H.ap
  rcases h with ⟨hc, V0, ⟨g1, g2⟩, rfl⟩ | ⟨hc, g1, g2⟩
  · refine ⟨fun q sh hs h1 h2 h3 => ?_, fun _ => ⟨XR_ag g1 (hN hc) (fun q h1 h2 => up_row _ _ _ (by omega)), up_eq _ _ _ _⟩, fun q => absurd hc q⟩
    rw [up_row _ _ _ (by omega)]
    exact g2 q sh hs h1
  · exact ⟨fun q sh hs h1 _ _ => g2 q sh hs h1, fun q => absurd q hc, fun _ => g1⟩
theorem OUX.ouo (h : OUX x Sh V V1) : OUO x o d Sh V V1 := fun a sh hs h1 _ _ => h a sh hs h1
/-- the reference's change leaves the class's own cells -/
theorem LI_new (H : LI x b o d Sh V N P c) (hx : XR x N' P' c' Sh V1) (e : ∀ a, (a < b ∨ b + 6 ≤ a) → V2 a = V1 a) (hm : gMd b N' Sh V2) (hb : HB b P' c' V2) (hN : INV N' ∧ KZ N') (hP : ∀ i, 0 ≤ i → i < c' → INV (P' i) ∧ KZ (P' i)) : LI x b o d Sh V2 N' P' c' := by
  obtain ⟨a1, a2, a3, a4⟩ := H.ap
  exact ⟨⟨XR_ag hx hN.1 (fun q h1 h2 => e q (by omega)), hm, hb⟩, ⟨hN.1, hN.2, hP⟩, H.2.2⟩
theorem kpP_all (hc : 0 ≤ c ∧ c ≤ 6) (hN : INV N ∧ KZ N) (hP : ∀ i, 0 ≤ i → i < c → INV (P i) ∧ KZ (P i)) : ∀ i, 0 ≤ i → i < min (c + 1) 6 → INV (kpP P c N i) ∧ KZ (kpP P c N i) := by
  intro i i0 i1
  unfold kpP
  by_cases c6 : c = 6
  · rw [if_pos c6]
    by_cases q : i = 5
    · rw [if_pos q]; exact hN
    · rw [if_neg q]; exact hP _ (by omega) (by omega)
  · rw [if_neg c6]
    by_cases q : i = c
    · rw [if_pos q]; exact hN
    · rw [if_neg q]; exact hP _ i0 (by omega)
/-- a change -/
theorem LI_ref (H : LI x b o d Sh V N P c) (e : OUO x o d Sh V V1) (h1 : C = 0 → XR x N' (kpP P c N) (min (c + 1) 6) Sh V1 ∧ V1 o 0 = r) (h2 : C ≠ 0 → XR x N P c Sh V1) (hN : C = 0 → INV N' ∧ KZ N')
    (hW : W = if C = 0 then wrN (kpV (up V1 b 3 0) b) b N' else up V1 b 3 C) (hV : AGo b W V2) : V2 b 3 = C ∧ (C = 0 → LI x b o d Sh V2 N' (kpP P c N) (min (c + 1) 6) ∧ V2 o 0 = r) ∧ (C ≠ 0 → LI x b o d Sh V2 N P c) := by
  obtain ⟨a1, a2, a3, a4⟩ := H.ap
  obtain ⟨m1, m2, m3, m4⟩ := LI_m H e
  have hb := H.hb
  by_cases hc : C = 0
  · rw [if_pos hc] at hW
    have ek : ∀ q, q ≠ b → q ≠ b + 2 → kpV (up V1 b 3 0) b q = V1 q := by
      intro q q1 q2
      funext j
      unfold kpV
      rw [if_neg q2, if_neg (fun g => q1 g.1), up_row _ _ _ q1]
    have e3 : kpV (up V1 b 3 0) b b 3 = 0 := by
      unfold kpV
      rw [if_neg (by omega), if_neg (fun g => absurd g.2 (by decide)), up_eq]
    have eo : ∀ q, (q < b ∨ b + 6 ≤ q) → V2 q = V1 q := by
      intro q hq
      rw [hV q (by omega) (by omega) (by omega), hW]
      unfold wrN
      rw [if_neg (by omega)]
      exact ek q (by omega) (by omega)
    refine ⟨?_, fun _ => ⟨?_, ?_⟩, fun q => absurd hc q⟩
    · rw [hV b (by omega) (by omega) (by omega), hW, hc]
      unfold wrN
      rw [if_neg (by omega)]
      exact e3
    · refine LI_new H (h1 hc).1 eo (gMd_go ?_ hV) (HB_go ?_ hV) (hN hc) (kpP_all ⟨hb.2.1, hb.2.2.1⟩ ⟨H.inv, H.kz⟩ H.2.1.2.2)
      · exact gMd_w (gMd_kp (gMd_o m1 rfl (Or.inr ⟨rfl, by decide⟩)) rfl) hW
      · rw [hW]; exact HB_kp m2 m1.2.2
    · rw [eo o (by omega)]
      exact (h1 hc).2
  · rw [if_neg hc] at hW
    have eo : ∀ q, (q < b ∨ b + 6 ≤ q) → V2 q = V1 q := by
      intro q hq
      rw [hV q (by omega) (by omega) (by omega), hW, up_row _ _ _ (by omega)]
    refine ⟨?_, fun q => absurd q hc, fun _ => ?_⟩
    · rw [hV b (by omega) (by omega) (by omega), hW, up_eq]
    · refine LI_new H (h2 hc) eo (gMd_go ?_ hV) (HB_go ?_ hV) ⟨H.inv, H.kz⟩ H.2.1.2.2
      · exact gMd_o m1 hW (Or.inr ⟨rfl, by decide⟩)
      · rw [hW]; exact HB_ag m2 (up_ne _ _ (Or.inr (by decide))) (up_row _ _ _ (by omega))
/-- a reader -/
theorem LI_rd (H : LI x b o d Sh V N P c) (e : OUO x o d Sh V V1) (h1 : XR x N P c Sh V1) (hV : AGo b (up V1 b 3 C) V2) : V2 b 3 = C ∧ LI x b o d Sh V2 N P c ∧ (∀ q, (q < b ∨ b + 6 ≤ q) → V2 q = V1 q) := by
  obtain ⟨a1, a2, a3, a4⟩ := H.ap
  obtain ⟨m1, m2, m3, m4⟩ := LI_m H e
  have eo : ∀ q, (q < b ∨ b + 6 ≤ q) → V2 q = V1 q := by
    intro q hq
    rw [hV q (by omega) (by omega) (by omega), up_row _ _ _ (by omega)]
  refine ⟨?_, ?_, eo⟩
  · rw [hV b (by omega) (by omega) (by omega), up_eq]
  · refine LI_new H h1 eo (gMd_go (gMd_o m1 rfl (Or.inr ⟨rfl, by decide⟩)) hV) (HB_go ?_ hV) ⟨H.inv, H.kz⟩ H.2.1.2.2
    exact HB_ag m2 (up_ne _ _ (Or.inr (by decide))) (up_row _ _ _ (by omega))
/-- behind both calls of a change -/
theorem LI_chg (H : LI x b o d Sh V N P c) (e : OUO x o d Sh V V1) (h1 : C = 0 → XR x N' (kpP P c N) (min (c + 1) 6) Sh V1 ∧ V1 o 0 = r) (h2 : C ≠ 0 → XR x N P c Sh V1) (hN : C = 0 → INV N' ∧ KZ N')
    (hV : AGo b (if C = 0 then wrN (kpV (up V1 b 3 0) b) b N' else up V1 b 3 C) V2) : V2 b 3 = C ∧ (C = 0 → V2 o 0 = r) ∧ ∃ N2 P2 c2, LI x b o d Sh V2 N2 P2 c2 := by
  obtain ⟨t1, t2, t3⟩ := LI_ref H e h1 h2 hN rfl hV
  refine ⟨t1, fun hc => (t2 hc).2, ?_⟩
  by_cases hc : C = 0
  · exact ⟨_, _, _, (t2 hc).1⟩
  · exact ⟨_, _, _, t3 hc⟩
/-- behind both calls of a reader -/
theorem LI_rdr {a : Int} (ha : a = o ∨ a = d) (H : LI x b o d Sh V N P c) (e : OUO x o d Sh V V1) (h1 : C = 0 → XR x N P c Sh V1 ∧ V1 a 0 = r) (h2 : C ≠ 0 → XR x N P c Sh V1) (hV : AGo b (up V1 b 3 C) V2) :
    V2 b 3 = C ∧ (C = 0 → V2 a 0 = r) ∧ ∃ N2 P2 c2, LI x b o d Sh V2 N2 P2 c2 := by
  have hx : XR x N P c Sh V1 := by
    by_cases hc : C = 0
    · exact (h1 hc).1
    · exact h2 hc
  obtain ⟨a1, a2, a3, a4⟩ := H.ap
  obtain ⟨t1, t2, t3⟩ := LI_rd H e hx hV
  exact ⟨t1, fun hc => by rw [t3 a (by omega)]; exact (h1 hc).2, _, _, _, t2⟩
/-- what was before is brought back -/
theorem LI_un (H : LI x b o d Sh V N P c) (e : OUO x o d Sh V V1) (h1 : XR x (if c = 0 then N else P (c - 1)) P (if c = 0 then 0 else c - 1) Sh V1) (hV : V2 = if V1 b 2 = 0 then up V1 b 3 0 else wrN (up (up V1 b 3 0) b 2 (V1 b 2 - 1)) b (unN V1 b N)) :
    ∃ M c', LI x b o d Sh V2 M P c' := by
  obtain ⟨a1, a2, a3, a4⟩ := H.ap
  obtain ⟨m1, m2, m3, m4⟩ := LI_m H e
  have hb := m2
  obtain ⟨b1, b2, b3, b4⟩ := hb
  rw [b1] at hV
  by_cases hc : c = 0
  · rw [if_pos hc] at hV
    rw [if_pos hc, if_pos hc, ← hc] at h1
    exact ⟨N, c, (LI_rd H e h1 (C := 0) (by rw [hV]; exact AGo.rfl' _ _)).2.1⟩
  · rw [if_neg hc] at hV
    rw [if_neg hc, if_neg hc] at h1
    have hun : ∀ j, 0 ≤ j → j < 5022 → unN V1 b N j = P (c - 1) j := by
      intro j j0 j1
      unfold unN
      rw [if_pos ⟨j0, j1⟩, b1]
      exact (b4 (c - 1) (by omega) (by omega) j j0 j1).symm
    have hp := H.2.1.2.2 (c - 1) (by omega) (by omega)
    have hs := hp.1.1.1
    unfold iScal at hs
    have hN : INV (unN V1 b N) ∧ KZ (unN V1 b N) := ⟨INV_ag (fun j j0 j1 => hun j j0 (by omega)) hp.1, KZ_N (by omega) hp.2 hun⟩
    have eo : ∀ q, (q < b ∨ b + 6 ≤ q) → V2 q = V1 q := by
      intro q hq
      rw [hV]
      unfold wrN
      rw [if_neg (by omega), up_row _ _ _ (by omega), up_row _ _ _ (by omega)]
    have e2 : V2 b 2 = c - 1 := by
      rw [hV]
      unfold wrN
      rw [if_neg (by omega), up_eq]
    have e4 : V2 (b + 2) = V1 (b + 2) := by
      rw [hV]
      unfold wrN
      rw [if_neg (by omega), up_row _ _ _ (by omega), up_row _ _ _ (by omega)]
    refine ⟨unN V1 b N, c - 1, LI_new H (XR_N h1 hp.1 hun) eo ?_ ?_ hN (fun i i0 i1 => H.2.1.2.2 i i0 (by omega))⟩
    · exact gMd_w (gMd_o (gMd_o m1 rfl (Or.inr ⟨rfl, by decide⟩)) rfl (Or.inr ⟨rfl, by decide⟩)) hV
    · exact ⟨e2, by omega, by omega, fun i i0 i1 j j0 j1 => by rw [e4]; exact b4 i i0 (by omega) j j0 j1⟩
end GLI
