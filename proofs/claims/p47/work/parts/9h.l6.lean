/-! the law: a guest waits (rows laid by wip/p47/l6.py) -/
/-- a new row is written -/
theorem LW_st {q w p i x : Int} {N M : gN0} {Sh : gSh} {V V' : gV} (h20 : N 7 ≤ 20) (hB : LB q w M Sh V) (hnp : ∀ i, 0 ≤ i → i < 20 → V (w + 130) i ≠ p) (hp : w + 152 ≤ p) (e : V' = up V p i x) (H : LW q w N V) : LW q w N V' := by
  have hqw := hB.a0
  have eo : ∀ a, a ≠ p → V' a = V a := fun a ha => by rw [e]; exact up_row _ _ _ ha
  refine ⟨by rw [eo q (by omega)]; exact H.1, fun g g0 g1 => ?_⟩
  rw [eo (w + 130) (by omega)]
  exact gsL_ag (fun _ _ _ => rfl) (eo _ (hnp g g0 (by omega))) (H.2 g g0 g1)
theorem np_st {w p r i x : Int} {V V' : gV} (hnp : ∀ i, 0 ≤ i → i < 20 → V (w + 130) i ≠ p) (e : V' = up V r i x) (hr : r ≠ w + 130) : ∀ i, 0 ≤ i → i < 20 → V' (w + 130) i ≠ p := fun i i0 i1 => by rw [e, up_row _ _ _ (fun h => hr h.symm)]; exact hnp i i0 i1
theorem LB_p {q w p i x : Int} {N : gN0} {Sh : gSh} {V V' : gV} (h60 : N 5 ≤ 60) (H : LB q w N Sh V) (hp : w + 152 ≤ p) (e : V' = up V p i x) : LB q w N Sh V' := by
  have hqw := H.a0
  exact LB_in h60 H (fun _ _ h => h) (fun a ha => by rw [e]; exact up_row _ _ _ (by omega))
/-- one more waits -/
theorem waN_ne {N : gN0} {k d n a c j : Int} (h7 : j ≠ 7) (hj : j < 1496 + N 7 * 5 ∨ 1496 + N 7 * 5 + 5 ≤ j) : waN N k d n a c j = N j := by
  unfold waN
  rw [upN_ne h7, upN_ne (by omega), upN_ne (by omega), upN_ne (by omega), upN_ne (by omega), upN_ne (by omega)]
theorem waN_7 (N : gN0) (k d n a c : Int) : waN N k d n a c 7 = N 7 + 1 := by unfold waN; rw [upN_eq]
theorem waN_f {N : gN0} {k d n a c : Int} (h7 : 0 ≤ N 7) : gF (waN N k d n a c) (N 7) 0 = k ∧ gF (waN N k d n a c) (N 7) 1 = d ∧ gF (waN N k d n a c) (N 7) 2 = n ∧ gF (waN N k d n a c) (N 7) 3 = a ∧ gF (waN N k d n a c) (N 7) 4 = c := by
  unfold gF waN
  refine ⟨?_, ?_, ?_, ?_, ?_⟩
  · rw [upN_ne (by omega), upN_ne (by omega), upN_ne (by omega), upN_ne (by omega), upN_ne (by omega), Int.add_zero, upN_eq]
  · rw [upN_ne (by omega), upN_ne (by omega), upN_ne (by omega), upN_ne (by omega), upN_eq]
  · rw [upN_ne (by omega), upN_ne (by omega), upN_ne (by omega), upN_eq]
  · rw [upN_ne (by omega), upN_ne (by omega), upN_eq]
  · rw [upN_ne (by omega), upN_eq]
theorem LB_wa {q w : Int} {N : gN0} {Sh : gSh} {V V1 V2 : gV} {k d n a c p : Int} (hI : InvC N) (h7 : N 7 < 20) (H : LB q w N Sh V) (hp : gpOk w Sh p) (e1 : V1 = up V (w + 130) (N 7) p) (e2 : V2 = up V1 q 20 (N 7 + 1)) : LB q w (waN N k d n a c) Sh V2 := by
  have hsc := hI.1
  unfold iScal at hsc
  have h3 := fun s s0 s1 => (hI.2.2.2.1 s s0 s1).1
  have h1 := LB_g (by omega) H hp e1
  have hv := h1.2.2.2.2.2.1
  have h2 : LB q w N Sh V2 := by
    refine LB_q (by omega) h1 e2 (by omega) ?_ rfl rfl (fun _ _ => rfl) (fun s s0 s1 => by have := h3 s s0 s1; omega)
    unfold llV at hv ⊢
    rw [e2, up_ne _ _ (Or.inr (by decide)), up_ne _ _ (Or.inr (by decide)), up_ne _ _ (Or.inr (by decide)), up_ne _ _ (Or.inr (by decide)), up_ne _ _ (Or.inr (by decide)), up_ne _ _ (Or.inr (by decide))]
    exact hv
  exact LB_N (by omega) h2 (fun j j0 j1 j7 => waN_ne j7 (by omega)) (fun j hj => waN_ne (by omega) (by omega)) (fun s j s0 s1 j0 j1 => waN_ne (by have := h3 s s0 s1; omega) (by have := h3 s s0 s1; omega)) (fun s s0 s1 => by have := h3 s s0 s1; omega)
theorem LW_wa {q w : Int} {N M : gN0} {Sh : gSh} {V V1 V2 : gV} {k d n a c p : Int} (h7 : 0 ≤ N 7 ∧ N 7 < 20) (hB : LB q w M Sh V) (hW : LW q w N V) (hp : w + 152 ≤ p) (e1 : V1 = up V (w + 130) (N 7) p) (e2 : V2 = up V1 q 20 (N 7 + 1)) (hv : V p 0 = k ∧ V p 1 = d - 8822 ∧ V p 2 = n ∧ V p 3 = a ∧ V p 4 = c) : LW q w (waN N k d n a c) V2 := by
  have hqw := hB.a0
  have eo : ∀ b, b ≠ q → b ≠ w + 130 → V2 b = V b := fun b h1 h2 => by rw [e2, up_row _ _ _ h1, e1, up_row _ _ _ h2]
  have e130 : V2 (w + 130) = V1 (w + 130) := by rw [e2]; exact up_row _ _ _ (by omega)
  refine ⟨by rw [e2, up_eq, waN_7], fun g g0 g1 => ?_⟩
  rw [waN_7] at g1
  by_cases hg : g = N 7
  · subst hg
    obtain ⟨f0, f1, f2, f3, f4⟩ := waN_f (N := N) (k := k) (d := d) (n := n) (a := a) (c := c) h7.1
    rw [e130, e1, up_eq]
    unfold gsL
    rw [eo p (by omega) (by omega), f0, f1, f2, f3, f4]
    exact hv
  · rw [e130, e1, up_ne _ _ (Or.inr hg)]
    have hgp := (hB.gp (i := g) g0 (by omega)).2
    exact gsL_ag (fun j j0 j1 => waN_ne (by omega) (by omega)) (eo _ (by rcases hgp with h | h <;> omega) (by rcases hgp with h | h <;> omega)) (hW.2 g g0 (by omega))

theorem kL_waits {E l Sh V z} {q w n : Int} {N : gN0} {P9 : Int → gN0} {c9 : Int} (hLI : LI n N) (hn : 0 ≤ n ∧ n ≤ 40) (hx : XR (q + 2) N P9 c9 Sh V) (hL : LB q w N Sh V) (hW : LW q w N V) : gM E l yL_waits (.code yL_waits cL_waits 3 (some .boolean)) (rmk 24 400 4000 900) [(2, q)] Sh V z (gAct q w (n + 1)) := by
  refine gM_at (L0 := [(2, q), (9, 0), (9, 0)]) rfl rfl rfl ?_
  intro p e s m args below meth c hC hr hex hnm hz
  have hI0 := hLI.1
  have hI := hI0.1
  have hsc := hI.1
  unfold iScal at hsc
  have hqw := hL.a0
  have hl1 := hLI.2.1
  have hgb := LI.gb hLI (by omega)
  refine gB hC _ _ _ _ _ _ _ qL_waits_0 rfl ?_
  refine g_getiv hC dL_waits_1 fL_111 hL.sL (by decide) rfl 20 rfl hW.v20 (fun i1 => ?_)
  refine gB hC _ _ _ _ _ _ _ qL_waits_4 rfl ?_
  refine g_icmp_ne hC 11 dL_waits_6 rfl (by first | omega | exact cmpZ_in _ _ | exact bI_in _) (by first | omega | exact cmpZ_in _ _ | exact bI_in _) (fun c6 => ?_) (fun c6 => ?_)
  · refine gB hC _ _ _ _ _ _ _ qL_waits_11 rfl ?_
    refine g_getiv hC dL_waits_12 fL_114 hL.sL (by decide) rfl 4 rfl hL.v4 (fun i12 => ?_)
    refine gB hC _ _ _ _ _ _ _ qL_waits_15 rfl ?_
    refine g_getr hC dL_waits_16 fL_52 hL.sL (by decide) rfl 1 rfl hL.p1 ?_
    refine gB hC _ _ _ _ _ _ _ qL_waits_19 rfl ?_
    refine g_dice hC dL_waits_21 mL_147 vX12_next (kX12_next hL.sD (by omega) (by omega)) rfl hL.sD (by decide) rfl (Nat.le_of_ble_eq_true rfl) (RR rfl rfl rfl rfl) (fun zd21 y21 s21 V21 l21 u21 e21 => ?_)
    have hL21 := LB_dc (by omega) hL e21
    have hW21 := LW_dc (by omega) hL e21 hW
    have hx21 := XR_dc (w := w) hx hI0 e21
    refine gB hC _ _ _ _ _ _ _ qL_waits_24 rfl ?_
    refine g_lts (fun hlt => ?_)
    refine g_new_ints hC dL_waits_27 gArr_int rfl (by decide) ⟨by decide, by decide⟩ (fun hz27 => ?_)
    have hzw := (hlt _ _ hL21.sbk).2
    have hnp27 : ∀ i, 0 ≤ i → i < 20 → V21 (w + 130) i ≠ zd21 := fun i i0 i1 hh => by have h8 := (hlt _ _ (hL21.sgR i0 i1)).2; omega
    have hL27 : LB q w N (shp Sh zd21 (100, 5)) (vnew V21 zd21 (fun _ => 0)) := LB_to (by omega) (fun a sh ha => (shp_ne _ _ (fun h => by have := (hlt a sh ha).2; omega)).trans ha) (fun a sh ha _ => vn_ne _ _ (fun h => by have := (hlt a sh ha).2; omega)) hL21
    have hW27 : LW q w N (vnew V21 zd21 (fun _ => 0)) := LW_ag rfl (by omega) (fun _ _ _ => rfl) hL21.2.2.2.2.1 (by rw [vn_ne _ _ (by omega)]) (vn_ne _ _ (by omega)) (fun p hp => vn_ne _ _ (fun h => by have := (hlt _ _ hp.1).2; omega)) hW21
    have hx27 : XR (q + 2) N P9 c9 (shp Sh zd21 (100, 5)) (vnew V21 zd21 (fun _ => 0)) := XR_new hx21 hI0 (by omega) (fun a ha => vn_ne _ _ ha)
    have hnq27 : ∀ i, 0 ≤ i → i < 20 → (vnew V21 zd21 (fun _ => 0)) (w + 130) i ≠ zd21 := fun i i0 i1 => by rw [vn_ne _ _ (by omega)]; exact hnp27 i i0 i1
    refine gB hC _ _ _ _ _ _ _ qL_waits_29 rfl ?_
    refine g_getr hC dL_waits_32 fL_52 hL27.sL (by decide) rfl 1 rfl hL27.p1 ?_
    refine gB hC _ _ _ _ _ _ _ qL_waits_35 rfl ?_
    refine g_dice hC dL_waits_36 mL_147 vX12_next (kX12_next hL27.sD (by omega) (by omega)) rfl hL27.sD (by decide) rfl (Nat.le_of_ble_eq_true rfl) (RR rfl rfl rfl rfl) (fun zd36 y36 s36 V36 l36 u36 e36 => ?_)
    have hL36 := LB_dc (by omega) hL27 e36
    have hW36 := LW_dc (by omega) hL27 e36 hW27
    have hx36 := XR_dc (w := w) hx27 hI0 e36
    have hn36 := np_st hnq27 e36 (by omega)
    refine g_ast hC dL_waits_39 (shp_eq _ _ _) (by decide) (by decide) (by decide) (by first | omega | exact cmpZ_in _ _ | exact bI_in _) (fun V39 e39 => ?_)
    have hW39 := LW_st (by omega) hL36 hn36 (by omega) e39 hW36
    have hn39 := np_st hn36 e39 (by omega)
    have hL39 := LB_p (by omega) hL36 (by omega) e39
    have hx39 := XR_r (w := w) hx36 hI0 hL36 e39 (Or.inr (by omega))
    refine gB hC _ _ _ _ _ _ _ qL_waits_40 rfl ?_
    refine g_ast hC dL_waits_43 (shp_eq _ _ _) (by decide) (by decide) (by decide) (by first | omega | exact cmpZ_in _ _ | exact bI_in _) (fun V43 e43 => ?_)
    have hW43 := LW_st (by omega) hL39 hn39 (by omega) e43 hW39
    have hn43 := np_st hn39 e43 (by omega)
    have hL43 := LB_p (by omega) hL39 (by omega) e43
    have hx43 := XR_r (w := w) hx39 hI0 hL39 e43 (Or.inr (by omega))
    refine gB hC _ _ _ _ _ _ _ qL_waits_44 rfl ?_
    refine g_getr hC dL_waits_48 fL_52 hL43.sL (by decide) rfl 1 rfl hL43.p1 ?_
    refine gB hC _ _ _ _ _ _ _ qL_waits_51 rfl ?_
    refine g_dice hC dL_waits_52 mL_147 vX12_next (kX12_next hL43.sD (by omega) (by omega)) rfl hL43.sD (by decide) rfl (Nat.le_of_ble_eq_true rfl) (RR rfl rfl rfl rfl) (fun zd52 y52 s52 V52 l52 u52 e52 => ?_)
    have hL52 := LB_dc (by omega) hL43 e52
    have hW52 := LW_dc (by omega) hL43 e52 hW43
    have hx52 := XR_dc (w := w) hx43 hI0 e52
    have hn52 := np_st hn43 e52 (by omega)
    refine gB hC _ _ _ _ _ _ _ qL_waits_55 rfl ?_
    refine g_ast hC dL_waits_56 (shp_eq _ _ _) (by decide) (by decide) (by decide) (by first | omega | exact cmpZ_in _ _ | exact bI_in _) (fun V56 e56 => ?_)
    have hW56 := LW_st (by omega) hL52 hn52 (by omega) e56 hW52
    have hn56 := np_st hn52 e56 (by omega)
    have hL56 := LB_p (by omega) hL52 (by omega) e56
    have hx56 := XR_r (w := w) hx52 hI0 hL52 e56 (Or.inr (by omega))
    refine gB hC _ _ _ _ _ _ _ qL_waits_57 rfl ?_
    refine g_getr hC dL_waits_61 fL_52 hL56.sL (by decide) rfl 1 rfl hL56.p1 ?_
    refine gB hC _ _ _ _ _ _ _ qL_waits_64 rfl ?_
    refine g_dice hC dL_waits_65 mL_147 vX12_next (kX12_next hL56.sD (by omega) (by omega)) rfl hL56.sD (by decide) rfl (Nat.le_of_ble_eq_true rfl) (RR rfl rfl rfl rfl) (fun zd65 y65 s65 V65 l65 u65 e65 => ?_)
    have hL65 := LB_dc (by omega) hL56 e65
    have hW65 := LW_dc (by omega) hL56 e65 hW56
    have hx65 := XR_dc (w := w) hx56 hI0 e65
    have hn65 := np_st hn56 e65 (by omega)
    refine gB hC _ _ _ _ _ _ _ qL_waits_68 rfl ?_
    refine g_ast hC dL_waits_69 (shp_eq _ _ _) (by decide) (by decide) (by decide) (by first | omega | exact cmpZ_in _ _ | exact bI_in _) (fun V69 e69 => ?_)
    have hW69 := LW_st (by omega) hL65 hn65 (by omega) e69 hW65
    have hn69 := np_st hn65 e69 (by omega)
    have hL69 := LB_p (by omega) hL65 (by omega) e69
    have hx69 := XR_r (w := w) hx65 hI0 hL65 e69 (Or.inr (by omega))
    refine gB hC _ _ _ _ _ _ _ qL_waits_70 rfl ?_
    refine g_getr hC dL_waits_73 fL_52 hL69.sL (by decide) rfl 1 rfl hL69.p1 ?_
    refine gB hC _ _ _ _ _ _ _ qL_waits_76 rfl ?_
    refine g_dice hC dL_waits_77 mL_147 vX12_next (kX12_next hL69.sD (by omega) (by omega)) rfl hL69.sD (by decide) rfl (Nat.le_of_ble_eq_true rfl) (RR rfl rfl rfl rfl) (fun zd77 y77 s77 V77 l77 u77 e77 => ?_)
    have hL77 := LB_dc (by omega) hL69 e77
    have hW77 := LW_dc (by omega) hL69 e77 hW69
    have hx77 := XR_dc (w := w) hx69 hI0 e77
    have hn77 := np_st hn69 e77 (by omega)
    refine g_ast hC dL_waits_80 (shp_eq _ _ _) (by decide) (by decide) (by decide) (by first | omega | exact cmpZ_in _ _ | exact bI_in _) (fun V80 e80 => ?_)
    have hW80 := LW_st (by omega) hL77 hn77 (by omega) e80 hW77
    have hn80 := np_st hn77 e80 (by omega)
    have hL80 := LB_p (by omega) hL77 (by omega) e80
    have hx80 := XR_r (w := w) hx77 hI0 hL77 e80 (Or.inr (by omega))
    refine gB hC _ _ _ _ _ _ _ qL_waits_81 rfl ?_
    refine g_getr hC dL_waits_83 fL_45 hL80.sL (by decide) rfl 19 rfl hL80.p19 ?_
    refine gB hC _ _ _ _ _ _ _ qL_waits_86 rfl ?_
    refine g_getiv hC dL_waits_87 fL_111 hL80.sL (by decide) rfl 20 rfl hW80.v20 (fun i87 => ?_)
    refine gB hC _ _ _ _ _ _ _ qL_waits_90 rfl ?_
    refine g_aastA hC dL_waits_91 hL80.sgO (shp_eq _ _ _) (by omega) (by omega) (by decide) (fun V91 e91 => ?_)
    have r0 : V80 zd21 0 = y36 := by rw [e80, up_ne _ _ (Or.inr (by decide)), e77, up_row _ _ _ (by omega), e69, up_ne _ _ (Or.inr (by decide)), e65, up_row _ _ _ (by omega), e56, up_ne _ _ (Or.inr (by decide)), e52, up_row _ _ _ (by omega), e43, up_ne _ _ (Or.inr (by decide)), e39, up_eq]
    have r1 : V80 zd21 1 = N 0 - 8822 + y21 := by rw [e80, up_ne _ _ (Or.inr (by decide)), e77, up_row _ _ _ (by omega), e69, up_ne _ _ (Or.inr (by decide)), e65, up_row _ _ _ (by omega), e56, up_ne _ _ (Or.inr (by decide)), e52, up_row _ _ _ (by omega), e43, up_eq]
    have r2 : V80 zd21 2 = 1 + y52 := by rw [e80, up_ne _ _ (Or.inr (by decide)), e77, up_row _ _ _ (by omega), e69, up_ne _ _ (Or.inr (by decide)), e65, up_row _ _ _ (by omega), e56, up_eq]
    have r3 : V80 zd21 3 = 1 + y65 := by rw [e80, up_ne _ _ (Or.inr (by decide)), e77, up_row _ _ _ (by omega), e69, up_eq]
    have r4 : V80 zd21 4 = y77 := by rw [e80, up_eq]
    have hL91 := LB_g (by omega) hL80 ⟨shp_eq _ _ _, Or.inr (by omega)⟩ e91
    have hx91 := XR_r (w := w) hx80 hI0 hL80 e91 (Or.inr (by omega))
    refine gB hC _ _ _ _ _ _ _ qL_waits_92 rfl ?_
    
    refine g_getiv hC dL_waits_94 fL_111 hL91.sL (by decide) rfl 20 rfl (show V91 q 20 = N 7 by rw [e91, up_row _ _ _ (by omega)]; exact hW80.1) (fun i94 => ?_)
    refine gB hC _ _ _ _ _ _ _ qL_waits_97 rfl ?_
    refine g_puti hC dL_waits_99 fL_111 hL91.sL (by decide) rfl (fun _ h => by cases h; rfl) 20 rfl (by first | omega | exact cmpZ_in _ _ | exact bI_in _) (fun V99 e99 => ?_)
    have hLw : LB q w (waN N y36 (8822 + (N 0 - 8822 + y21)) (1 + y52) (1 + y65) y77) _ V99 := LB_wa hI (by omega) hL80 ⟨shp_eq _ _ _, Or.inr (by omega)⟩ e91 e99
    have hWw : LW q w (waN N y36 (8822 + (N 0 - 8822 + y21)) (1 + y52) (1 + y65) y77) V99 := LW_wa (by omega) hL80 hW80 (by omega) e91 e99 ⟨r0, by rw [r1]; omega, r2, r3, r4⟩
    have hx99 := XR_r (w := w) hx91 hI0 hL91 e99 (Or.inl rfl)
    have e7w : (waN N y36 (8822 + (N 0 - 8822 + y21)) (1 + y52) (1 + y65) y77) 7 = N 7 + 1 := waN_7 _ _ _ _ _ _
    have rr : V99 zd21 = V80 zd21 := by rw [e99, up_row _ _ _ (by omega), e91, up_row _ _ _ (by omega)]
    have t0 : V99 zd21 0 = y36 := by rw [rr]; exact r0
    have t2 : V99 zd21 2 = 1 + y52 := by rw [rr]; exact r2
    have t3 : V99 zd21 3 = 1 + y65 := by rw [rr]; exact r3
    have t4 : V99 zd21 4 = y77 := by rw [rr]; exact r4
    have hIw : INV (waN N y36 (8822 + (N 0 - 8822 + y21)) (1 + y52) (1 + y65) y77) := wa_inv hI0 (by omega) (by omega) (by omega) (by omega) (by omega) (by omega)
    have hsw := hIw.1.1
    unfold iScal at hsw
    refine gB hC _ _ _ _ _ _ _ qL_waits_102 rfl ?_
    refine g_getr hC dL_waits_103 fL_10 hLw.sL (by decide) rfl 0 rfl hLw.p0 ?_
    refine gB hC _ _ _ _ _ _ _ qL_waits_106 rfl ?_
    refine g_iald hC dL_waits_108 (shp_eq _ _ _) t0 (by decide) (by decide) (by decide) (fun i108 => ?_)
    refine gB hC _ _ _ _ _ _ _ qL_waits_109 rfl ?_
    refine g_getr hC dL_waits_110 fL_16 hLw.sL (by decide) rfl 2 rfl hLw.p2 ?_
    refine gB hC _ _ _ _ _ _ _ qL_waits_113 rfl ?_
    refine g_iald hC dL_waits_114 hLw.sdt (hLw.dt (by omega) (by omega)) (by omega) (by omega) (by decide) (fun i114 => ?_)
    refine gB hC _ _ _ _ _ _ _ qL_waits_115 rfl ?_
    refine g_iald hC dL_waits_117 (shp_eq _ _ _) t2 (by decide) (by decide) (by decide) (fun i117 => ?_)
    refine gB hC _ _ _ _ _ _ _ qL_waits_118 rfl ?_
    refine g_iald hC dL_waits_120 (shp_eq _ _ _) t3 (by decide) (by decide) (by decide) (fun i120 => ?_)
    refine gB hC _ _ _ _ _ _ _ qL_waits_121 rfl ?_
    refine g_iald hC dL_waits_123 (shp_eq _ _ _) t4 (by decide) (by decide) (by decide) (fun i123 => ?_)
    refine g_cV1e hC dL_waits_124 mL_176 vX11_waitFor (xwaitFor hx99 hI0 (by omega) (by omega) (by omega) (by omega) (by omega) (by omega) (by omega)) rfl hLw.sX (by decide) rfl (Nat.le_of_ble_eq_true rfl) (RR rfl rfl rfl rfl) (fun z V124 e124 => ?_)
    have hx124 := e124.1
    have hL124 := LB_x (by omega) hLw e124.2
    have hW124 := LW_x (by omega) hLw e124.2 hWw
    refine gB hC _ _ _ _ _ _ _ qL_waits_127 rfl ?_
    refine g_getiv hC dL_waits_128 fL_111 hL124.sL (by decide) rfl 20 rfl (hW124.v20.trans e7w) (fun i128 => ?_)
    refine g_icmp_ne hC 138 dL_waits_131 rfl (by first | omega | exact cmpZ_in _ _ | exact bI_in _) (by first | omega | exact cmpZ_in _ _ | exact bI_in _) (fun c131 => ?_) (fun c131 => ?_)
    · exact absurd c131 (by omega) --stop
    · refine gB hC _ _ _ _ _ _ _ qL_waits_134 rfl ?_
      refine g_zreturn hC dL_waits_139 hr ?_ (gAct_mk (LI_mono (LI_wa hLI hIw (by omega) (by omega) (by omega)) (by omega)) hx124 hL124 hW124) gs_rfl ⟨Nat.le_of_ble_eq_true rfl, Nat.le_of_ble_eq_true rfl⟩
      exact Or.inr rfl
  · refine gB hC _ _ _ _ _ _ _ qL_waits_9 rfl ?_
    refine g_zreturn hC dL_waits_10 hr ?_ (gAct_mk (LI_mono hLI (by omega)) hx hL hW) gs_rfl ⟨Nat.le_of_ble_eq_true rfl, Nat.le_of_ble_eq_true rfl⟩
    exact Or.inr rfl
