/-! cases of the law (laid by wip/whole/gen9i.py) -/
section LC
variable {E : gE} {p : Program} {l : Launch} {e : Env} {s : State} {m : MethodId} {args : Array Value} {below : List Frame} {meth : Method} {c : Code} {Q : State → Prop} {pc k n : Nat} {Sh : gSh} {V : gV} {z : Int}
variable {b0 Ls : Nat} {xs : Nat → Int32} {x b o d i cc : Int} {N : gN0} {P9 : Int → gN0}
theorem lc_minutes (hC : gC E RL cL_law 10 p l s m args meth c) (hX : va_X b0 Ls xs s s.heap) (hb0 : b0 < s.heap.size) (hbE : b0 < E.1) (hLs : Ls ≤ 3584) (hi0 : 0 ≤ i) (hi7 : i + 7 ≤ Ls) (H : LI x b o d Sh V N P9 cc) (hk : k + 60 ≤ 601024) (hn : n + 600 ≤ 7293033)
    (K : ∀ (N2 : gN0) (P2 : Int → gN0) (c2 : Int) (V2 : gV) (z2 : Int), LI x b o d Sh V2 N2 P2 c2 → gG E 10 p l e room_1 s m args below meth c Q 2865 [(2, (b0 : Int)), (2, x), (2, b), (2, o), (2, d), (0, i), (9, 0), (9, 0), (9, 0), (9, 0)] [] Sh V2 z2 (k + 60) (n + 600)) : gG E 10 p l e room_1 s m args below meth c Q 2485 [(2, (b0 : Int)), (2, x), (2, b), (2, o), (2, d), (0, i), (9, 0), (9, 0), (9, 0), (9, 0)] [] Sh V z k n := by
  refine gB hC _ _ _ _ _ _ _ qL_law_2485 rfl ?_
  refine g_sld hC hX hb0 hbE dL_law_2491 (by omega) (by omega) hLs ?_
  refine gB hC _ _ _ _ _ _ _ qL_law_2492 rfl ?_
  refine g_callSW hC _ dL_law_2493 mL_263 wL_minutes (wL_minutes_of (o := o) H.sx H.so  ft2 ft3 (fun z => kX11_minutes H.xr H.inv (sv_in xs (i + 1)))) rfl rfl (Nat.le_of_ble_eq_true rfl) ⟨⟨Nat.le_of_ble_eq_true rfl, Nat.le_of_ble_eq_true rfl⟩, hk, hn⟩ (fun r0 S1 V1 z1 h => ?_) (fun X S1 V1 z1 h => nomatch h.1)
  obtain ⟨h1, rfl, hw⟩ := h
  cases h1
  refine g_widen (k' := k + 60) (n' := n + 600) (Nat.le_refl _) (Nat.le_refl _) ?_
  obtain ⟨e1, g1, g2⟩ := LI_w H (Or.inl rfl) (fun _ => H.inv) hw
  obtain ⟨m1, m2, m3, m4⟩ := LI_m H e1
  refine gB hC _ _ _ _ _ _ _ qL_law_2496 rfl ?_
  refine g_sld hC hX hb0 hbE dL_law_2504 (by omega) (by omega) hLs ?_
  refine g_callV hC _ dL_law_2505 mL_265 vX12_minutes (kX12_minutes m1 H.inv (sv_in xs (i + 1))) rfl H.sb (by decide) rfl (Nat.le_of_ble_eq_true rfl) ⟨⟨Nat.le_of_ble_eq_true rfl, Nat.le_of_ble_eq_true rfl⟩, hk, hn⟩ (fun r0 S2 V2 z2 h => ?_) (fun X S2 V2 z2 h => nomatch h.1)
  obtain ⟨h1, rfl, h2, h3⟩ := h
  cases h1
  refine g_widen (k' := k + 60) (n' := n + 600) (Nat.le_refl _) (Nat.le_refl _) ?_
  obtain ⟨t1, t2, N2, P2, c2, t3⟩ := LI_rdr (V2 := V2) (Or.inl rfl) H e1 g1 g2 (by rw [h2]; exact AGo.ife (AGo.rh _ _ _ _))
  exact g_tailI hC 2508 qL_law_2508 dL_law_2511 qL_law_2514 dL_law_2516 qL_law_2521 dL_law_2523 qL_law_2526 dL_law_2528 qL_law_2529 dL_law_2531 dL_law_2532 dL_law_2533 qL_law_2538 t3 ft_in t1 t2 rfl hk hn (fun z' => K N2 P2 c2 V2 z' t3)
theorem lc_rounds (hC : gC E RL cL_law 10 p l s m args meth c) (hX : va_X b0 Ls xs s s.heap) (hb0 : b0 < s.heap.size) (hbE : b0 < E.1) (hLs : Ls ≤ 3584) (hi0 : 0 ≤ i) (hi7 : i + 7 ≤ Ls) (H : LI x b o d Sh V N P9 cc) (hk : k + 60 ≤ 601024) (hn : n + 600 ≤ 7293033)
    (K : ∀ (N2 : gN0) (P2 : Int → gN0) (c2 : Int) (V2 : gV) (z2 : Int), LI x b o d Sh V2 N2 P2 c2 → gG E 10 p l e room_1 s m args below meth c Q 2865 [(2, (b0 : Int)), (2, x), (2, b), (2, o), (2, d), (0, i), (9, 0), (9, 0), (9, 0), (9, 0)] [] Sh V2 z2 (k + 60) (n + 600)) : gG E 10 p l e room_1 s m args below meth c Q 2541 [(2, (b0 : Int)), (2, x), (2, b), (2, o), (2, d), (0, i), (9, 0), (9, 0), (9, 0), (9, 0)] [] Sh V z k n := by
  refine gB hC _ _ _ _ _ _ _ qL_law_2541 rfl ?_
  refine g_sld hC hX hb0 hbE dL_law_2547 (by omega) (by omega) hLs ?_
  refine gB hC _ _ _ _ _ _ _ qL_law_2548 rfl ?_
  refine g_callSW hC _ dL_law_2549 mL_266 wL_rounds (wL_rounds_of (o := o) H.sx H.so  ft2 ft3 (fun z => kX11_rounds H.xr H.inv (sv_in xs (i + 1)))) rfl rfl (Nat.le_of_ble_eq_true rfl) ⟨⟨Nat.le_of_ble_eq_true rfl, Nat.le_of_ble_eq_true rfl⟩, hk, hn⟩ (fun r0 S1 V1 z1 h => ?_) (fun X S1 V1 z1 h => nomatch h.1)
  obtain ⟨h1, rfl, hw⟩ := h
  cases h1
  refine g_widen (k' := k + 60) (n' := n + 600) (Nat.le_refl _) (Nat.le_refl _) ?_
  obtain ⟨e1, g1, g2⟩ := LI_w H (Or.inl rfl) (fun _ => H.inv) hw
  obtain ⟨m1, m2, m3, m4⟩ := LI_m H e1
  refine gB hC _ _ _ _ _ _ _ qL_law_2552 rfl ?_
  refine g_sld hC hX hb0 hbE dL_law_2560 (by omega) (by omega) hLs ?_
  refine g_callV hC _ dL_law_2561 mL_268 vX12_rounds (kX12_rounds m1 H.inv (sv_in xs (i + 1))) rfl H.sb (by decide) rfl (Nat.le_of_ble_eq_true rfl) ⟨⟨Nat.le_of_ble_eq_true rfl, Nat.le_of_ble_eq_true rfl⟩, hk, hn⟩ (fun r0 S2 V2 z2 h => ?_) (fun X S2 V2 z2 h => nomatch h.1)
  obtain ⟨h1, rfl, h2, h3⟩ := h
  cases h1
  refine g_widen (k' := k + 60) (n' := n + 600) (Nat.le_refl _) (Nat.le_refl _) ?_
  obtain ⟨t1, t2, N2, P2, c2, t3⟩ := LI_rdr (V2 := V2) (Or.inl rfl) H e1 g1 g2 (by rw [h2]; exact AGo.ife (AGo.rh _ _ _ _))
  exact g_tailI hC 2564 qL_law_2564 dL_law_2567 qL_law_2570 dL_law_2572 qL_law_2577 dL_law_2579 qL_law_2582 dL_law_2584 qL_law_2585 dL_law_2587 dL_law_2588 dL_law_2589 qL_law_2594 t3 ft_in t1 t2 rfl hk hn (fun z' => K N2 P2 c2 V2 z' t3)
theorem lc_monthNights (hC : gC E RL cL_law 10 p l s m args meth c) (hX : va_X b0 Ls xs s s.heap) (hb0 : b0 < s.heap.size) (hbE : b0 < E.1) (hLs : Ls ≤ 3584) (hi0 : 0 ≤ i) (hi7 : i + 7 ≤ Ls) (H : LI x b o d Sh V N P9 cc) (hk : k + 60 ≤ 601024) (hn : n + 600 ≤ 7293033)
    (K : ∀ (N2 : gN0) (P2 : Int → gN0) (c2 : Int) (V2 : gV) (z2 : Int), LI x b o d Sh V2 N2 P2 c2 → gG E 10 p l e room_1 s m args below meth c Q 2865 [(2, (b0 : Int)), (2, x), (2, b), (2, o), (2, d), (0, i), (9, 0), (9, 0), (9, 0), (9, 0)] [] Sh V2 z2 (k + 60) (n + 600)) : gG E 10 p l e room_1 s m args below meth c Q 2597 [(2, (b0 : Int)), (2, x), (2, b), (2, o), (2, d), (0, i), (9, 0), (9, 0), (9, 0), (9, 0)] [] Sh V z k n := by
  refine gB hC _ _ _ _ _ _ _ qL_law_2597 rfl ?_
  refine g_sld hC hX hb0 hbE dL_law_2603 (by omega) (by omega) hLs ?_
  refine gB hC _ _ _ _ _ _ _ qL_law_2604 rfl ?_
  refine g_callSW hC _ dL_law_2605 mL_269 wL_monthNights (wL_monthNights_of (o := o) H.sx H.so  ft2 ft3 (fun z => kX11_monthNights H.xr H.inv (sv_in xs (i + 1)))) rfl rfl (Nat.le_of_ble_eq_true rfl) ⟨⟨Nat.le_of_ble_eq_true rfl, Nat.le_of_ble_eq_true rfl⟩, hk, hn⟩ (fun r0 S1 V1 z1 h => ?_) (fun X S1 V1 z1 h => nomatch h.1)
  obtain ⟨h1, rfl, hw⟩ := h
  cases h1
  refine g_widen (k' := k + 60) (n' := n + 600) (Nat.le_refl _) (Nat.le_refl _) ?_
  obtain ⟨e1, g1, g2⟩ := LI_w H (Or.inl rfl) (fun _ => H.inv) hw
  obtain ⟨m1, m2, m3, m4⟩ := LI_m H e1
  refine gB hC _ _ _ _ _ _ _ qL_law_2608 rfl ?_
  refine g_sld hC hX hb0 hbE dL_law_2616 (by omega) (by omega) hLs ?_
  refine g_callV hC _ dL_law_2617 mL_271 vX12_monthNights (kX12_monthNights m1 H.inv (sv_in xs (i + 1))) rfl H.sb (by decide) rfl (Nat.le_of_ble_eq_true rfl) ⟨⟨Nat.le_of_ble_eq_true rfl, Nat.le_of_ble_eq_true rfl⟩, hk, hn⟩ (fun r0 S2 V2 z2 h => ?_) (fun X S2 V2 z2 h => nomatch h.1)
  obtain ⟨h1, rfl, h2, h3⟩ := h
  cases h1
  refine g_widen (k' := k + 60) (n' := n + 600) (Nat.le_refl _) (Nat.le_refl _) ?_
  obtain ⟨t1, t2, N2, P2, c2, t3⟩ := LI_rdr (V2 := V2) (Or.inl rfl) H e1 g1 g2 (by rw [h2]; exact AGo.rfl' _ _)
  exact g_tailI hC 2620 qL_law_2620 dL_law_2623 qL_law_2626 dL_law_2628 qL_law_2633 dL_law_2635 qL_law_2638 dL_law_2640 qL_law_2641 dL_law_2643 dL_law_2644 dL_law_2645 qL_law_2650 t3 ft_in t1 t2 rfl hk hn (fun z' => K N2 P2 c2 V2 z' t3)
theorem lc_monthIncome (hC : gC E RL cL_law 10 p l s m args meth c) (hX : va_X b0 Ls xs s s.heap) (hb0 : b0 < s.heap.size) (hbE : b0 < E.1) (hLs : Ls ≤ 3584) (hi0 : 0 ≤ i) (hi7 : i + 7 ≤ Ls) (H : LI x b o d Sh V N P9 cc) (hk : k + 60 ≤ 601024) (hn : n + 600 ≤ 7293033)
    (K : ∀ (N2 : gN0) (P2 : Int → gN0) (c2 : Int) (V2 : gV) (z2 : Int), LI x b o d Sh V2 N2 P2 c2 → gG E 10 p l e room_1 s m args below meth c Q 2865 [(2, (b0 : Int)), (2, x), (2, b), (2, o), (2, d), (0, i), (9, 0), (9, 0), (9, 0), (9, 0)] [] Sh V2 z2 (k + 60) (n + 600)) : gG E 10 p l e room_1 s m args below meth c Q 2653 [(2, (b0 : Int)), (2, x), (2, b), (2, o), (2, d), (0, i), (9, 0), (9, 0), (9, 0), (9, 0)] [] Sh V z k n := by
  refine gB hC _ _ _ _ _ _ _ qL_law_2653 rfl ?_
  refine g_sld hC hX hb0 hbE dL_law_2659 (by omega) (by omega) hLs ?_
  refine gB hC _ _ _ _ _ _ _ qL_law_2660 rfl ?_
  refine g_callSW hC _ dL_law_2661 mL_272 wL_monthIncome (wL_monthIncome_of (o := o) H.sx H.so (fun _ => mi_in H.inv _) ft2 ft3 (fun z => kX11_monthIncome H.xr H.inv (sv_in xs (i + 1)))) rfl rfl (Nat.le_of_ble_eq_true rfl) ⟨⟨Nat.le_of_ble_eq_true rfl, Nat.le_of_ble_eq_true rfl⟩, hk, hn⟩ (fun r0 S1 V1 z1 h => ?_) (fun X S1 V1 z1 h => nomatch h.1)
  obtain ⟨h1, rfl, hw⟩ := h
  cases h1
  refine g_widen (k' := k + 60) (n' := n + 600) (Nat.le_refl _) (Nat.le_refl _) ?_
  obtain ⟨e1, g1, g2⟩ := LI_w H (Or.inl rfl) (fun _ => H.inv) hw
  obtain ⟨m1, m2, m3, m4⟩ := LI_m H e1
  refine gB hC _ _ _ _ _ _ _ qL_law_2664 rfl ?_
  refine g_sld hC hX hb0 hbE dL_law_2672 (by omega) (by omega) hLs ?_
  refine g_callV hC _ dL_law_2673 mL_274 vX12_monthIncome (kX12_monthIncome m1 H.inv (sv_in xs (i + 1))) rfl H.sb (by decide) rfl (Nat.le_of_ble_eq_true rfl) ⟨⟨Nat.le_of_ble_eq_true rfl, Nat.le_of_ble_eq_true rfl⟩, hk, hn⟩ (fun r0 S2 V2 z2 h => ?_) (fun X S2 V2 z2 h => nomatch h.1)
  obtain ⟨h1, rfl, h2, h3⟩ := h
  cases h1
  refine g_widen (k' := k + 60) (n' := n + 600) (Nat.le_refl _) (Nat.le_refl _) ?_
  obtain ⟨t1, t2, N2, P2, c2, t3⟩ := LI_rdr (V2 := V2) (Or.inl rfl) H e1 g1 g2 (by rw [h2]; exact AGo.rfl' _ _)
  exact g_tailL hC 2676 qL_law_2676 dL_law_2679 qL_law_2682 dL_law_2684 qL_law_2689 dL_law_2691 qL_law_2694 dL_law_2696 qL_law_2697 dL_law_2699 dL_law_2700 qL_law_2705 t3 ft_in t1 t2 rfl (fun hc => by rw [if_pos hc] at h3; exact h3) hk hn (fun z' => K N2 P2 c2 V2 z' t3)
theorem lc_meanPrice (hC : gC E RL cL_law 10 p l s m args meth c) (hX : va_X b0 Ls xs s s.heap) (hb0 : b0 < s.heap.size) (hbE : b0 < E.1) (hLs : Ls ≤ 3584) (hi0 : 0 ≤ i) (hi7 : i + 7 ≤ Ls) (H : LI x b o d Sh V N P9 cc) (hk : k + 60 ≤ 601024) (hn : n + 600 ≤ 7293033)
    (K : ∀ (N2 : gN0) (P2 : Int → gN0) (c2 : Int) (V2 : gV) (z2 : Int), LI x b o d Sh V2 N2 P2 c2 → gG E 10 p l e room_1 s m args below meth c Q 2865 [(2, (b0 : Int)), (2, x), (2, b), (2, o), (2, d), (0, i), (9, 0), (9, 0), (9, 0), (9, 0)] [] Sh V2 z2 (k + 60) (n + 600)) : gG E 10 p l e room_1 s m args below meth c Q 2708 [(2, (b0 : Int)), (2, x), (2, b), (2, o), (2, d), (0, i), (9, 0), (9, 0), (9, 0), (9, 0)] [] Sh V z k n := by
  refine gB hC _ _ _ _ _ _ _ qL_law_2708 rfl ?_
  refine g_callV hC _ dL_law_2709 mL_275 vX11_meanPrice (kX11_meanPrice H.xr H.inv) rfl H.sx (by decide) rfl (Nat.le_of_ble_eq_true rfl) ⟨⟨Nat.le_of_ble_eq_true rfl, Nat.le_of_ble_eq_true rfl⟩, hk, hn⟩ (fun r0 S1 V1 z1 h => ?_) (fun X S1 V1 z1 h => nomatch h.1)
  obtain ⟨h1, rfl, g1, g2⟩ := h
  cases h1
  refine g_widen (k' := k + 60) (n' := n + 600) (Nat.le_refl _) (Nat.le_refl _) ?_
  have e1 : OUO x o d _ V V1 := OUX.ouo g2
  obtain ⟨m1, m2, m3, m4⟩ := LI_m H e1
  refine g_dstore hC dL_law_2712 rfl ?_
  refine gB hC _ _ _ _ _ _ _ qL_law_2714 rfl ?_
  refine g_callV hC _ dL_law_2715 mL_279 vX12_meanPrice (kX12_meanPrice m1 H.inv) rfl H.sb (by decide) rfl (Nat.le_of_ble_eq_true rfl) ⟨⟨Nat.le_of_ble_eq_true rfl, Nat.le_of_ble_eq_true rfl⟩, hk, hn⟩ (fun r0 S2 V2 z2 h => ?_) (fun X S2 V2 z2 h => nomatch h.1)
  obtain ⟨h1, rfl, h2⟩ := h
  cases h1
  refine g_widen (k' := k + 60) (n' := n + 600) (Nat.le_refl _) (Nat.le_refl _) ?_
  obtain ⟨-, t3, -⟩ := LI_rd (V2 := V2) H e1 g1 (C := 0) (by rw [h2]; exact AGo.rfl' _ _)
  have hmn := (mp_in H.inv.1 (N 5).toNat (by have := H.inv.1.1; unfold iScal at this; omega)).2.2
  have hv : vf_n64 (meB (mpP N (N 5).toNat) (mpN N (N 5).toNat)) := meB_n (by have := H.inv.1.1; unfold iScal at this; omega)
  refine g_dstore hC dL_law_2718 rfl ?_
  refine g_dload hC (i := 6) (x := meB (mpP N (N 5).toNat) (mpN N (N 5).toNat)) dL_law_2720 rfl ?_
  refine g_dload hC (i := 8) (x := meB (mpP N (N 5).toNat) (mpN N (N 5).toNat)) dL_law_2722 rfl ?_
  refine g_dcmpS hC dL_law_2724 hv ?_
  refine g_if_eq hC 2746 dL_law_2725 rfl (by decide) (fun _ => ?_) (fun q => absurd rfl q)
  refine gB hC _ _ _ _ _ _ _ qL_law_2746 rfl ?_
  exact g_fgt4 (K _ _ _ V2 z2 t3)
theorem lc_share (hC : gC E RL cL_law 10 p l s m args meth c) (hX : va_X b0 Ls xs s s.heap) (hb0 : b0 < s.heap.size) (hbE : b0 < E.1) (hLs : Ls ≤ 3584) (hi0 : 0 ≤ i) (hi7 : i + 7 ≤ Ls) (H : LI x b o d Sh V N P9 cc) (hk : k + 60 ≤ 601024) (hn : n + 600 ≤ 7293033)
    (K : ∀ (N2 : gN0) (P2 : Int → gN0) (c2 : Int) (V2 : gV) (z2 : Int), LI x b o d Sh V2 N2 P2 c2 → gG E 10 p l e room_1 s m args below meth c Q 2865 [(2, (b0 : Int)), (2, x), (2, b), (2, o), (2, d), (0, i), (9, 0), (9, 0), (9, 0), (9, 0)] [] Sh V2 z2 (k + 60) (n + 600)) : gG E 10 p l e room_1 s m args below meth c Q 2749 [(2, (b0 : Int)), (2, x), (2, b), (2, o), (2, d), (0, i), (9, 0), (9, 0), (9, 0), (9, 0)] [] Sh V z k n := by
  refine gB hC _ _ _ _ _ _ _ qL_law_2749 rfl ?_
  refine g_sld hC hX hb0 hbE dL_law_2755 (by omega) (by omega) hLs ?_
  refine gB hC _ _ _ _ _ _ _ qL_law_2756 rfl ?_
  refine g_sld hC hX hb0 hbE dL_law_2761 (by omega) (by omega) hLs ?_
  refine gB hC _ _ _ _ _ _ _ qL_law_2762 rfl ?_
  refine g_callSW hC _ dL_law_2764 mL_280 wL_share (wL_share_of (d := d) H.sx H.sd (fun hc => sh_n H.inv (fit_p1 hc) _) ft3 (fun z => kX11_share H.xr H.inv (sv_in xs (i + 1)) (sv_in xs (i + 2)))) rfl rfl (Nat.le_of_ble_eq_true rfl) ⟨⟨Nat.le_of_ble_eq_true rfl, Nat.le_of_ble_eq_true rfl⟩, hk, hn⟩ (fun r0 S1 V1 z1 h => ?_) (fun X S1 V1 z1 h => nomatch h.1)
  obtain ⟨h1, rfl, hw⟩ := h
  cases h1
  refine g_widen (k' := k + 60) (n' := n + 600) (Nat.le_refl _) (Nat.le_refl _) ?_
  obtain ⟨e1, g1, g2⟩ := LI_w H (Or.inr rfl) (fun _ => H.inv) hw
  obtain ⟨m1, m2, m3, m4⟩ := LI_m H e1
  refine gB hC _ _ _ _ _ _ _ qL_law_2767 rfl ?_
  refine g_sld hC hX hb0 hbE dL_law_2775 (by omega) (by omega) hLs ?_
  refine gB hC _ _ _ _ _ _ _ qL_law_2776 rfl ?_
  refine g_sld hC hX hb0 hbE dL_law_2781 (by omega) (by omega) hLs ?_
  refine g_callV hC _ dL_law_2782 mL_283 vX12_share (kX12_share m1 H.inv (sv_in xs (i + 1)) (sv_in xs (i + 2))) rfl H.sb (by decide) rfl (Nat.le_of_ble_eq_true rfl) ⟨⟨Nat.le_of_ble_eq_true rfl, Nat.le_of_ble_eq_true rfl⟩, hk, hn⟩ (fun r0 S2 V2 z2 h => ?_) (fun X S2 V2 z2 h => nomatch h.1)
  obtain ⟨h1, rfl, h2⟩ := h
  cases h1
  refine g_widen (k' := k + 60) (n' := n + 600) (Nat.le_refl _) (Nat.le_refl _) ?_
  obtain ⟨t1, t2, N2, P2, c2, t3⟩ := LI_rdr (V2 := V2) (Or.inr rfl) H e1 g1 g2 (by rw [h2]; exact AGo.rfl' _ _)
  exact g_tailS hC t3 ft_in t1 t2 (fun hc => if_pos hc) (fun hc => sh_n H.inv (fit_p1 hc) _) hk hn (fun z' => K N2 P2 c2 V2 z' t3)
theorem lc_checksum (hC : gC E RL cL_law 10 p l s m args meth c) (hX : va_X b0 Ls xs s s.heap) (hb0 : b0 < s.heap.size) (hbE : b0 < E.1) (hLs : Ls ≤ 3584) (hi0 : 0 ≤ i) (hi7 : i + 7 ≤ Ls) (H : LI x b o d Sh V N P9 cc) (hk : k + 60 ≤ 601024) (hn : n + 600 ≤ 7293033)
    (K : ∀ (N2 : gN0) (P2 : Int → gN0) (c2 : Int) (V2 : gV) (z2 : Int), LI x b o d Sh V2 N2 P2 c2 → gG E 10 p l e room_1 s m args below meth c Q 2865 [(2, (b0 : Int)), (2, x), (2, b), (2, o), (2, d), (0, i), (9, 0), (9, 0), (9, 0), (9, 0)] [] Sh V2 z2 (k + 60) (n + 600)) : gG E 10 p l e room_1 s m args below meth c Q 2839 [(2, (b0 : Int)), (2, x), (2, b), (2, o), (2, d), (0, i), (9, 0), (9, 0), (9, 0), (9, 0)] [] Sh V z k n := by
  refine gB hC _ _ _ _ _ _ _ qL_law_2839 rfl ?_
  refine g_callV hC _ dL_law_2840 mL_284 vX11_checksum (kX11_checksum H.xr H.inv) rfl H.sx (by decide) rfl (Nat.le_of_ble_eq_true rfl) ⟨⟨Nat.le_of_ble_eq_true rfl, Nat.le_of_ble_eq_true rfl⟩, hk, hn⟩ (fun r0 S1 V1 z1 h => ?_) (fun X S1 V1 z1 h => nomatch h.1)
  obtain ⟨h1, rfl, g1, g2⟩ := h
  cases h1
  refine g_widen (k' := k + 60) (n' := n + 600) (Nat.le_refl _) (Nat.le_refl _) ?_
  have e1 : OUO x o d _ V V1 := OUX.ouo g2
  obtain ⟨m1, m2, m3, m4⟩ := LI_m H e1
  refine gB hC _ _ _ _ _ _ _ qL_law_2843 rfl ?_
  refine g_callV hC _ dL_law_2844 mL_287 vX12_checksum (kX12_checksum m1 H.inv) rfl H.sb (by decide) rfl (Nat.le_of_ble_eq_true rfl) ⟨⟨Nat.le_of_ble_eq_true rfl, Nat.le_of_ble_eq_true rfl⟩, hk, hn⟩ (fun r0 S2 V2 z2 h => ?_) (fun X S2 V2 z2 h => nomatch h.1)
  obtain ⟨h1, rfl, h2, h3⟩ := h
  cases h1
  refine g_widen (k' := k + 60) (n' := n + 600) (Nat.le_refl _) (Nat.le_refl _) ?_
  obtain ⟨-, t3, -⟩ := LI_rd (V2 := V2) H e1 g1 (C := 0) (by rw [h2]; exact AGo.rfl' _ _)
  refine g_icmp_eq hC 2865 dL_law_2847 rfl h3 h3 (fun _ => K _ _ _ V2 z2 t3) (fun q => absurd rfl q)
theorem lc_errors (hC : gC E RL cL_law 10 p l s m args meth c) (hX : va_X b0 Ls xs s s.heap) (hb0 : b0 < s.heap.size) (hbE : b0 < E.1) (hLs : Ls ≤ 3584) (hi0 : 0 ≤ i) (hi7 : i + 7 ≤ Ls) (H : LI x b o d Sh V N P9 cc) (hk : k + 60 ≤ 601024) (hn : n + 600 ≤ 7293033)
    (K : ∀ (N2 : gN0) (P2 : Int → gN0) (c2 : Int) (V2 : gV) (z2 : Int), LI x b o d Sh V2 N2 P2 c2 → gG E 10 p l e room_1 s m args below meth c Q 2865 [(2, (b0 : Int)), (2, x), (2, b), (2, o), (2, d), (0, i), (9, 0), (9, 0), (9, 0), (9, 0)] [] Sh V2 z2 (k + 60) (n + 600)) : gG E 10 p l e room_1 s m args below meth c Q 2852 [(2, (b0 : Int)), (2, x), (2, b), (2, o), (2, d), (0, i), (9, 0), (9, 0), (9, 0), (9, 0)] [] Sh V z k n := by
  refine gB hC _ _ _ _ _ _ _ qL_law_2852 rfl ?_
  refine g_callV hC _ dL_law_2853 mL_288 vX11_errors (kX11_errors H.xr H.inv) rfl H.sx (by decide) rfl (Nat.le_of_ble_eq_true rfl) ⟨⟨Nat.le_of_ble_eq_true rfl, Nat.le_of_ble_eq_true rfl⟩, hk, hn⟩ (fun r0 S1 V1 z1 h => ?_) (fun X S1 V1 z1 h => nomatch h.1)
  obtain ⟨h1, rfl, g1, g2⟩ := h
  cases h1
  refine g_widen (k' := k + 60) (n' := n + 600) (Nat.le_refl _) (Nat.le_refl _) ?_
  have e1 : OUO x o d _ V V1 := OUX.ouo g2
  obtain ⟨m1, m2, m3, m4⟩ := LI_m H e1
  refine gB hC _ _ _ _ _ _ _ qL_law_2856 rfl ?_
  refine g_callV hC _ dL_law_2857 mL_291 vX12_errors (kX12_errors m1 H.inv) rfl H.sb (by decide) rfl (Nat.le_of_ble_eq_true rfl) ⟨⟨Nat.le_of_ble_eq_true rfl, Nat.le_of_ble_eq_true rfl⟩, hk, hn⟩ (fun r0 S2 V2 z2 h => ?_) (fun X S2 V2 z2 h => nomatch h.1)
  obtain ⟨h1, rfl, h2, h3⟩ := h
  cases h1
  refine g_widen (k' := k + 60) (n' := n + 600) (Nat.le_refl _) (Nat.le_refl _) ?_
  obtain ⟨-, t3, -⟩ := LI_rd (V2 := V2) H e1 g1 (C := 0) (by rw [h2]; exact AGo.rh _ _ _ _)
  refine g_icmp_eq hC 2865 dL_law_2860 rfl h3 h3 (fun _ => K _ _ _ V2 z2 t3) (fun q => absurd rfl q)
end LC
