/-! cases of the law (laid by wip/whole/gen9i.py) -/
section LC
variable {E : gE} {p : Program} {l : Launch} {e : Env} {s : State} {m : MethodId} {args : Array Value} {below : List Frame} {meth : Method} {c : Code} {Q : State → Prop} {pc k n : Nat} {Sh : gSh} {V : gV} {z : Int}
variable {b0 Ls : Nat} {xs : Nat → Int32} {x b o d i cc : Int} {N : gN0} {P9 : Int → gN0}
theorem lc_dayOfWeek (hC : gC E RL cL_law 10 p l s m args meth c) (hX : va_X b0 Ls xs s s.heap) (hb0 : b0 < s.heap.size) (hbE : b0 < E.1) (hLs : Ls ≤ 3584) (hi0 : 0 ≤ i) (hi7 : i + 7 ≤ Ls) (H : LI x b o d Sh V N P9 cc) (hk : k + 60 ≤ 601024) (hn : n + 600 ≤ 7293033)
    (K : ∀ (N2 : gN0) (P2 : Int → gN0) (c2 : Int) (V2 : gV) (z2 : Int), LI x b o d Sh V2 N2 P2 c2 → gG E 10 p l e room_1 s m args below meth c Q 2865 [(2, (b0 : Int)), (2, x), (2, b), (2, o), (2, d), (0, i), (9, 0), (9, 0), (9, 0), (9, 0)] [] Sh V2 z2 (k + 60) (n + 600)) : gG E 10 p l e room_1 s m args below meth c Q 1544 [(2, (b0 : Int)), (2, x), (2, b), (2, o), (2, d), (0, i), (9, 0), (9, 0), (9, 0), (9, 0)] [] Sh V z k n := by
  refine gB hC _ _ _ _ _ _ _ qL_law_1544 rfl ?_
  refine g_sld hC hX hb0 hbE dL_law_1550 (by omega) (by omega) hLs ?_
  refine gB hC _ _ _ _ _ _ _ qL_law_1551 rfl ?_
  refine g_callSW hC _ dL_law_1552 mL_209 wL_dayOfWeek (wL_dayOfWeek_of (o := o) H.sx H.so  ft2 ft3 (fun z => kX11_dayOfWeek H.xr H.inv (sv_in xs (i + 1)))) rfl rfl (Nat.le_of_ble_eq_true rfl) ⟨⟨Nat.le_of_ble_eq_true rfl, Nat.le_of_ble_eq_true rfl⟩, hk, hn⟩ (fun r0 S1 V1 z1 h => ?_) (fun X S1 V1 z1 h => nomatch h.1)
  obtain ⟨h1, rfl, hw⟩ := h
  cases h1
  refine g_widen (k' := k + 60) (n' := n + 600) (Nat.le_refl _) (Nat.le_refl _) ?_
  obtain ⟨e1, g1, g2⟩ := LI_w H (Or.inl rfl) (fun _ => H.inv) hw
  obtain ⟨m1, m2, m3, m4⟩ := LI_m H e1
  refine gB hC _ _ _ _ _ _ _ qL_law_1555 rfl ?_
  refine g_sld hC hX hb0 hbE dL_law_1563 (by omega) (by omega) hLs ?_
  refine g_callV hC _ dL_law_1564 mL_211 vX12_dayOfWeek (kX12_dayOfWeek m1 H.inv (sv_in xs (i + 1))) rfl H.sb (by decide) rfl (Nat.le_of_ble_eq_true rfl) ⟨⟨Nat.le_of_ble_eq_true rfl, Nat.le_of_ble_eq_true rfl⟩, hk, hn⟩ (fun r0 S2 V2 z2 h => ?_) (fun X S2 V2 z2 h => nomatch h.1)
  obtain ⟨h1, rfl, h2, h3⟩ := h
  cases h1
  refine g_widen (k' := k + 60) (n' := n + 600) (Nat.le_refl _) (Nat.le_refl _) ?_
  obtain ⟨t1, t2, N2, P2, c2, t3⟩ := LI_rdr (V2 := V2) (Or.inl rfl) H e1 g1 g2 (by rw [h2]; exact AGo.rfl' _ _)
  exact g_tailI hC 1567 qL_law_1567 dL_law_1570 qL_law_1573 dL_law_1575 qL_law_1580 dL_law_1582 qL_law_1585 dL_law_1587 qL_law_1588 dL_law_1590 dL_law_1591 dL_law_1592 qL_law_1597 t3 ft_in t1 t2 rfl hk hn (fun z' => K N2 P2 c2 V2 z' t3)
theorem lc_addDays (hC : gC E RL cL_law 10 p l s m args meth c) (hX : va_X b0 Ls xs s s.heap) (hb0 : b0 < s.heap.size) (hbE : b0 < E.1) (hLs : Ls ≤ 3584) (hi0 : 0 ≤ i) (hi7 : i + 7 ≤ Ls) (H : LI x b o d Sh V N P9 cc) (hk : k + 60 ≤ 601024) (hn : n + 600 ≤ 7293033)
    (K : ∀ (N2 : gN0) (P2 : Int → gN0) (c2 : Int) (V2 : gV) (z2 : Int), LI x b o d Sh V2 N2 P2 c2 → gG E 10 p l e room_1 s m args below meth c Q 2865 [(2, (b0 : Int)), (2, x), (2, b), (2, o), (2, d), (0, i), (9, 0), (9, 0), (9, 0), (9, 0)] [] Sh V2 z2 (k + 60) (n + 600)) : gG E 10 p l e room_1 s m args below meth c Q 1600 [(2, (b0 : Int)), (2, x), (2, b), (2, o), (2, d), (0, i), (9, 0), (9, 0), (9, 0), (9, 0)] [] Sh V z k n := by
  refine gB hC _ _ _ _ _ _ _ qL_law_1600 rfl ?_
  refine g_sld hC hX hb0 hbE dL_law_1606 (by omega) (by omega) hLs ?_
  refine gB hC _ _ _ _ _ _ _ qL_law_1607 rfl ?_
  refine g_sld hC hX hb0 hbE dL_law_1612 (by omega) (by omega) hLs ?_
  refine gB hC _ _ _ _ _ _ _ qL_law_1613 rfl ?_
  refine g_callSW hC _ dL_law_1614 mL_212 wL_addDays (wL_addDays_of (o := o) H.sx H.so  ft2 ft3 (fun z => kX11_addDays H.xr H.inv (sv_in xs (i + 1)) (sv_in xs (i + 2)))) rfl rfl (Nat.le_of_ble_eq_true rfl) ⟨⟨Nat.le_of_ble_eq_true rfl, Nat.le_of_ble_eq_true rfl⟩, hk, hn⟩ (fun r0 S1 V1 z1 h => ?_) (fun X S1 V1 z1 h => nomatch h.1)
  obtain ⟨h1, rfl, hw⟩ := h
  cases h1
  refine g_widen (k' := k + 60) (n' := n + 600) (Nat.le_refl _) (Nat.le_refl _) ?_
  obtain ⟨e1, g1, g2⟩ := LI_w H (Or.inl rfl) (fun _ => H.inv) hw
  obtain ⟨m1, m2, m3, m4⟩ := LI_m H e1
  refine gB hC _ _ _ _ _ _ _ qL_law_1617 rfl ?_
  refine g_sld hC hX hb0 hbE dL_law_1625 (by omega) (by omega) hLs ?_
  refine gB hC _ _ _ _ _ _ _ qL_law_1626 rfl ?_
  refine g_sld hC hX hb0 hbE dL_law_1631 (by omega) (by omega) hLs ?_
  refine g_callV hC _ dL_law_1632 mL_214 vX12_addDays (kX12_addDays m1 H.inv (sv_in xs (i + 1)) (sv_in xs (i + 2))) rfl H.sb (by decide) rfl (Nat.le_of_ble_eq_true rfl) ⟨⟨Nat.le_of_ble_eq_true rfl, Nat.le_of_ble_eq_true rfl⟩, hk, hn⟩ (fun r0 S2 V2 z2 h => ?_) (fun X S2 V2 z2 h => nomatch h.1)
  obtain ⟨h1, rfl, h2, h3⟩ := h
  cases h1
  refine g_widen (k' := k + 60) (n' := n + 600) (Nat.le_refl _) (Nat.le_refl _) ?_
  obtain ⟨t1, t2, N2, P2, c2, t3⟩ := LI_rdr (V2 := V2) (Or.inl rfl) H e1 g1 g2 (by rw [h2]; exact AGo.rfl' _ _)
  exact g_tailI hC 1635 qL_law_1635 dL_law_1638 qL_law_1641 dL_law_1643 qL_law_1648 dL_law_1650 qL_law_1653 dL_law_1655 qL_law_1656 dL_law_1658 dL_law_1659 dL_law_1660 qL_law_1665 t3 ft_in t1 t2 rfl hk hn (fun z' => K N2 P2 c2 V2 z' t3)
theorem lc_kinds (hC : gC E RL cL_law 10 p l s m args meth c) (hX : va_X b0 Ls xs s s.heap) (hb0 : b0 < s.heap.size) (hbE : b0 < E.1) (hLs : Ls ≤ 3584) (hi0 : 0 ≤ i) (hi7 : i + 7 ≤ Ls) (H : LI x b o d Sh V N P9 cc) (hk : k + 60 ≤ 601024) (hn : n + 600 ≤ 7293033)
    (K : ∀ (N2 : gN0) (P2 : Int → gN0) (c2 : Int) (V2 : gV) (z2 : Int), LI x b o d Sh V2 N2 P2 c2 → gG E 10 p l e room_1 s m args below meth c Q 2865 [(2, (b0 : Int)), (2, x), (2, b), (2, o), (2, d), (0, i), (9, 0), (9, 0), (9, 0), (9, 0)] [] Sh V2 z2 (k + 60) (n + 600)) : gG E 10 p l e room_1 s m args below meth c Q 1668 [(2, (b0 : Int)), (2, x), (2, b), (2, o), (2, d), (0, i), (9, 0), (9, 0), (9, 0), (9, 0)] [] Sh V z k n := by
  refine gB hC _ _ _ _ _ _ _ qL_law_1668 rfl ?_
  refine g_callV hC _ dL_law_1669 mL_215 vX11_kinds (kX11_kinds H.xr H.inv) rfl H.sx (by decide) rfl (Nat.le_of_ble_eq_true rfl) ⟨⟨Nat.le_of_ble_eq_true rfl, Nat.le_of_ble_eq_true rfl⟩, hk, hn⟩ (fun r0 S1 V1 z1 h => ?_) (fun X S1 V1 z1 h => nomatch h.1)
  obtain ⟨h1, rfl, g1, g2⟩ := h
  cases h1
  refine g_widen (k' := k + 60) (n' := n + 600) (Nat.le_refl _) (Nat.le_refl _) ?_
  have e1 : OUO x o d _ V V1 := OUX.ouo g2
  obtain ⟨m1, m2, m3, m4⟩ := LI_m H e1
  refine gB hC _ _ _ _ _ _ _ qL_law_1672 rfl ?_
  refine g_callV hC _ dL_law_1673 mL_218 vX12_kinds (kX12_kinds m1 H.inv) rfl H.sb (by decide) rfl (Nat.le_of_ble_eq_true rfl) ⟨⟨Nat.le_of_ble_eq_true rfl, Nat.le_of_ble_eq_true rfl⟩, hk, hn⟩ (fun r0 S2 V2 z2 h => ?_) (fun X S2 V2 z2 h => nomatch h.1)
  obtain ⟨h1, rfl, h2, h3⟩ := h
  cases h1
  refine g_widen (k' := k + 60) (n' := n + 600) (Nat.le_refl _) (Nat.le_refl _) ?_
  obtain ⟨-, t3, -⟩ := LI_rd (V2 := V2) H e1 g1 (C := 0) (by rw [h2]; exact AGo.rfl' _ _)
  refine g_icmp_eq hC 2865 dL_law_1676 rfl h3 h3 (fun _ => K _ _ _ V2 z2 t3) (fun q => absurd rfl q)
theorem lc_count (hC : gC E RL cL_law 10 p l s m args meth c) (hX : va_X b0 Ls xs s s.heap) (hb0 : b0 < s.heap.size) (hbE : b0 < E.1) (hLs : Ls ≤ 3584) (hi0 : 0 ≤ i) (hi7 : i + 7 ≤ Ls) (H : LI x b o d Sh V N P9 cc) (hk : k + 60 ≤ 601024) (hn : n + 600 ≤ 7293033)
    (K : ∀ (N2 : gN0) (P2 : Int → gN0) (c2 : Int) (V2 : gV) (z2 : Int), LI x b o d Sh V2 N2 P2 c2 → gG E 10 p l e room_1 s m args below meth c Q 2865 [(2, (b0 : Int)), (2, x), (2, b), (2, o), (2, d), (0, i), (9, 0), (9, 0), (9, 0), (9, 0)] [] Sh V2 z2 (k + 60) (n + 600)) : gG E 10 p l e room_1 s m args below meth c Q 1681 [(2, (b0 : Int)), (2, x), (2, b), (2, o), (2, d), (0, i), (9, 0), (9, 0), (9, 0), (9, 0)] [] Sh V z k n := by
  refine gB hC _ _ _ _ _ _ _ qL_law_1681 rfl ?_
  refine g_sld hC hX hb0 hbE dL_law_1687 (by omega) (by omega) hLs ?_
  refine gB hC _ _ _ _ _ _ _ qL_law_1688 rfl ?_
  refine g_sld hC hX hb0 hbE dL_law_1693 (by omega) (by omega) hLs ?_
  refine gB hC _ _ _ _ _ _ _ qL_law_1694 rfl ?_
  refine g_callSW hC _ dL_law_1695 mL_219 wL_count (wL_count_of (o := o) H.sx H.so  ft3 (fun z => kX11_count H.xr H.inv (sv_in xs (i + 1)) (sv_in xs (i + 2)))) rfl rfl (Nat.le_of_ble_eq_true rfl) ⟨⟨Nat.le_of_ble_eq_true rfl, Nat.le_of_ble_eq_true rfl⟩, hk, hn⟩ (fun r0 S1 V1 z1 h => ?_) (fun X S1 V1 z1 h => nomatch h.1)
  obtain ⟨h1, rfl, hw⟩ := h
  cases h1
  refine g_widen (k' := k + 60) (n' := n + 600) (Nat.le_refl _) (Nat.le_refl _) ?_
  obtain ⟨e1, g1, g2⟩ := LI_w H (Or.inl rfl) (fun _ => H.inv) hw
  obtain ⟨m1, m2, m3, m4⟩ := LI_m H e1
  refine gB hC _ _ _ _ _ _ _ qL_law_1698 rfl ?_
  refine g_sld hC hX hb0 hbE dL_law_1706 (by omega) (by omega) hLs ?_
  refine gB hC _ _ _ _ _ _ _ qL_law_1707 rfl ?_
  refine g_sld hC hX hb0 hbE dL_law_1712 (by omega) (by omega) hLs ?_
  refine g_callV hC _ dL_law_1713 mL_221 vX12_count (kX12_count m1 H.inv (sv_in xs (i + 1)) (sv_in xs (i + 2))) rfl H.sb (by decide) rfl (Nat.le_of_ble_eq_true rfl) ⟨⟨Nat.le_of_ble_eq_true rfl, Nat.le_of_ble_eq_true rfl⟩, hk, hn⟩ (fun r0 S2 V2 z2 h => ?_) (fun X S2 V2 z2 h => nomatch h.1)
  obtain ⟨h1, rfl, h2, h3⟩ := h
  cases h1
  refine g_widen (k' := k + 60) (n' := n + 600) (Nat.le_refl _) (Nat.le_refl _) ?_
  obtain ⟨t1, t2, N2, P2, c2, t3⟩ := LI_rdr (V2 := V2) (Or.inl rfl) H e1 g1 g2 (by rw [h2]; exact AGo.rfl' _ _)
  exact g_tailI hC 1716 qL_law_1716 dL_law_1719 qL_law_1722 dL_law_1724 qL_law_1729 dL_law_1731 qL_law_1734 dL_law_1736 qL_law_1737 dL_law_1739 dL_law_1740 dL_law_1741 qL_law_1746 t3 ft_in t1 t2 rfl hk hn (fun z' => K N2 P2 c2 V2 z' t3)
theorem lc_greatest (hC : gC E RL cL_law 10 p l s m args meth c) (hX : va_X b0 Ls xs s s.heap) (hb0 : b0 < s.heap.size) (hbE : b0 < E.1) (hLs : Ls ≤ 3584) (hi0 : 0 ≤ i) (hi7 : i + 7 ≤ Ls) (H : LI x b o d Sh V N P9 cc) (hk : k + 60 ≤ 601024) (hn : n + 600 ≤ 7293033)
    (K : ∀ (N2 : gN0) (P2 : Int → gN0) (c2 : Int) (V2 : gV) (z2 : Int), LI x b o d Sh V2 N2 P2 c2 → gG E 10 p l e room_1 s m args below meth c Q 2865 [(2, (b0 : Int)), (2, x), (2, b), (2, o), (2, d), (0, i), (9, 0), (9, 0), (9, 0), (9, 0)] [] Sh V2 z2 (k + 60) (n + 600)) : gG E 10 p l e room_1 s m args below meth c Q 1749 [(2, (b0 : Int)), (2, x), (2, b), (2, o), (2, d), (0, i), (9, 0), (9, 0), (9, 0), (9, 0)] [] Sh V z k n := by
  refine gB hC _ _ _ _ _ _ _ qL_law_1749 rfl ?_
  refine g_sld hC hX hb0 hbE dL_law_1755 (by omega) (by omega) hLs ?_
  refine gB hC _ _ _ _ _ _ _ qL_law_1756 rfl ?_
  refine g_sld hC hX hb0 hbE dL_law_1761 (by omega) (by omega) hLs ?_
  refine gB hC _ _ _ _ _ _ _ qL_law_1762 rfl ?_
  refine g_sld hC hX hb0 hbE dL_law_1767 (by omega) (by omega) hLs ?_
  refine gB hC _ _ _ _ _ _ _ qL_law_1768 rfl ?_
  refine g_callSW hC _ dL_law_1769 mL_222 wL_greatest (wL_greatest_of (o := o) H.sx H.so  ft3 (fun z => kX11_greatest H.xr H.inv (sv_in xs (i + 1)) (sv_in xs (i + 2)) (sv_in xs (i + 3)))) rfl rfl (Nat.le_of_ble_eq_true rfl) ⟨⟨Nat.le_of_ble_eq_true rfl, Nat.le_of_ble_eq_true rfl⟩, hk, hn⟩ (fun r0 S1 V1 z1 h => ?_) (fun X S1 V1 z1 h => nomatch h.1)
  obtain ⟨h1, rfl, hw⟩ := h
  cases h1
  refine g_widen (k' := k + 60) (n' := n + 600) (Nat.le_refl _) (Nat.le_refl _) ?_
  obtain ⟨e1, g1, g2⟩ := LI_w H (Or.inl rfl) (fun _ => H.inv) hw
  obtain ⟨m1, m2, m3, m4⟩ := LI_m H e1
  refine gB hC _ _ _ _ _ _ _ qL_law_1772 rfl ?_
  refine g_sld hC hX hb0 hbE dL_law_1780 (by omega) (by omega) hLs ?_
  refine gB hC _ _ _ _ _ _ _ qL_law_1781 rfl ?_
  refine g_sld hC hX hb0 hbE dL_law_1786 (by omega) (by omega) hLs ?_
  refine gB hC _ _ _ _ _ _ _ qL_law_1787 rfl ?_
  refine g_sld hC hX hb0 hbE dL_law_1792 (by omega) (by omega) hLs ?_
  refine g_callV hC _ dL_law_1793 mL_224 vX12_greatest (kX12_greatest m1 H.inv (sv_in xs (i + 1)) (sv_in xs (i + 2)) (sv_in xs (i + 3))) rfl H.sb (by decide) rfl (Nat.le_of_ble_eq_true rfl) ⟨⟨Nat.le_of_ble_eq_true rfl, Nat.le_of_ble_eq_true rfl⟩, hk, hn⟩ (fun r0 S2 V2 z2 h => ?_) (fun X S2 V2 z2 h => nomatch h.1)
  obtain ⟨h1, rfl, h2, h3⟩ := h
  cases h1
  refine g_widen (k' := k + 60) (n' := n + 600) (Nat.le_refl _) (Nat.le_refl _) ?_
  obtain ⟨t1, t2, N2, P2, c2, t3⟩ := LI_rdr (V2 := V2) (Or.inl rfl) H e1 g1 g2 (by rw [h2]; exact AGo.rfl' _ _)
  exact g_tailI hC 1796 qL_law_1796 dL_law_1799 qL_law_1802 dL_law_1804 qL_law_1809 dL_law_1811 qL_law_1814 dL_law_1816 qL_law_1817 dL_law_1819 dL_law_1820 dL_law_1821 qL_law_1826 t3 ft_in t1 t2 rfl hk hn (fun z' => K N2 P2 c2 V2 z' t3)
theorem lc_needed (hC : gC E RL cL_law 10 p l s m args meth c) (hX : va_X b0 Ls xs s s.heap) (hb0 : b0 < s.heap.size) (hbE : b0 < E.1) (hLs : Ls ≤ 3584) (hi0 : 0 ≤ i) (hi7 : i + 7 ≤ Ls) (H : LI x b o d Sh V N P9 cc) (hk : k + 60 ≤ 601024) (hn : n + 600 ≤ 7293033)
    (K : ∀ (N2 : gN0) (P2 : Int → gN0) (c2 : Int) (V2 : gV) (z2 : Int), LI x b o d Sh V2 N2 P2 c2 → gG E 10 p l e room_1 s m args below meth c Q 2865 [(2, (b0 : Int)), (2, x), (2, b), (2, o), (2, d), (0, i), (9, 0), (9, 0), (9, 0), (9, 0)] [] Sh V2 z2 (k + 60) (n + 600)) : gG E 10 p l e room_1 s m args below meth c Q 1829 [(2, (b0 : Int)), (2, x), (2, b), (2, o), (2, d), (0, i), (9, 0), (9, 0), (9, 0), (9, 0)] [] Sh V z k n := by
  refine gB hC _ _ _ _ _ _ _ qL_law_1829 rfl ?_
  refine g_sld hC hX hb0 hbE dL_law_1835 (by omega) (by omega) hLs ?_
  refine gB hC _ _ _ _ _ _ _ qL_law_1836 rfl ?_
  refine g_callSW hC _ dL_law_1837 mL_225 wL_needed (wL_needed_of (o := o) H.sx H.so  ft2 ft3 (fun z => kX11_needed H.xr H.inv (sv_in xs (i + 1)))) rfl rfl (Nat.le_of_ble_eq_true rfl) ⟨⟨Nat.le_of_ble_eq_true rfl, Nat.le_of_ble_eq_true rfl⟩, hk, hn⟩ (fun r0 S1 V1 z1 h => ?_) (fun X S1 V1 z1 h => nomatch h.1)
  obtain ⟨h1, rfl, hw⟩ := h
  cases h1
  refine g_widen (k' := k + 60) (n' := n + 600) (Nat.le_refl _) (Nat.le_refl _) ?_
  obtain ⟨e1, g1, g2⟩ := LI_w H (Or.inl rfl) (fun _ => H.inv) hw
  obtain ⟨m1, m2, m3, m4⟩ := LI_m H e1
  refine gB hC _ _ _ _ _ _ _ qL_law_1840 rfl ?_
  refine g_sld hC hX hb0 hbE dL_law_1848 (by omega) (by omega) hLs ?_
  refine g_callV hC _ dL_law_1849 mL_227 vX12_needed (kX12_needed m1 H.inv (sv_in xs (i + 1))) rfl H.sb (by decide) rfl (Nat.le_of_ble_eq_true rfl) ⟨⟨Nat.le_of_ble_eq_true rfl, Nat.le_of_ble_eq_true rfl⟩, hk, hn⟩ (fun r0 S2 V2 z2 h => ?_) (fun X S2 V2 z2 h => nomatch h.1)
  obtain ⟨h1, rfl, h2, h3⟩ := h
  cases h1
  refine g_widen (k' := k + 60) (n' := n + 600) (Nat.le_refl _) (Nat.le_refl _) ?_
  obtain ⟨t1, t2, N2, P2, c2, t3⟩ := LI_rdr (V2 := V2) (Or.inl rfl) H e1 g1 g2 (by rw [h2]; exact AGo.ife (AGo.ro _ _ _ _))
  exact g_tailI hC 1852 qL_law_1852 dL_law_1855 qL_law_1858 dL_law_1860 qL_law_1865 dL_law_1867 qL_law_1870 dL_law_1872 qL_law_1873 dL_law_1875 dL_law_1876 dL_law_1877 qL_law_1882 t3 ft_in t1 t2 rfl hk hn (fun z' => K N2 P2 c2 V2 z' t3)
theorem lc_refusedNight (hC : gC E RL cL_law 10 p l s m args meth c) (hX : va_X b0 Ls xs s s.heap) (hb0 : b0 < s.heap.size) (hbE : b0 < E.1) (hLs : Ls ≤ 3584) (hi0 : 0 ≤ i) (hi7 : i + 7 ≤ Ls) (H : LI x b o d Sh V N P9 cc) (hk : k + 60 ≤ 601024) (hn : n + 600 ≤ 7293033)
    (K : ∀ (N2 : gN0) (P2 : Int → gN0) (c2 : Int) (V2 : gV) (z2 : Int), LI x b o d Sh V2 N2 P2 c2 → gG E 10 p l e room_1 s m args below meth c Q 2865 [(2, (b0 : Int)), (2, x), (2, b), (2, o), (2, d), (0, i), (9, 0), (9, 0), (9, 0), (9, 0)] [] Sh V2 z2 (k + 60) (n + 600)) : gG E 10 p l e room_1 s m args below meth c Q 1885 [(2, (b0 : Int)), (2, x), (2, b), (2, o), (2, d), (0, i), (9, 0), (9, 0), (9, 0), (9, 0)] [] Sh V z k n := by
  refine gB hC _ _ _ _ _ _ _ qL_law_1885 rfl ?_
  refine g_callV hC _ dL_law_1886 mL_228 vX11_refusedNight (kX11_refusedNight H.xr H.inv) rfl H.sx (by decide) rfl (Nat.le_of_ble_eq_true rfl) ⟨⟨Nat.le_of_ble_eq_true rfl, Nat.le_of_ble_eq_true rfl⟩, hk, hn⟩ (fun r0 S1 V1 z1 h => ?_) (fun X S1 V1 z1 h => nomatch h.1)
  obtain ⟨h1, rfl, g1, g2⟩ := h
  cases h1
  refine g_widen (k' := k + 60) (n' := n + 600) (Nat.le_refl _) (Nat.le_refl _) ?_
  have e1 : OUO x o d _ V V1 := OUX.ouo g2
  obtain ⟨m1, m2, m3, m4⟩ := LI_m H e1
  refine gB hC _ _ _ _ _ _ _ qL_law_1889 rfl ?_
  refine g_callV hC _ dL_law_1890 mL_231 vX12_refusedNight (kX12_refusedNight m1 H.inv) rfl H.sb (by decide) rfl (Nat.le_of_ble_eq_true rfl) ⟨⟨Nat.le_of_ble_eq_true rfl, Nat.le_of_ble_eq_true rfl⟩, hk, hn⟩ (fun r0 S2 V2 z2 h => ?_) (fun X S2 V2 z2 h => nomatch h.1)
  obtain ⟨h1, rfl, h2, h3⟩ := h
  cases h1
  refine g_widen (k' := k + 60) (n' := n + 600) (Nat.le_refl _) (Nat.le_refl _) ?_
  obtain ⟨-, t3, -⟩ := LI_rd (V2 := V2) H e1 g1 (C := 0) (by rw [h2]; exact AGo.rfl' _ _)
  refine g_icmp_eq hC 2865 dL_law_1893 rfl h3 h3 (fun _ => K _ _ _ V2 z2 t3) (fun q => absurd rfl q)
theorem lc_stayAt (hC : gC E RL cL_law 10 p l s m args meth c) (hX : va_X b0 Ls xs s s.heap) (hb0 : b0 < s.heap.size) (hbE : b0 < E.1) (hLs : Ls ≤ 3584) (hi0 : 0 ≤ i) (hi7 : i + 7 ≤ Ls) (H : LI x b o d Sh V N P9 cc) (hk : k + 60 ≤ 601024) (hn : n + 600 ≤ 7293033)
    (K : ∀ (N2 : gN0) (P2 : Int → gN0) (c2 : Int) (V2 : gV) (z2 : Int), LI x b o d Sh V2 N2 P2 c2 → gG E 10 p l e room_1 s m args below meth c Q 2865 [(2, (b0 : Int)), (2, x), (2, b), (2, o), (2, d), (0, i), (9, 0), (9, 0), (9, 0), (9, 0)] [] Sh V2 z2 (k + 60) (n + 600)) : gG E 10 p l e room_1 s m args below meth c Q 1898 [(2, (b0 : Int)), (2, x), (2, b), (2, o), (2, d), (0, i), (9, 0), (9, 0), (9, 0), (9, 0)] [] Sh V z k n := by
  refine gB hC _ _ _ _ _ _ _ qL_law_1898 rfl ?_
  refine g_sld hC hX hb0 hbE dL_law_1904 (by omega) (by omega) hLs ?_
  refine gB hC _ _ _ _ _ _ _ qL_law_1905 rfl ?_
  refine g_sld hC hX hb0 hbE dL_law_1910 (by omega) (by omega) hLs ?_
  refine gB hC _ _ _ _ _ _ _ qL_law_1911 rfl ?_
  refine g_callSW hC _ dL_law_1912 mL_232 wL_stayAt (wL_stayAt_of (o := o) H.sx H.so  ft3 (fun z => kX11_stayAt H.xr H.inv (sv_in xs (i + 1)) (sv_in xs (i + 2)))) rfl rfl (Nat.le_of_ble_eq_true rfl) ⟨⟨Nat.le_of_ble_eq_true rfl, Nat.le_of_ble_eq_true rfl⟩, hk, hn⟩ (fun r0 S1 V1 z1 h => ?_) (fun X S1 V1 z1 h => nomatch h.1)
  obtain ⟨h1, rfl, hw⟩ := h
  cases h1
  refine g_widen (k' := k + 60) (n' := n + 600) (Nat.le_refl _) (Nat.le_refl _) ?_
  obtain ⟨e1, g1, g2⟩ := LI_w H (Or.inl rfl) (fun _ => H.inv) hw
  obtain ⟨m1, m2, m3, m4⟩ := LI_m H e1
  refine gB hC _ _ _ _ _ _ _ qL_law_1915 rfl ?_
  refine g_sld hC hX hb0 hbE dL_law_1923 (by omega) (by omega) hLs ?_
  refine gB hC _ _ _ _ _ _ _ qL_law_1924 rfl ?_
  refine g_sld hC hX hb0 hbE dL_law_1929 (by omega) (by omega) hLs ?_
  refine g_callV hC _ dL_law_1930 mL_234 vX12_stayAt (kX12_stayAt m1 H.inv (sv_in xs (i + 1)) (sv_in xs (i + 2))) rfl H.sb (by decide) rfl (Nat.le_of_ble_eq_true rfl) ⟨⟨Nat.le_of_ble_eq_true rfl, Nat.le_of_ble_eq_true rfl⟩, hk, hn⟩ (fun r0 S2 V2 z2 h => ?_) (fun X S2 V2 z2 h => nomatch h.1)
  obtain ⟨h1, rfl, h2, h3⟩ := h
  cases h1
  refine g_widen (k' := k + 60) (n' := n + 600) (Nat.le_refl _) (Nat.le_refl _) ?_
  obtain ⟨t1, t2, N2, P2, c2, t3⟩ := LI_rdr (V2 := V2) (Or.inl rfl) H e1 g1 g2 (by rw [h2]; exact AGo.rfl' _ _)
  exact g_tailI hC 1933 qL_law_1933 dL_law_1936 qL_law_1939 dL_law_1941 qL_law_1946 dL_law_1948 qL_law_1951 dL_law_1953 qL_law_1954 dL_law_1956 dL_law_1957 dL_law_1958 qL_law_1963 t3 ft_in t1 t2 rfl hk hn (fun z' => K N2 P2 c2 V2 z' t3)
theorem lc_roomOf (hC : gC E RL cL_law 10 p l s m args meth c) (hX : va_X b0 Ls xs s s.heap) (hb0 : b0 < s.heap.size) (hbE : b0 < E.1) (hLs : Ls ≤ 3584) (hi0 : 0 ≤ i) (hi7 : i + 7 ≤ Ls) (H : LI x b o d Sh V N P9 cc) (hk : k + 60 ≤ 601024) (hn : n + 600 ≤ 7293033)
    (K : ∀ (N2 : gN0) (P2 : Int → gN0) (c2 : Int) (V2 : gV) (z2 : Int), LI x b o d Sh V2 N2 P2 c2 → gG E 10 p l e room_1 s m args below meth c Q 2865 [(2, (b0 : Int)), (2, x), (2, b), (2, o), (2, d), (0, i), (9, 0), (9, 0), (9, 0), (9, 0)] [] Sh V2 z2 (k + 60) (n + 600)) : gG E 10 p l e room_1 s m args below meth c Q 1966 [(2, (b0 : Int)), (2, x), (2, b), (2, o), (2, d), (0, i), (9, 0), (9, 0), (9, 0), (9, 0)] [] Sh V z k n := by
  refine gB hC _ _ _ _ _ _ _ qL_law_1966 rfl ?_
  refine g_sld hC hX hb0 hbE dL_law_1972 (by omega) (by omega) hLs ?_
  refine gB hC _ _ _ _ _ _ _ qL_law_1973 rfl ?_
  refine g_callSW hC _ dL_law_1974 mL_235 wL_roomOf (wL_roomOf_of (o := o) H.sx H.so  ft3 (fun z => kX11_roomOf H.xr H.inv (sv_in xs (i + 1)))) rfl rfl (Nat.le_of_ble_eq_true rfl) ⟨⟨Nat.le_of_ble_eq_true rfl, Nat.le_of_ble_eq_true rfl⟩, hk, hn⟩ (fun r0 S1 V1 z1 h => ?_) (fun X S1 V1 z1 h => nomatch h.1)
  obtain ⟨h1, rfl, hw⟩ := h
  cases h1
  refine g_widen (k' := k + 60) (n' := n + 600) (Nat.le_refl _) (Nat.le_refl _) ?_
  obtain ⟨e1, g1, g2⟩ := LI_w H (Or.inl rfl) (fun _ => H.inv) hw
  obtain ⟨m1, m2, m3, m4⟩ := LI_m H e1
  refine gB hC _ _ _ _ _ _ _ qL_law_1977 rfl ?_
  refine g_sld hC hX hb0 hbE dL_law_1985 (by omega) (by omega) hLs ?_
  refine g_callV hC _ dL_law_1986 mL_237 vX12_roomOf (kX12_roomOf m1 H.inv (sv_in xs (i + 1))) rfl H.sb (by decide) rfl (Nat.le_of_ble_eq_true rfl) ⟨⟨Nat.le_of_ble_eq_true rfl, Nat.le_of_ble_eq_true rfl⟩, hk, hn⟩ (fun r0 S2 V2 z2 h => ?_) (fun X S2 V2 z2 h => nomatch h.1)
  obtain ⟨h1, rfl, h2, h3⟩ := h
  cases h1
  refine g_widen (k' := k + 60) (n' := n + 600) (Nat.le_refl _) (Nat.le_refl _) ?_
  obtain ⟨t1, t2, N2, P2, c2, t3⟩ := LI_rdr (V2 := V2) (Or.inl rfl) H e1 g1 g2 (by rw [h2]; exact AGo.ife (AGo.ro _ _ _ _))
  exact g_tailI hC 1989 qL_law_1989 dL_law_1992 qL_law_1995 dL_law_1997 qL_law_2002 dL_law_2004 qL_law_2007 dL_law_2009 qL_law_2010 dL_law_2012 dL_law_2013 dL_law_2014 qL_law_2019 t3 ft_in t1 t2 rfl hk hn (fun z' => K N2 P2 c2 V2 z' t3)
end LC
