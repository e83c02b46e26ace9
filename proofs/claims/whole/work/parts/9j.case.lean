/-! cases of the law (laid by wip/whole/gen9i.py) -/
section LC
variable {E : gE} {p : Program} {l : Launch} {e : Env} {s : State} {m : MethodId} {args : Array Value} {below : List Frame} {meth : Method} {c : Code} {Q : State → Prop} {pc k n : Nat} {Sh : gSh} {V : gV} {z : Int}
variable {b0 Ls : Nat} {xs : Nat → Int32} {x b o d i cc : Int} {N : gN0} {P9 : Int → gN0}
theorem lc_group (hC : gC E RL cL_law 10 p l s m args meth c) (hX : va_X b0 Ls xs s s.heap) (hb0 : b0 < s.heap.size) (hbE : b0 < E.1) (hLs : Ls ≤ 3584) (hi0 : 0 ≤ i) (hi7 : i + 7 ≤ Ls) (H : LI x b o d Sh V N P9 cc) (hk : k + 60 ≤ 601024) (hn : n + 600 ≤ 7293033)
    (K : ∀ (N2 : gN0) (P2 : Int → gN0) (c2 : Int) (V2 : gV) (z2 : Int), LI x b o d Sh V2 N2 P2 c2 → gG E 10 p l e room_1 s m args below meth c Q 2865 [(2, (b0 : Int)), (2, x), (2, b), (2, o), (2, d), (0, i), (9, 0), (9, 0), (9, 0), (9, 0)] [] Sh V2 z2 (k + 60) (n + 600)) : gG E 10 p l e room_1 s m args below meth c Q 746 [(2, (b0 : Int)), (2, x), (2, b), (2, o), (2, d), (0, i), (9, 0), (9, 0), (9, 0), (9, 0)] [] Sh V z k n := by
  refine gB hC _ _ _ _ _ _ _ qL_law_746 rfl ?_
  refine g_sld hC hX hb0 hbE dL_law_752 (by omega) (by omega) hLs ?_
  refine gB hC _ _ _ _ _ _ _ qL_law_753 rfl ?_
  refine g_sld hC hX hb0 hbE dL_law_758 (by omega) (by omega) hLs ?_
  refine gB hC _ _ _ _ _ _ _ qL_law_759 rfl ?_
  refine g_sld hC hX hb0 hbE dL_law_764 (by omega) (by omega) hLs ?_
  refine gB hC _ _ _ _ _ _ _ qL_law_765 rfl ?_
  refine g_sld hC hX hb0 hbE dL_law_770 (by omega) (by omega) hLs ?_
  refine gB hC _ _ _ _ _ _ _ qL_law_771 rfl ?_
  refine g_sld hC hX hb0 hbE dL_law_776 (by omega) (by omega) hLs ?_
  refine gB hC _ _ _ _ _ _ _ qL_law_777 rfl ?_
  refine g_callSW hC _ dL_law_778 mL_165 wL_group (wL_group_of (o := o) H.sx H.so   (fun z => kX11_group H.xr H.inv (sv_in xs (i + 1)) (sv_in xs (i + 2)) (sv_in xs (i + 3)) (sv_in xs (i + 4)) (sv_in xs (i + 5)))) rfl rfl (Nat.le_of_ble_eq_true rfl) ⟨⟨Nat.le_of_ble_eq_true rfl, Nat.le_of_ble_eq_true rfl⟩, hk, hn⟩ (fun r0 S1 V1 z1 h => ?_) (fun X S1 V1 z1 h => nomatch h.1)
  obtain ⟨h1, rfl, hw⟩ := h
  cases h1
  refine g_widen (k' := k + 60) (n' := n + 600) (Nat.le_refl _) (Nat.le_refl _) ?_
  obtain ⟨e1, g1, g2⟩ := LI_w H (Or.inl rfl) (fun hc => (nv_group H.inv H.kz hc).1) hw
  obtain ⟨m1, m2, m3, m4⟩ := LI_m H e1
  refine gB hC _ _ _ _ _ _ _ qL_law_781 rfl ?_
  refine g_sld hC hX hb0 hbE dL_law_789 (by omega) (by omega) hLs ?_
  refine gB hC _ _ _ _ _ _ _ qL_law_790 rfl ?_
  refine g_sld hC hX hb0 hbE dL_law_795 (by omega) (by omega) hLs ?_
  refine gB hC _ _ _ _ _ _ _ qL_law_796 rfl ?_
  refine g_sld hC hX hb0 hbE dL_law_801 (by omega) (by omega) hLs ?_
  refine gB hC _ _ _ _ _ _ _ qL_law_802 rfl ?_
  refine g_sld hC hX hb0 hbE dL_law_807 (by omega) (by omega) hLs ?_
  refine gB hC _ _ _ _ _ _ _ qL_law_808 rfl ?_
  refine g_sld hC hX hb0 hbE dL_law_813 (by omega) (by omega) hLs ?_
  refine g_callV hC _ dL_law_814 mL_168 vX12_group (kX12_group m1 H.inv m3 m4 (sv_in xs (i + 1)) (sv_in xs (i + 2)) (sv_in xs (i + 3)) (sv_in xs (i + 4)) (sv_in xs (i + 5))) rfl H.sb (by decide) rfl (Nat.le_of_ble_eq_true rfl) ⟨⟨Nat.le_of_ble_eq_true rfl, Nat.le_of_ble_eq_true rfl⟩, hk, hn⟩ (fun r0 S2 V2 z2 h => ?_) (fun X S2 V2 z2 h => nomatch h.1)
  obtain ⟨h1, rfl, h2, h3⟩ := h
  cases h1
  refine g_widen (k' := k + 60) (n' := n + 600) (Nat.le_refl _) (Nat.le_refl _) ?_
  obtain ⟨t1, t2, N2, P2, c2, t3⟩ := LI_chg (V2 := V2) H e1 g1 g2 (fun hc => nv_group H.inv H.kz hc) (by rw [h2]; exact AGo.rfl' _ _)
  exact g_tailI hC 817 qL_law_817 dL_law_820 qL_law_823 dL_law_825 qL_law_830 dL_law_832 qL_law_835 dL_law_837 qL_law_838 dL_law_840 dL_law_841 dL_law_842 qL_law_847 t3 ft_in t1 t2 rfl hk hn (fun z' => K N2 P2 c2 V2 z' t3)
theorem lc_letGo (hC : gC E RL cL_law 10 p l s m args meth c) (hX : va_X b0 Ls xs s s.heap) (hb0 : b0 < s.heap.size) (hbE : b0 < E.1) (hLs : Ls ≤ 3584) (hi0 : 0 ≤ i) (hi7 : i + 7 ≤ Ls) (H : LI x b o d Sh V N P9 cc) (hk : k + 60 ≤ 601024) (hn : n + 600 ≤ 7293033)
    (K : ∀ (N2 : gN0) (P2 : Int → gN0) (c2 : Int) (V2 : gV) (z2 : Int), LI x b o d Sh V2 N2 P2 c2 → gG E 10 p l e room_1 s m args below meth c Q 2865 [(2, (b0 : Int)), (2, x), (2, b), (2, o), (2, d), (0, i), (9, 0), (9, 0), (9, 0), (9, 0)] [] Sh V2 z2 (k + 60) (n + 600)) : gG E 10 p l e room_1 s m args below meth c Q 850 [(2, (b0 : Int)), (2, x), (2, b), (2, o), (2, d), (0, i), (9, 0), (9, 0), (9, 0), (9, 0)] [] Sh V z k n := by
  refine gB hC _ _ _ _ _ _ _ qL_law_850 rfl ?_
  refine g_sld hC hX hb0 hbE dL_law_856 (by omega) (by omega) hLs ?_
  refine gB hC _ _ _ _ _ _ _ qL_law_857 rfl ?_
  refine g_callSW hC _ dL_law_858 mL_169 wL_letGo (wL_letGo_of (o := o) H.sx H.so  ft2 ft3 (fun z => kX11_letGo H.xr H.inv (sv_in xs (i + 1)))) rfl rfl (Nat.le_of_ble_eq_true rfl) ⟨⟨Nat.le_of_ble_eq_true rfl, Nat.le_of_ble_eq_true rfl⟩, hk, hn⟩ (fun r0 S1 V1 z1 h => ?_) (fun X S1 V1 z1 h => nomatch h.1)
  obtain ⟨h1, rfl, hw⟩ := h
  cases h1
  refine g_widen (k' := k + 60) (n' := n + 600) (Nat.le_refl _) (Nat.le_refl _) ?_
  obtain ⟨e1, g1, g2⟩ := LI_w H (Or.inl rfl) (fun hc => (nv_letGo H.inv H.kz hc).1) hw
  obtain ⟨m1, m2, m3, m4⟩ := LI_m H e1
  refine gB hC _ _ _ _ _ _ _ qL_law_861 rfl ?_
  refine g_sld hC hX hb0 hbE dL_law_869 (by omega) (by omega) hLs ?_
  refine g_callV hC _ dL_law_870 mL_172 vX12_letGo (kX12_letGo m1 H.inv m3 m4 (sv_in xs (i + 1))) rfl H.sb (by decide) rfl (Nat.le_of_ble_eq_true rfl) ⟨⟨Nat.le_of_ble_eq_true rfl, Nat.le_of_ble_eq_true rfl⟩, hk, hn⟩ (fun r0 S2 V2 z2 h => ?_) (fun X S2 V2 z2 h => nomatch h.1)
  obtain ⟨h1, rfl, h2, h3⟩ := h
  cases h1
  refine g_widen (k' := k + 60) (n' := n + 600) (Nat.le_refl _) (Nat.le_refl _) ?_
  obtain ⟨t1, t2, N2, P2, c2, t3⟩ := LI_chg (V2 := V2) H e1 g1 g2 (fun hc => nv_letGo H.inv H.kz hc) (by rw [h2]; exact AGo.rfl' _ _)
  exact g_tailI hC 873 qL_law_873 dL_law_876 qL_law_879 dL_law_881 qL_law_886 dL_law_888 qL_law_891 dL_law_893 qL_law_894 dL_law_896 dL_law_897 dL_law_898 qL_law_903 t3 ft_in t1 t2 rfl hk hn (fun z' => K N2 P2 c2 V2 z' t3)
theorem lc_waitFor (hC : gC E RL cL_law 10 p l s m args meth c) (hX : va_X b0 Ls xs s s.heap) (hb0 : b0 < s.heap.size) (hbE : b0 < E.1) (hLs : Ls ≤ 3584) (hi0 : 0 ≤ i) (hi7 : i + 7 ≤ Ls) (H : LI x b o d Sh V N P9 cc) (hk : k + 60 ≤ 601024) (hn : n + 600 ≤ 7293033)
    (K : ∀ (N2 : gN0) (P2 : Int → gN0) (c2 : Int) (V2 : gV) (z2 : Int), LI x b o d Sh V2 N2 P2 c2 → gG E 10 p l e room_1 s m args below meth c Q 2865 [(2, (b0 : Int)), (2, x), (2, b), (2, o), (2, d), (0, i), (9, 0), (9, 0), (9, 0), (9, 0)] [] Sh V2 z2 (k + 60) (n + 600)) : gG E 10 p l e room_1 s m args below meth c Q 906 [(2, (b0 : Int)), (2, x), (2, b), (2, o), (2, d), (0, i), (9, 0), (9, 0), (9, 0), (9, 0)] [] Sh V z k n := by
  refine gB hC _ _ _ _ _ _ _ qL_law_906 rfl ?_
  refine g_sld hC hX hb0 hbE dL_law_912 (by omega) (by omega) hLs ?_
  refine gB hC _ _ _ _ _ _ _ qL_law_913 rfl ?_
  refine g_sld hC hX hb0 hbE dL_law_918 (by omega) (by omega) hLs ?_
  refine gB hC _ _ _ _ _ _ _ qL_law_919 rfl ?_
  refine g_sld hC hX hb0 hbE dL_law_924 (by omega) (by omega) hLs ?_
  refine gB hC _ _ _ _ _ _ _ qL_law_925 rfl ?_
  refine g_sld hC hX hb0 hbE dL_law_930 (by omega) (by omega) hLs ?_
  refine gB hC _ _ _ _ _ _ _ qL_law_931 rfl ?_
  refine g_sld hC hX hb0 hbE dL_law_936 (by omega) (by omega) hLs ?_
  refine gB hC _ _ _ _ _ _ _ qL_law_937 rfl ?_
  refine g_callSW hC _ dL_law_938 mL_173 wL_waitFor (wL_waitFor_of (o := o) H.sx H.so   (fun z => kX11_waitFor H.xr H.inv (sv_in xs (i + 1)) (sv_in xs (i + 2)) (sv_in xs (i + 3)) (sv_in xs (i + 4)) (sv_in xs (i + 5)))) rfl rfl (Nat.le_of_ble_eq_true rfl) ⟨⟨Nat.le_of_ble_eq_true rfl, Nat.le_of_ble_eq_true rfl⟩, hk, hn⟩ (fun r0 S1 V1 z1 h => ?_) (fun X S1 V1 z1 h => nomatch h.1)
  obtain ⟨h1, rfl, hw⟩ := h
  cases h1
  refine g_widen (k' := k + 60) (n' := n + 600) (Nat.le_refl _) (Nat.le_refl _) ?_
  obtain ⟨e1, g1, g2⟩ := LI_w H (Or.inl rfl) (fun hc => (nv_waitFor H.inv H.kz hc).1) hw
  obtain ⟨m1, m2, m3, m4⟩ := LI_m H e1
  refine gB hC _ _ _ _ _ _ _ qL_law_941 rfl ?_
  refine g_sld hC hX hb0 hbE dL_law_949 (by omega) (by omega) hLs ?_
  refine gB hC _ _ _ _ _ _ _ qL_law_950 rfl ?_
  refine g_sld hC hX hb0 hbE dL_law_955 (by omega) (by omega) hLs ?_
  refine gB hC _ _ _ _ _ _ _ qL_law_956 rfl ?_
  refine g_sld hC hX hb0 hbE dL_law_961 (by omega) (by omega) hLs ?_
  refine gB hC _ _ _ _ _ _ _ qL_law_962 rfl ?_
  refine g_sld hC hX hb0 hbE dL_law_967 (by omega) (by omega) hLs ?_
  refine gB hC _ _ _ _ _ _ _ qL_law_968 rfl ?_
  refine g_sld hC hX hb0 hbE dL_law_973 (by omega) (by omega) hLs ?_
  refine g_callV hC _ dL_law_974 mL_175 vX12_waitFor (kX12_waitFor m1 H.inv m3 m4 (sv_in xs (i + 1)) (sv_in xs (i + 2)) (sv_in xs (i + 3)) (sv_in xs (i + 4)) (sv_in xs (i + 5))) rfl H.sb (by decide) rfl (Nat.le_of_ble_eq_true rfl) ⟨⟨Nat.le_of_ble_eq_true rfl, Nat.le_of_ble_eq_true rfl⟩, hk, hn⟩ (fun r0 S2 V2 z2 h => ?_) (fun X S2 V2 z2 h => nomatch h.1)
  obtain ⟨h1, rfl, h2, h3⟩ := h
  cases h1
  refine g_widen (k' := k + 60) (n' := n + 600) (Nat.le_refl _) (Nat.le_refl _) ?_
  obtain ⟨t1, t2, N2, P2, c2, t3⟩ := LI_chg (V2 := V2) H e1 g1 g2 (fun hc => nv_waitFor H.inv H.kz hc) (by rw [h2]; exact AGo.rfl' _ _)
  exact g_tailI hC 977 qL_law_977 dL_law_980 qL_law_983 dL_law_985 qL_law_990 dL_law_992 qL_law_995 dL_law_997 qL_law_998 dL_law_1000 dL_law_1001 dL_law_1002 qL_law_1007 t3 ft_in t1 t2 rfl hk hn (fun z' => K N2 P2 c2 V2 z' t3)
theorem lc_pay (hC : gC E RL cL_law 10 p l s m args meth c) (hX : va_X b0 Ls xs s s.heap) (hb0 : b0 < s.heap.size) (hbE : b0 < E.1) (hLs : Ls ≤ 3584) (hi0 : 0 ≤ i) (hi7 : i + 7 ≤ Ls) (H : LI x b o d Sh V N P9 cc) (hk : k + 60 ≤ 601024) (hn : n + 600 ≤ 7293033)
    (K : ∀ (N2 : gN0) (P2 : Int → gN0) (c2 : Int) (V2 : gV) (z2 : Int), LI x b o d Sh V2 N2 P2 c2 → gG E 10 p l e room_1 s m args below meth c Q 2865 [(2, (b0 : Int)), (2, x), (2, b), (2, o), (2, d), (0, i), (9, 0), (9, 0), (9, 0), (9, 0)] [] Sh V2 z2 (k + 60) (n + 600)) : gG E 10 p l e room_1 s m args below meth c Q 1010 [(2, (b0 : Int)), (2, x), (2, b), (2, o), (2, d), (0, i), (9, 0), (9, 0), (9, 0), (9, 0)] [] Sh V z k n := by
  refine gB hC _ _ _ _ _ _ _ qL_law_1010 rfl ?_
  refine g_sld hC hX hb0 hbE dL_law_1016 (by omega) (by omega) hLs ?_
  refine gB hC _ _ _ _ _ _ _ qL_law_1017 rfl ?_
  refine g_callSW hC _ dL_law_1018 mL_176 wL_pay (wL_pay_of (o := o) H.sx H.so  ft3 (fun z => kX11_pay H.xr H.inv (sv_in xs (i + 1)))) rfl rfl (Nat.le_of_ble_eq_true rfl) ⟨⟨Nat.le_of_ble_eq_true rfl, Nat.le_of_ble_eq_true rfl⟩, hk, hn⟩ (fun r0 S1 V1 z1 h => ?_) (fun X S1 V1 z1 h => nomatch h.1)
  obtain ⟨h1, rfl, hw⟩ := h
  cases h1
  refine g_widen (k' := k + 60) (n' := n + 600) (Nat.le_refl _) (Nat.le_refl _) ?_
  obtain ⟨e1, g1, g2⟩ := LI_w H (Or.inl rfl) (fun hc => (nv_pay H.inv H.kz hc).1) hw
  obtain ⟨m1, m2, m3, m4⟩ := LI_m H e1
  refine gB hC _ _ _ _ _ _ _ qL_law_1021 rfl ?_
  refine g_sld hC hX hb0 hbE dL_law_1029 (by omega) (by omega) hLs ?_
  refine g_callV hC _ dL_law_1030 mL_178 vX12_pay (kX12_pay m1 H.inv m3 m4 (sv_in xs (i + 1))) rfl H.sb (by decide) rfl (Nat.le_of_ble_eq_true rfl) ⟨⟨Nat.le_of_ble_eq_true rfl, Nat.le_of_ble_eq_true rfl⟩, hk, hn⟩ (fun r0 S2 V2 z2 h => ?_) (fun X S2 V2 z2 h => nomatch h.1)
  obtain ⟨h1, rfl, h2, h3⟩ := h
  cases h1
  refine g_widen (k' := k + 60) (n' := n + 600) (Nat.le_refl _) (Nat.le_refl _) ?_
  obtain ⟨t1, t2, N2, P2, c2, t3⟩ := LI_chg (V2 := V2) H e1 g1 g2 (fun hc => nv_pay H.inv H.kz hc) (by rw [h2]; exact AGo.rfl' _ _)
  exact g_tailI hC 1033 qL_law_1033 dL_law_1036 qL_law_1039 dL_law_1041 qL_law_1046 dL_law_1048 qL_law_1051 dL_law_1053 qL_law_1054 dL_law_1056 dL_law_1057 dL_law_1058 qL_law_1063 t3 ft_in t1 t2 rfl hk hn (fun z' => K N2 P2 c2 V2 z' t3)
theorem lc_cancel (hC : gC E RL cL_law 10 p l s m args meth c) (hX : va_X b0 Ls xs s s.heap) (hb0 : b0 < s.heap.size) (hbE : b0 < E.1) (hLs : Ls ≤ 3584) (hi0 : 0 ≤ i) (hi7 : i + 7 ≤ Ls) (H : LI x b o d Sh V N P9 cc) (hk : k + 60 ≤ 601024) (hn : n + 600 ≤ 7293033)
    (K : ∀ (N2 : gN0) (P2 : Int → gN0) (c2 : Int) (V2 : gV) (z2 : Int), LI x b o d Sh V2 N2 P2 c2 → gG E 10 p l e room_1 s m args below meth c Q 2865 [(2, (b0 : Int)), (2, x), (2, b), (2, o), (2, d), (0, i), (9, 0), (9, 0), (9, 0), (9, 0)] [] Sh V2 z2 (k + 60) (n + 600)) : gG E 10 p l e room_1 s m args below meth c Q 1066 [(2, (b0 : Int)), (2, x), (2, b), (2, o), (2, d), (0, i), (9, 0), (9, 0), (9, 0), (9, 0)] [] Sh V z k n := by
  refine gB hC _ _ _ _ _ _ _ qL_law_1066 rfl ?_
  refine g_sld hC hX hb0 hbE dL_law_1072 (by omega) (by omega) hLs ?_
  refine gB hC _ _ _ _ _ _ _ qL_law_1073 rfl ?_
  refine g_callSW hC _ dL_law_1074 mL_179 wL_cancel (wL_cancel_of (o := o) H.sx H.so  ft3 (fun z => kX11_cancel H.xr H.inv (sv_in xs (i + 1)))) rfl rfl (Nat.le_of_ble_eq_true rfl) ⟨⟨Nat.le_of_ble_eq_true rfl, Nat.le_of_ble_eq_true rfl⟩, hk, hn⟩ (fun r0 S1 V1 z1 h => ?_) (fun X S1 V1 z1 h => nomatch h.1)
  obtain ⟨h1, rfl, hw⟩ := h
  cases h1
  refine g_widen (k' := k + 60) (n' := n + 600) (Nat.le_refl _) (Nat.le_refl _) ?_
  obtain ⟨e1, g1, g2⟩ := LI_w H (Or.inl rfl) (fun hc => (nv_cancel H.inv H.kz hc).1) hw
  obtain ⟨m1, m2, m3, m4⟩ := LI_m H e1
  refine gB hC _ _ _ _ _ _ _ qL_law_1077 rfl ?_
  refine g_sld hC hX hb0 hbE dL_law_1085 (by omega) (by omega) hLs ?_
  refine g_callV hC _ dL_law_1086 mL_181 vX12_cancel (kX12_cancel m1 H.inv m3 m4 (sv_in xs (i + 1))) rfl H.sb (by decide) rfl (Nat.le_of_ble_eq_true rfl) ⟨⟨Nat.le_of_ble_eq_true rfl, Nat.le_of_ble_eq_true rfl⟩, hk, hn⟩ (fun r0 S2 V2 z2 h => ?_) (fun X S2 V2 z2 h => nomatch h.1)
  obtain ⟨h1, rfl, h2, h3⟩ := h
  cases h1
  refine g_widen (k' := k + 60) (n' := n + 600) (Nat.le_refl _) (Nat.le_refl _) ?_
  obtain ⟨t1, t2, N2, P2, c2, t3⟩ := LI_chg (V2 := V2) H e1 g1 g2 (fun hc => nv_cancel H.inv H.kz hc) (by rw [h2]; exact AGo.rfl' _ _)
  exact g_tailI hC 1089 qL_law_1089 dL_law_1092 qL_law_1095 dL_law_1097 qL_law_1102 dL_law_1104 qL_law_1107 dL_law_1109 qL_law_1110 dL_law_1112 dL_law_1113 dL_law_1114 qL_law_1119 t3 ft_in t1 t2 rfl hk hn (fun z' => K N2 P2 c2 V2 z' t3)
theorem lc_longer (hC : gC E RL cL_law 10 p l s m args meth c) (hX : va_X b0 Ls xs s s.heap) (hb0 : b0 < s.heap.size) (hbE : b0 < E.1) (hLs : Ls ≤ 3584) (hi0 : 0 ≤ i) (hi7 : i + 7 ≤ Ls) (H : LI x b o d Sh V N P9 cc) (hk : k + 60 ≤ 601024) (hn : n + 600 ≤ 7293033)
    (K : ∀ (N2 : gN0) (P2 : Int → gN0) (c2 : Int) (V2 : gV) (z2 : Int), LI x b o d Sh V2 N2 P2 c2 → gG E 10 p l e room_1 s m args below meth c Q 2865 [(2, (b0 : Int)), (2, x), (2, b), (2, o), (2, d), (0, i), (9, 0), (9, 0), (9, 0), (9, 0)] [] Sh V2 z2 (k + 60) (n + 600)) : gG E 10 p l e room_1 s m args below meth c Q 1122 [(2, (b0 : Int)), (2, x), (2, b), (2, o), (2, d), (0, i), (9, 0), (9, 0), (9, 0), (9, 0)] [] Sh V z k n := by
  refine gB hC _ _ _ _ _ _ _ qL_law_1122 rfl ?_
  refine g_sld hC hX hb0 hbE dL_law_1128 (by omega) (by omega) hLs ?_
  refine gB hC _ _ _ _ _ _ _ qL_law_1129 rfl ?_
  refine g_sld hC hX hb0 hbE dL_law_1134 (by omega) (by omega) hLs ?_
  refine gB hC _ _ _ _ _ _ _ qL_law_1135 rfl ?_
  refine g_callSW hC _ dL_law_1136 mL_182 wL_longer (wL_longer_of (o := o) H.sx H.so   (fun z => kX11_longer H.xr H.inv (sv_in xs (i + 1)) (sv_in xs (i + 2)))) rfl rfl (Nat.le_of_ble_eq_true rfl) ⟨⟨Nat.le_of_ble_eq_true rfl, Nat.le_of_ble_eq_true rfl⟩, hk, hn⟩ (fun r0 S1 V1 z1 h => ?_) (fun X S1 V1 z1 h => nomatch h.1)
  obtain ⟨h1, rfl, hw⟩ := h
  cases h1
  refine g_widen (k' := k + 60) (n' := n + 600) (Nat.le_refl _) (Nat.le_refl _) ?_
  obtain ⟨e1, g1, g2⟩ := LI_w H (Or.inl rfl) (fun hc => (nv_longer H.inv H.kz hc).1) hw
  obtain ⟨m1, m2, m3, m4⟩ := LI_m H e1
  refine gB hC _ _ _ _ _ _ _ qL_law_1139 rfl ?_
  refine g_sld hC hX hb0 hbE dL_law_1147 (by omega) (by omega) hLs ?_
  refine gB hC _ _ _ _ _ _ _ qL_law_1148 rfl ?_
  refine g_sld hC hX hb0 hbE dL_law_1153 (by omega) (by omega) hLs ?_
  refine g_callV hC _ dL_law_1154 mL_184 vX12_longer (kX12_longer m1 H.inv m3 m4 (sv_in xs (i + 1)) (sv_in xs (i + 2))) rfl H.sb (by decide) rfl (Nat.le_of_ble_eq_true rfl) ⟨⟨Nat.le_of_ble_eq_true rfl, Nat.le_of_ble_eq_true rfl⟩, hk, hn⟩ (fun r0 S2 V2 z2 h => ?_) (fun X S2 V2 z2 h => nomatch h.1)
  obtain ⟨h1, rfl, h2, h3⟩ := h
  cases h1
  refine g_widen (k' := k + 60) (n' := n + 600) (Nat.le_refl _) (Nat.le_refl _) ?_
  obtain ⟨t1, t2, N2, P2, c2, t3⟩ := LI_chg (V2 := V2) H e1 g1 g2 (fun hc => nv_longer H.inv H.kz hc) (by rw [h2]; exact AGo.rfl' _ _)
  exact g_tailI hC 1157 qL_law_1157 dL_law_1160 qL_law_1163 dL_law_1165 qL_law_1170 dL_law_1172 qL_law_1175 dL_law_1177 qL_law_1178 dL_law_1180 dL_law_1181 dL_law_1182 qL_law_1187 t3 ft_in t1 t2 rfl hk hn (fun z' => K N2 P2 c2 V2 z' t3)
end LC
