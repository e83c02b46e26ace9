/-! cases of the law (laid by wip/whole/gen9i.py) -/
section LC
variable {E : gE} {p : Program} {l : Launch} {e : Env} {s : State} {m : MethodId} {args : Array Value} {below : List Frame} {meth : Method} {c : Code} {Q : State → Prop} {pc k n : Nat} {Sh : gSh} {V : gV} {z : Int}
variable {b0 Ls : Nat} {xs : Nat → Int32} {x b o d i cc : Int} {N : gN0} {P9 : Int → gN0}
theorem lc_priceOf (hC : gC E RL cL_law 10 p l s m args meth c) (hX : va_X b0 Ls xs s s.heap) (hb0 : b0 < s.heap.size) (hbE : b0 < E.1) (hLs : Ls ≤ 3584) (hi0 : 0 ≤ i) (hi7 : i + 7 ≤ Ls) (H : LI x b o d Sh V N P9 cc) (hk : k + 60 ≤ 601024) (hn : n + 600 ≤ 7293033)
    (K : ∀ (N2 : gN0) (P2 : Int → gN0) (c2 : Int) (V2 : gV) (z2 : Int), LI x b o d Sh V2 N2 P2 c2 → gG E 10 p l e room_1 s m args below meth c Q 2865 [(2, (b0 : Int)), (2, x), (2, b), (2, o), (2, d), (0, i), (9, 0), (9, 0), (9, 0), (9, 0)] [] Sh V2 z2 (k + 60) (n + 600)) : gG E 10 p l e room_1 s m args below meth c Q 2022 [(2, (b0 : Int)), (2, x), (2, b), (2, o), (2, d), (0, i), (9, 0), (9, 0), (9, 0), (9, 0)] [] Sh V z k n := by
  refine gB hC _ _ _ _ _ _ _ qL_law_2022 rfl ?_
  refine g_sld hC hX hb0 hbE dL_law_2028 (by omega) (by omega) hLs ?_
  refine gB hC _ _ _ _ _ _ _ qL_law_2029 rfl ?_
  refine g_sld hC hX hb0 hbE dL_law_2034 (by omega) (by omega) hLs ?_
  refine gB hC _ _ _ _ _ _ _ qL_law_2035 rfl ?_
  refine g_callSW hC _ dL_law_2036 mL_238 wL_priceOf (wL_priceOf_of (o := o) H.sx H.so  ft3 (fun z => kX11_priceOf H.xr H.inv (sv_in xs (i + 1)) (sv_in xs (i + 2)))) rfl rfl (Nat.le_of_ble_eq_true rfl) ⟨⟨Nat.le_of_ble_eq_true rfl, Nat.le_of_ble_eq_true rfl⟩, hk, hn⟩ (fun r0 S1 V1 z1 h => ?_) (fun X S1 V1 z1 h => nomatch h.1)
  obtain ⟨h1, rfl, hw⟩ := h
  cases h1
  refine g_widen (k' := k + 60) (n' := n + 600) (Nat.le_refl _) (Nat.le_refl _) ?_
  obtain ⟨e1, g1, g2⟩ := LI_w H (Or.inl rfl) (fun _ => H.inv) hw
  obtain ⟨m1, m2, m3, m4⟩ := LI_m H e1
  refine gB hC _ _ _ _ _ _ _ qL_law_2039 rfl ?_
  refine g_sld hC hX hb0 hbE dL_law_2047 (by omega) (by omega) hLs ?_
  refine gB hC _ _ _ _ _ _ _ qL_law_2048 rfl ?_
  refine g_sld hC hX hb0 hbE dL_law_2053 (by omega) (by omega) hLs ?_
  refine g_callV hC _ dL_law_2054 mL_240 vX12_priceOf (kX12_priceOf m1 H.inv (sv_in xs (i + 1)) (sv_in xs (i + 2))) rfl H.sb (by decide) rfl (Nat.le_of_ble_eq_true rfl) ⟨⟨Nat.le_of_ble_eq_true rfl, Nat.le_of_ble_eq_true rfl⟩, hk, hn⟩ (fun r0 S2 V2 z2 h => ?_) (fun X S2 V2 z2 h => nomatch h.1)
  obtain ⟨h1, rfl, h2, h3⟩ := h
  cases h1
  refine g_widen (k' := k + 60) (n' := n + 600) (Nat.le_refl _) (Nat.le_refl _) ?_
  obtain ⟨t1, t2, N2, P2, c2, t3⟩ := LI_rdr (V2 := V2) (Or.inl rfl) H e1 g1 g2 (by rw [h2]; exact AGo.rfl' _ _)
  exact g_tailI hC 2057 qL_law_2057 dL_law_2060 qL_law_2063 dL_law_2065 qL_law_2070 dL_law_2072 qL_law_2075 dL_law_2077 qL_law_2078 dL_law_2080 dL_law_2081 dL_law_2082 qL_law_2087 t3 ft_in t1 t2 rfl hk hn (fun z' => K N2 P2 c2 V2 z' t3)
theorem lc_refund (hC : gC E RL cL_law 10 p l s m args meth c) (hX : va_X b0 Ls xs s s.heap) (hb0 : b0 < s.heap.size) (hbE : b0 < E.1) (hLs : Ls ≤ 3584) (hi0 : 0 ≤ i) (hi7 : i + 7 ≤ Ls) (H : LI x b o d Sh V N P9 cc) (hk : k + 60 ≤ 601024) (hn : n + 600 ≤ 7293033)
    (K : ∀ (N2 : gN0) (P2 : Int → gN0) (c2 : Int) (V2 : gV) (z2 : Int), LI x b o d Sh V2 N2 P2 c2 → gG E 10 p l e room_1 s m args below meth c Q 2865 [(2, (b0 : Int)), (2, x), (2, b), (2, o), (2, d), (0, i), (9, 0), (9, 0), (9, 0), (9, 0)] [] Sh V2 z2 (k + 60) (n + 600)) : gG E 10 p l e room_1 s m args below meth c Q 2090 [(2, (b0 : Int)), (2, x), (2, b), (2, o), (2, d), (0, i), (9, 0), (9, 0), (9, 0), (9, 0)] [] Sh V z k n := by
  refine gB hC _ _ _ _ _ _ _ qL_law_2090 rfl ?_
  refine g_sld hC hX hb0 hbE dL_law_2096 (by omega) (by omega) hLs ?_
  refine gB hC _ _ _ _ _ _ _ qL_law_2097 rfl ?_
  refine g_callSW hC _ dL_law_2098 mL_241 wL_refund (wL_refund_of (o := o) H.sx H.so  ft2 ft3 (fun z => kX11_refund H.xr H.inv (sv_in xs (i + 1)))) rfl rfl (Nat.le_of_ble_eq_true rfl) ⟨⟨Nat.le_of_ble_eq_true rfl, Nat.le_of_ble_eq_true rfl⟩, hk, hn⟩ (fun r0 S1 V1 z1 h => ?_) (fun X S1 V1 z1 h => nomatch h.1)
  obtain ⟨h1, rfl, hw⟩ := h
  cases h1
  refine g_widen (k' := k + 60) (n' := n + 600) (Nat.le_refl _) (Nat.le_refl _) ?_
  obtain ⟨e1, g1, g2⟩ := LI_w H (Or.inl rfl) (fun _ => H.inv) hw
  obtain ⟨m1, m2, m3, m4⟩ := LI_m H e1
  refine gB hC _ _ _ _ _ _ _ qL_law_2101 rfl ?_
  refine g_sld hC hX hb0 hbE dL_law_2109 (by omega) (by omega) hLs ?_
  refine g_callV hC _ dL_law_2110 mL_243 vX12_refund (kX12_refund m1 H.inv (sv_in xs (i + 1))) rfl H.sb (by decide) rfl (Nat.le_of_ble_eq_true rfl) ⟨⟨Nat.le_of_ble_eq_true rfl, Nat.le_of_ble_eq_true rfl⟩, hk, hn⟩ (fun r0 S2 V2 z2 h => ?_) (fun X S2 V2 z2 h => nomatch h.1)
  obtain ⟨h1, rfl, h2, h3⟩ := h
  cases h1
  refine g_widen (k' := k + 60) (n' := n + 600) (Nat.le_refl _) (Nat.le_refl _) ?_
  obtain ⟨t1, t2, N2, P2, c2, t3⟩ := LI_rdr (V2 := V2) (Or.inl rfl) H e1 g1 g2 (by rw [h2]; exact AGo.rfl' _ _)
  exact g_tailI hC 2113 qL_law_2113 dL_law_2116 qL_law_2119 dL_law_2121 qL_law_2126 dL_law_2128 qL_law_2131 dL_law_2133 qL_law_2134 dL_law_2136 dL_law_2137 dL_law_2138 qL_law_2143 t3 ft_in t1 t2 rfl hk hn (fun z' => K N2 P2 c2 V2 z' t3)
theorem lc_book (hC : gC E RL cL_law 10 p l s m args meth c) (hX : va_X b0 Ls xs s s.heap) (hb0 : b0 < s.heap.size) (hbE : b0 < E.1) (hLs : Ls ≤ 3584) (hi0 : 0 ≤ i) (hi7 : i + 7 ≤ Ls) (H : LI x b o d Sh V N P9 cc) (hk : k + 60 ≤ 601024) (hn : n + 600 ≤ 7293033)
    (K : ∀ (N2 : gN0) (P2 : Int → gN0) (c2 : Int) (V2 : gV) (z2 : Int), LI x b o d Sh V2 N2 P2 c2 → gG E 10 p l e room_1 s m args below meth c Q 2865 [(2, (b0 : Int)), (2, x), (2, b), (2, o), (2, d), (0, i), (9, 0), (9, 0), (9, 0), (9, 0)] [] Sh V2 z2 (k + 60) (n + 600)) : gG E 10 p l e room_1 s m args below meth c Q 2146 [(2, (b0 : Int)), (2, x), (2, b), (2, o), (2, d), (0, i), (9, 0), (9, 0), (9, 0), (9, 0)] [] Sh V z k n := by
  refine gB hC _ _ _ _ _ _ _ qL_law_2146 rfl ?_
  refine g_sld hC hX hb0 hbE dL_law_2152 (by omega) (by omega) hLs ?_
  refine gB hC _ _ _ _ _ _ _ qL_law_2153 rfl ?_
  refine g_callSW hC _ dL_law_2154 mL_244 wL_book (wL_book_of (o := o) H.sx H.so (fun hc => bk_in H.inv (fit_p1 hc)) ft2 ft3 (fun z => kX11_book H.xr H.inv (sv_in xs (i + 1)))) rfl rfl (Nat.le_of_ble_eq_true rfl) ⟨⟨Nat.le_of_ble_eq_true rfl, Nat.le_of_ble_eq_true rfl⟩, hk, hn⟩ (fun r0 S1 V1 z1 h => ?_) (fun X S1 V1 z1 h => nomatch h.1)
  obtain ⟨h1, rfl, hw⟩ := h
  cases h1
  refine g_widen (k' := k + 60) (n' := n + 600) (Nat.le_refl _) (Nat.le_refl _) ?_
  obtain ⟨e1, g1, g2⟩ := LI_w H (Or.inl rfl) (fun _ => H.inv) hw
  obtain ⟨m1, m2, m3, m4⟩ := LI_m H e1
  refine gB hC _ _ _ _ _ _ _ qL_law_2157 rfl ?_
  refine g_sld hC hX hb0 hbE dL_law_2165 (by omega) (by omega) hLs ?_
  refine g_callV hC _ dL_law_2166 mL_246 vX12_book (kX12_book m1 H.inv (sv_in xs (i + 1))) rfl H.sb (by decide) rfl (Nat.le_of_ble_eq_true rfl) ⟨⟨Nat.le_of_ble_eq_true rfl, Nat.le_of_ble_eq_true rfl⟩, hk, hn⟩ (fun r0 S2 V2 z2 h => ?_) (fun X S2 V2 z2 h => nomatch h.1)
  obtain ⟨h1, rfl, h2, h3⟩ := h
  cases h1
  refine g_widen (k' := k + 60) (n' := n + 600) (Nat.le_refl _) (Nat.le_refl _) ?_
  obtain ⟨t1, t2, N2, P2, c2, t3⟩ := LI_rdr (V2 := V2) (Or.inl rfl) H e1 g1 g2 (by rw [h2]; exact AGo.rfl' _ _)
  exact g_tailL hC 2169 qL_law_2169 dL_law_2172 qL_law_2175 dL_law_2177 qL_law_2182 dL_law_2184 qL_law_2187 dL_law_2189 qL_law_2190 dL_law_2192 dL_law_2193 qL_law_2198 t3 ft_in t1 t2 rfl (fun hc => by rw [if_pos hc] at h3; exact h3) hk hn (fun z' => K N2 P2 c2 V2 z' t3)
theorem lc_waiting (hC : gC E RL cL_law 10 p l s m args meth c) (hX : va_X b0 Ls xs s s.heap) (hb0 : b0 < s.heap.size) (hbE : b0 < E.1) (hLs : Ls ≤ 3584) (hi0 : 0 ≤ i) (hi7 : i + 7 ≤ Ls) (H : LI x b o d Sh V N P9 cc) (hk : k + 60 ≤ 601024) (hn : n + 600 ≤ 7293033)
    (K : ∀ (N2 : gN0) (P2 : Int → gN0) (c2 : Int) (V2 : gV) (z2 : Int), LI x b o d Sh V2 N2 P2 c2 → gG E 10 p l e room_1 s m args below meth c Q 2865 [(2, (b0 : Int)), (2, x), (2, b), (2, o), (2, d), (0, i), (9, 0), (9, 0), (9, 0), (9, 0)] [] Sh V2 z2 (k + 60) (n + 600)) : gG E 10 p l e room_1 s m args below meth c Q 2201 [(2, (b0 : Int)), (2, x), (2, b), (2, o), (2, d), (0, i), (9, 0), (9, 0), (9, 0), (9, 0)] [] Sh V z k n := by
  refine gB hC _ _ _ _ _ _ _ qL_law_2201 rfl ?_
  refine g_callV hC _ dL_law_2202 mL_247 vX11_waiting (kX11_waiting H.xr H.inv) rfl H.sx (by decide) rfl (Nat.le_of_ble_eq_true rfl) ⟨⟨Nat.le_of_ble_eq_true rfl, Nat.le_of_ble_eq_true rfl⟩, hk, hn⟩ (fun r0 S1 V1 z1 h => ?_) (fun X S1 V1 z1 h => nomatch h.1)
  obtain ⟨h1, rfl, g1, g2⟩ := h
  cases h1
  refine g_widen (k' := k + 60) (n' := n + 600) (Nat.le_refl _) (Nat.le_refl _) ?_
  have e1 : OUO x o d _ V V1 := OUX.ouo g2
  obtain ⟨m1, m2, m3, m4⟩ := LI_m H e1
  refine gB hC _ _ _ _ _ _ _ qL_law_2205 rfl ?_
  refine g_callV hC _ dL_law_2206 mL_250 vX12_waiting (kX12_waiting m1 H.inv) rfl H.sb (by decide) rfl (Nat.le_of_ble_eq_true rfl) ⟨⟨Nat.le_of_ble_eq_true rfl, Nat.le_of_ble_eq_true rfl⟩, hk, hn⟩ (fun r0 S2 V2 z2 h => ?_) (fun X S2 V2 z2 h => nomatch h.1)
  obtain ⟨h1, rfl, h2, h3⟩ := h
  cases h1
  refine g_widen (k' := k + 60) (n' := n + 600) (Nat.le_refl _) (Nat.le_refl _) ?_
  obtain ⟨-, t3, -⟩ := LI_rd (V2 := V2) H e1 g1 (C := 0) (by rw [h2]; exact AGo.rfl' _ _)
  refine g_icmp_eq hC 2865 dL_law_2209 rfl h3 h3 (fun _ => K _ _ _ V2 z2 t3) (fun q => absurd rfl q)
theorem lc_awaited (hC : gC E RL cL_law 10 p l s m args meth c) (hX : va_X b0 Ls xs s s.heap) (hb0 : b0 < s.heap.size) (hbE : b0 < E.1) (hLs : Ls ≤ 3584) (hi0 : 0 ≤ i) (hi7 : i + 7 ≤ Ls) (H : LI x b o d Sh V N P9 cc) (hk : k + 60 ≤ 601024) (hn : n + 600 ≤ 7293033)
    (K : ∀ (N2 : gN0) (P2 : Int → gN0) (c2 : Int) (V2 : gV) (z2 : Int), LI x b o d Sh V2 N2 P2 c2 → gG E 10 p l e room_1 s m args below meth c Q 2865 [(2, (b0 : Int)), (2, x), (2, b), (2, o), (2, d), (0, i), (9, 0), (9, 0), (9, 0), (9, 0)] [] Sh V2 z2 (k + 60) (n + 600)) : gG E 10 p l e room_1 s m args below meth c Q 2214 [(2, (b0 : Int)), (2, x), (2, b), (2, o), (2, d), (0, i), (9, 0), (9, 0), (9, 0), (9, 0)] [] Sh V z k n := by
  refine gB hC _ _ _ _ _ _ _ qL_law_2214 rfl ?_
  refine g_sld hC hX hb0 hbE dL_law_2220 (by omega) (by omega) hLs ?_
  refine gB hC _ _ _ _ _ _ _ qL_law_2221 rfl ?_
  refine g_sld hC hX hb0 hbE dL_law_2226 (by omega) (by omega) hLs ?_
  refine gB hC _ _ _ _ _ _ _ qL_law_2227 rfl ?_
  refine g_callSW hC _ dL_law_2228 mL_251 wL_awaited (wL_awaited_of (o := o) H.sx H.so (fun hc => aw_in H.inv (fit_p1 hc)) ft2 ft3 (fun z => kX11_awaited H.xr H.inv (sv_in xs (i + 1)) (sv_in xs (i + 2)))) rfl rfl (Nat.le_of_ble_eq_true rfl) ⟨⟨Nat.le_of_ble_eq_true rfl, Nat.le_of_ble_eq_true rfl⟩, hk, hn⟩ (fun r0 S1 V1 z1 h => ?_) (fun X S1 V1 z1 h => nomatch h.1)
  obtain ⟨h1, rfl, hw⟩ := h
  cases h1
  refine g_widen (k' := k + 60) (n' := n + 600) (Nat.le_refl _) (Nat.le_refl _) ?_
  obtain ⟨e1, g1, g2⟩ := LI_w H (Or.inl rfl) (fun _ => H.inv) hw
  obtain ⟨m1, m2, m3, m4⟩ := LI_m H e1
  refine gB hC _ _ _ _ _ _ _ qL_law_2231 rfl ?_
  refine g_sld hC hX hb0 hbE dL_law_2239 (by omega) (by omega) hLs ?_
  refine gB hC _ _ _ _ _ _ _ qL_law_2240 rfl ?_
  refine g_sld hC hX hb0 hbE dL_law_2245 (by omega) (by omega) hLs ?_
  refine g_callV hC _ dL_law_2246 mL_253 vX12_awaited (kX12_awaited m1 H.inv (sv_in xs (i + 1)) (sv_in xs (i + 2))) rfl H.sb (by decide) rfl (Nat.le_of_ble_eq_true rfl) ⟨⟨Nat.le_of_ble_eq_true rfl, Nat.le_of_ble_eq_true rfl⟩, hk, hn⟩ (fun r0 S2 V2 z2 h => ?_) (fun X S2 V2 z2 h => nomatch h.1)
  obtain ⟨h1, rfl, h2, h3⟩ := h
  cases h1
  refine g_widen (k' := k + 60) (n' := n + 600) (Nat.le_refl _) (Nat.le_refl _) ?_
  obtain ⟨t1, t2, N2, P2, c2, t3⟩ := LI_rdr (V2 := V2) (Or.inl rfl) H e1 g1 g2 (by rw [h2]; exact AGo.ife (AGo.inn _ _ _ _))
  exact g_tailL hC 2249 qL_law_2249 dL_law_2252 qL_law_2255 dL_law_2257 qL_law_2262 dL_law_2264 qL_law_2267 dL_law_2269 qL_law_2270 dL_law_2272 dL_law_2273 qL_law_2278 t3 ft_in t1 t2 rfl (fun hc => by rw [if_pos hc] at h3; exact h3) hk hn (fun z' => K N2 P2 c2 V2 z' t3)
theorem lc_limit (hC : gC E RL cL_law 10 p l s m args meth c) (hX : va_X b0 Ls xs s s.heap) (hb0 : b0 < s.heap.size) (hbE : b0 < E.1) (hLs : Ls ≤ 3584) (hi0 : 0 ≤ i) (hi7 : i + 7 ≤ Ls) (H : LI x b o d Sh V N P9 cc) (hk : k + 60 ≤ 601024) (hn : n + 600 ≤ 7293033)
    (K : ∀ (N2 : gN0) (P2 : Int → gN0) (c2 : Int) (V2 : gV) (z2 : Int), LI x b o d Sh V2 N2 P2 c2 → gG E 10 p l e room_1 s m args below meth c Q 2865 [(2, (b0 : Int)), (2, x), (2, b), (2, o), (2, d), (0, i), (9, 0), (9, 0), (9, 0), (9, 0)] [] Sh V2 z2 (k + 60) (n + 600)) : gG E 10 p l e room_1 s m args below meth c Q 2281 [(2, (b0 : Int)), (2, x), (2, b), (2, o), (2, d), (0, i), (9, 0), (9, 0), (9, 0), (9, 0)] [] Sh V z k n := by
  refine gB hC _ _ _ _ _ _ _ qL_law_2281 rfl ?_
  refine g_sld hC hX hb0 hbE dL_law_2287 (by omega) (by omega) hLs ?_
  refine gB hC _ _ _ _ _ _ _ qL_law_2288 rfl ?_
  refine g_sld hC hX hb0 hbE dL_law_2293 (by omega) (by omega) hLs ?_
  refine gB hC _ _ _ _ _ _ _ qL_law_2294 rfl ?_
  refine g_callSW hC _ dL_law_2295 mL_254 wL_limit (wL_limit_of (o := o) H.sx H.so  ft2 ft3 (fun z => kX11_limit H.xr H.inv (sv_in xs (i + 1)) (sv_in xs (i + 2)))) rfl rfl (Nat.le_of_ble_eq_true rfl) ⟨⟨Nat.le_of_ble_eq_true rfl, Nat.le_of_ble_eq_true rfl⟩, hk, hn⟩ (fun r0 S1 V1 z1 h => ?_) (fun X S1 V1 z1 h => nomatch h.1)
  obtain ⟨h1, rfl, hw⟩ := h
  cases h1
  refine g_widen (k' := k + 60) (n' := n + 600) (Nat.le_refl _) (Nat.le_refl _) ?_
  obtain ⟨e1, g1, g2⟩ := LI_w H (Or.inl rfl) (fun _ => H.inv) hw
  obtain ⟨m1, m2, m3, m4⟩ := LI_m H e1
  refine gB hC _ _ _ _ _ _ _ qL_law_2298 rfl ?_
  refine g_sld hC hX hb0 hbE dL_law_2306 (by omega) (by omega) hLs ?_
  refine gB hC _ _ _ _ _ _ _ qL_law_2307 rfl ?_
  refine g_sld hC hX hb0 hbE dL_law_2312 (by omega) (by omega) hLs ?_
  refine g_callV hC _ dL_law_2313 mL_256 vX12_limit (kX12_limit m1 H.inv (sv_in xs (i + 1)) (sv_in xs (i + 2))) rfl H.sb (by decide) rfl (Nat.le_of_ble_eq_true rfl) ⟨⟨Nat.le_of_ble_eq_true rfl, Nat.le_of_ble_eq_true rfl⟩, hk, hn⟩ (fun r0 S2 V2 z2 h => ?_) (fun X S2 V2 z2 h => nomatch h.1)
  obtain ⟨h1, rfl, h2, h3⟩ := h
  cases h1
  refine g_widen (k' := k + 60) (n' := n + 600) (Nat.le_refl _) (Nat.le_refl _) ?_
  obtain ⟨t1, t2, N2, P2, c2, t3⟩ := LI_rdr (V2 := V2) (Or.inl rfl) H e1 g1 g2 (by rw [h2]; exact AGo.ife (AGo.inn _ _ _ _))
  exact g_tailI hC 2316 qL_law_2316 dL_law_2319 qL_law_2322 dL_law_2324 qL_law_2329 dL_law_2331 qL_law_2334 dL_law_2336 qL_law_2337 dL_law_2339 dL_law_2340 dL_law_2341 qL_law_2346 t3 ft_in t1 t2 rfl hk hn (fun z' => K N2 P2 c2 V2 z' t3)
theorem lc_saleAt (hC : gC E RL cL_law 10 p l s m args meth c) (hX : va_X b0 Ls xs s s.heap) (hb0 : b0 < s.heap.size) (hbE : b0 < E.1) (hLs : Ls ≤ 3584) (hi0 : 0 ≤ i) (hi7 : i + 7 ≤ Ls) (H : LI x b o d Sh V N P9 cc) (hk : k + 60 ≤ 601024) (hn : n + 600 ≤ 7293033)
    (K : ∀ (N2 : gN0) (P2 : Int → gN0) (c2 : Int) (V2 : gV) (z2 : Int), LI x b o d Sh V2 N2 P2 c2 → gG E 10 p l e room_1 s m args below meth c Q 2865 [(2, (b0 : Int)), (2, x), (2, b), (2, o), (2, d), (0, i), (9, 0), (9, 0), (9, 0), (9, 0)] [] Sh V2 z2 (k + 60) (n + 600)) : gG E 10 p l e room_1 s m args below meth c Q 2349 [(2, (b0 : Int)), (2, x), (2, b), (2, o), (2, d), (0, i), (9, 0), (9, 0), (9, 0), (9, 0)] [] Sh V z k n := by
  refine gB hC _ _ _ _ _ _ _ qL_law_2349 rfl ?_
  refine g_sld hC hX hb0 hbE dL_law_2355 (by omega) (by omega) hLs ?_
  refine gB hC _ _ _ _ _ _ _ qL_law_2356 rfl ?_
  refine g_callSW hC _ dL_law_2357 mL_257 wL_saleAt (wL_saleAt_of (o := o) H.sx H.so  ft3 (fun z => kX11_saleAt H.xr H.inv (sv_in xs (i + 1)))) rfl rfl (Nat.le_of_ble_eq_true rfl) ⟨⟨Nat.le_of_ble_eq_true rfl, Nat.le_of_ble_eq_true rfl⟩, hk, hn⟩ (fun r0 S1 V1 z1 h => ?_) (fun X S1 V1 z1 h => nomatch h.1)
  obtain ⟨h1, rfl, hw⟩ := h
  cases h1
  refine g_widen (k' := k + 60) (n' := n + 600) (Nat.le_refl _) (Nat.le_refl _) ?_
  obtain ⟨e1, g1, g2⟩ := LI_w H (Or.inl rfl) (fun _ => H.inv) hw
  obtain ⟨m1, m2, m3, m4⟩ := LI_m H e1
  refine gB hC _ _ _ _ _ _ _ qL_law_2360 rfl ?_
  refine g_sld hC hX hb0 hbE dL_law_2368 (by omega) (by omega) hLs ?_
  refine g_callV hC _ dL_law_2369 mL_259 vX12_saleAt (kX12_saleAt m1 H.inv (sv_in xs (i + 1))) rfl H.sb (by decide) rfl (Nat.le_of_ble_eq_true rfl) ⟨⟨Nat.le_of_ble_eq_true rfl, Nat.le_of_ble_eq_true rfl⟩, hk, hn⟩ (fun r0 S2 V2 z2 h => ?_) (fun X S2 V2 z2 h => nomatch h.1)
  obtain ⟨h1, rfl, h2, h3⟩ := h
  cases h1
  refine g_widen (k' := k + 60) (n' := n + 600) (Nat.le_refl _) (Nat.le_refl _) ?_
  obtain ⟨t1, t2, N2, P2, c2, t3⟩ := LI_rdr (V2 := V2) (Or.inl rfl) H e1 g1 g2 (by rw [h2]; exact AGo.rfl' _ _)
  exact g_tailI hC 2372 qL_law_2372 dL_law_2375 qL_law_2378 dL_law_2380 qL_law_2385 dL_law_2387 qL_law_2390 dL_law_2392 qL_law_2393 dL_law_2395 dL_law_2396 dL_law_2397 qL_law_2402 t3 ft_in t1 t2 rfl hk hn (fun z' => K N2 P2 c2 V2 z' t3)
theorem lc_moreToSell (hC : gC E RL cL_law 10 p l s m args meth c) (hX : va_X b0 Ls xs s s.heap) (hb0 : b0 < s.heap.size) (hbE : b0 < E.1) (hLs : Ls ≤ 3584) (hi0 : 0 ≤ i) (hi7 : i + 7 ≤ Ls) (H : LI x b o d Sh V N P9 cc) (hk : k + 60 ≤ 601024) (hn : n + 600 ≤ 7293033)
    (K : ∀ (N2 : gN0) (P2 : Int → gN0) (c2 : Int) (V2 : gV) (z2 : Int), LI x b o d Sh V2 N2 P2 c2 → gG E 10 p l e room_1 s m args below meth c Q 2865 [(2, (b0 : Int)), (2, x), (2, b), (2, o), (2, d), (0, i), (9, 0), (9, 0), (9, 0), (9, 0)] [] Sh V2 z2 (k + 60) (n + 600)) : gG E 10 p l e room_1 s m args below meth c Q 2405 [(2, (b0 : Int)), (2, x), (2, b), (2, o), (2, d), (0, i), (9, 0), (9, 0), (9, 0), (9, 0)] [] Sh V z k n := by
  refine gB hC _ _ _ _ _ _ _ qL_law_2405 rfl ?_
  refine g_sld hC hX hb0 hbE dL_law_2411 (by omega) (by omega) hLs ?_
  refine gB hC _ _ _ _ _ _ _ qL_law_2412 rfl ?_
  refine g_sld hC hX hb0 hbE dL_law_2417 (by omega) (by omega) hLs ?_
  refine gB hC _ _ _ _ _ _ _ qL_law_2418 rfl ?_
  refine g_sld hC hX hb0 hbE dL_law_2423 (by omega) (by omega) hLs ?_
  refine gB hC _ _ _ _ _ _ _ qL_law_2424 rfl ?_
  refine g_callSW hC _ dL_law_2425 mL_260 wL_moreToSell (wL_moreToSell_of (o := o) H.sx H.so  ft3 (fun z => kX11_moreToSell H.xr H.inv (sv_in xs (i + 1)) (sv_in xs (i + 2)) (sv_in xs (i + 3)))) rfl rfl (Nat.le_of_ble_eq_true rfl) ⟨⟨Nat.le_of_ble_eq_true rfl, Nat.le_of_ble_eq_true rfl⟩, hk, hn⟩ (fun r0 S1 V1 z1 h => ?_) (fun X S1 V1 z1 h => nomatch h.1)
  obtain ⟨h1, rfl, hw⟩ := h
  cases h1
  refine g_widen (k' := k + 60) (n' := n + 600) (Nat.le_refl _) (Nat.le_refl _) ?_
  obtain ⟨e1, g1, g2⟩ := LI_w H (Or.inl rfl) (fun _ => H.inv) hw
  obtain ⟨m1, m2, m3, m4⟩ := LI_m H e1
  refine gB hC _ _ _ _ _ _ _ qL_law_2428 rfl ?_
  refine g_sld hC hX hb0 hbE dL_law_2436 (by omega) (by omega) hLs ?_
  refine gB hC _ _ _ _ _ _ _ qL_law_2437 rfl ?_
  refine g_sld hC hX hb0 hbE dL_law_2442 (by omega) (by omega) hLs ?_
  refine gB hC _ _ _ _ _ _ _ qL_law_2443 rfl ?_
  refine g_sld hC hX hb0 hbE dL_law_2448 (by omega) (by omega) hLs ?_
  refine g_callV hC _ dL_law_2449 mL_262 vX12_moreToSell (kX12_moreToSell m1 H.inv (sv_in xs (i + 1)) (sv_in xs (i + 2)) (sv_in xs (i + 3))) rfl H.sb (by decide) rfl (Nat.le_of_ble_eq_true rfl) ⟨⟨Nat.le_of_ble_eq_true rfl, Nat.le_of_ble_eq_true rfl⟩, hk, hn⟩ (fun r0 S2 V2 z2 h => ?_) (fun X S2 V2 z2 h => nomatch h.1)
  obtain ⟨h1, rfl, h3, C9, m9, -, h2⟩ := h
  cases h1
  refine g_widen (k' := k + 60) (n' := n + 600) (Nat.le_refl _) (Nat.le_refl _) ?_
  obtain ⟨t1, t2, N2, P2, c2, t3⟩ := LI_rdr (V2 := V2) (Or.inl rfl) H e1 g1 g2 (by rw [h2]; exact AGo.rw' _ _ _ _)
  exact g_tailI hC 2452 qL_law_2452 dL_law_2455 qL_law_2458 dL_law_2460 qL_law_2465 dL_law_2467 qL_law_2470 dL_law_2472 qL_law_2473 dL_law_2475 dL_law_2476 dL_law_2477 qL_law_2482 t3 ft_in t1 t2 rfl hk hn (fun z' => K N2 P2 c2 V2 z' t3)
end LC
