/-! cases of the law (laid by wip/whole/gen9i.py) -/
section LC
variable {E : gE} {p : Program} {l : Launch} {e : Env} {s : State} {m : MethodId} {args : Array Value} {below : List Frame} {meth : Method} {c : Code} {Q : State → Prop} {pc k n : Nat} {Sh : gSh} {V : gV} {z : Int}
variable {b0 Ls : Nat} {xs : Nat → Int32} {x b o d i cc : Int} {N : gN0} {P9 : Int → gN0}
theorem lc_shorter (hC : gC E RL cL_law 10 p l s m args meth c) (hX : va_X b0 Ls xs s s.heap) (hb0 : b0 < s.heap.size) (hbE : b0 < E.1) (hLs : Ls ≤ 3584) (hi0 : 0 ≤ i) (hi7 : i + 7 ≤ Ls) (H : LI x b o d Sh V N P9 cc) (hk : k + 60 ≤ 601024) (hn : n + 600 ≤ 7293033)
    (K : ∀ (N2 : gN0) (P2 : Int → gN0) (c2 : Int) (V2 : gV) (z2 : Int), LI x b o d Sh V2 N2 P2 c2 → gG E 10 p l e room_1 s m args below meth c Q 2865 [(2, (b0 : Int)), (2, x), (2, b), (2, o), (2, d), (0, i), (9, 0), (9, 0), (9, 0), (9, 0)] [] Sh V2 z2 (k + 60) (n + 600)) : gG E 10 p l e room_1 s m args below meth c Q 1190 [(2, (b0 : Int)), (2, x), (2, b), (2, o), (2, d), (0, i), (9, 0), (9, 0), (9, 0), (9, 0)] [] Sh V z k n := by
  refine gB hC _ _ _ _ _ _ _ qL_law_1190 rfl ?_
  refine g_sld hC hX hb0 hbE dL_law_1196 (by omega) (by omega) hLs ?_
  refine gB hC _ _ _ _ _ _ _ qL_law_1197 rfl ?_
  refine g_sld hC hX hb0 hbE dL_law_1202 (by omega) (by omega) hLs ?_
  refine gB hC _ _ _ _ _ _ _ qL_law_1203 rfl ?_
  refine g_callSW hC _ dL_law_1204 mL_185 wL_shorter (wL_shorter_of (o := o) H.sx H.so   (fun z => kX11_shorter H.xr H.inv (sv_in xs (i + 1)) (sv_in xs (i + 2)))) rfl rfl (Nat.le_of_ble_eq_true rfl) ⟨⟨Nat.le_of_ble_eq_true rfl, Nat.le_of_ble_eq_true rfl⟩, hk, hn⟩ (fun r0 S1 V1 z1 h => ?_) (fun X S1 V1 z1 h => nomatch h.1)
  obtain ⟨h1, rfl, hw⟩ := h
  cases h1
  refine g_widen (k' := k + 60) (n' := n + 600) (Nat.le_refl _) (Nat.le_refl _) ?_
  obtain ⟨e1, g1, g2⟩ := LI_w H (Or.inl rfl) (fun hc => (nv_shorter H.inv H.kz hc).1) hw
  obtain ⟨m1, m2, m3, m4⟩ := LI_m H e1
  refine gB hC _ _ _ _ _ _ _ qL_law_1207 rfl ?_
  refine g_sld hC hX hb0 hbE dL_law_1215 (by omega) (by omega) hLs ?_
  refine gB hC _ _ _ _ _ _ _ qL_law_1216 rfl ?_
  refine g_sld hC hX hb0 hbE dL_law_1221 (by omega) (by omega) hLs ?_
  refine g_callV hC _ dL_law_1222 mL_187 vX12_shorter (kX12_shorter m1 H.inv m3 m4 (sv_in xs (i + 1)) (sv_in xs (i + 2))) rfl H.sb (by decide) rfl (Nat.le_of_ble_eq_true rfl) ⟨⟨Nat.le_of_ble_eq_true rfl, Nat.le_of_ble_eq_true rfl⟩, hk, hn⟩ (fun r0 S2 V2 z2 h => ?_) (fun X S2 V2 z2 h => nomatch h.1)
  obtain ⟨h1, rfl, h2, h3⟩ := h
  cases h1
  refine g_widen (k' := k + 60) (n' := n + 600) (Nat.le_refl _) (Nat.le_refl _) ?_
  obtain ⟨t1, t2, N2, P2, c2, t3⟩ := LI_chg (V2 := V2) H e1 g1 g2 (fun hc => nv_shorter H.inv H.kz hc) (by rw [h2]; exact AGo.rfl' _ _)
  exact g_tailI hC 1225 qL_law_1225 dL_law_1228 qL_law_1231 dL_law_1233 qL_law_1238 dL_law_1240 qL_law_1243 dL_law_1245 qL_law_1246 dL_law_1248 dL_law_1249 dL_law_1250 qL_law_1255 t3 ft_in t1 t2 rfl hk hn (fun z' => K N2 P2 c2 V2 z' t3)
theorem lc_passes (hC : gC E RL cL_law 10 p l s m args meth c) (hX : va_X b0 Ls xs s s.heap) (hb0 : b0 < s.heap.size) (hbE : b0 < E.1) (hLs : Ls ≤ 3584) (hi0 : 0 ≤ i) (hi7 : i + 7 ≤ Ls) (H : LI x b o d Sh V N P9 cc) (hk : k + 60 ≤ 601024) (hn : n + 600 ≤ 7293033)
    (K : ∀ (N2 : gN0) (P2 : Int → gN0) (c2 : Int) (V2 : gV) (z2 : Int), LI x b o d Sh V2 N2 P2 c2 → gG E 10 p l e room_1 s m args below meth c Q 2865 [(2, (b0 : Int)), (2, x), (2, b), (2, o), (2, d), (0, i), (9, 0), (9, 0), (9, 0), (9, 0)] [] Sh V2 z2 (k + 60) (n + 600)) : gG E 10 p l e room_1 s m args below meth c Q 1258 [(2, (b0 : Int)), (2, x), (2, b), (2, o), (2, d), (0, i), (9, 0), (9, 0), (9, 0), (9, 0)] [] Sh V z k n := by
  refine gB hC _ _ _ _ _ _ _ qL_law_1258 rfl ?_
  refine g_sld hC hX hb0 hbE dL_law_1264 (by omega) (by omega) hLs ?_
  refine gB hC _ _ _ _ _ _ _ qL_law_1265 rfl ?_
  refine g_callSW hC _ dL_law_1266 mL_188 wL_passes (wL_passes_of (o := o) H.sx H.so  ft2 ft3 (fun z => kX11_passes H.xr H.inv (sv_in xs (i + 1)))) rfl rfl (Nat.le_of_ble_eq_true rfl) ⟨⟨Nat.le_of_ble_eq_true rfl, Nat.le_of_ble_eq_true rfl⟩, hk, hn⟩ (fun r0 S1 V1 z1 h => ?_) (fun X S1 V1 z1 h => nomatch h.1)
  obtain ⟨h1, rfl, hw⟩ := h
  cases h1
  refine g_widen (k' := k + 60) (n' := n + 600) (Nat.le_refl _) (Nat.le_refl _) ?_
  obtain ⟨e1, g1, g2⟩ := LI_w H (Or.inl rfl) (fun hc => (nv_passes H.inv H.kz hc).1) hw
  obtain ⟨m1, m2, m3, m4⟩ := LI_m H e1
  refine gB hC _ _ _ _ _ _ _ qL_law_1269 rfl ?_
  refine g_sld hC hX hb0 hbE dL_law_1277 (by omega) (by omega) hLs ?_
  refine g_callV hC _ dL_law_1278 mL_190 vX12_passes (kX12_passes m1 H.inv m3 m4 (sv_in xs (i + 1))) rfl H.sb (by decide) rfl (Nat.le_of_ble_eq_true rfl) ⟨⟨Nat.le_of_ble_eq_true rfl, Nat.le_of_ble_eq_true rfl⟩, hk, hn⟩ (fun r0 S2 V2 z2 h => ?_) (fun X S2 V2 z2 h => nomatch h.1)
  obtain ⟨h1, rfl, h2, h3⟩ := h
  cases h1
  refine g_widen (k' := k + 60) (n' := n + 600) (Nat.le_refl _) (Nat.le_refl _) ?_
  obtain ⟨t1, t2, N2, P2, c2, t3⟩ := LI_chg (V2 := V2) H e1 g1 g2 (fun hc => nv_passes H.inv H.kz hc) (by rw [h2]; exact AGo.rfl' _ _)
  exact g_tailI hC 1281 qL_law_1281 dL_law_1284 qL_law_1287 dL_law_1289 qL_law_1294 dL_law_1296 qL_law_1299 dL_law_1301 qL_law_1302 dL_law_1304 dL_law_1305 dL_law_1306 qL_law_1311 t3 ft_in t1 t2 rfl hk hn (fun z' => K N2 P2 c2 V2 z' t3)
theorem lc_setOdds (hC : gC E RL cL_law 10 p l s m args meth c) (hX : va_X b0 Ls xs s s.heap) (hb0 : b0 < s.heap.size) (hbE : b0 < E.1) (hLs : Ls ≤ 3584) (hi0 : 0 ≤ i) (hi7 : i + 7 ≤ Ls) (H : LI x b o d Sh V N P9 cc) (hk : k + 60 ≤ 601024) (hn : n + 600 ≤ 7293033)
    (K : ∀ (N2 : gN0) (P2 : Int → gN0) (c2 : Int) (V2 : gV) (z2 : Int), LI x b o d Sh V2 N2 P2 c2 → gG E 10 p l e room_1 s m args below meth c Q 2865 [(2, (b0 : Int)), (2, x), (2, b), (2, o), (2, d), (0, i), (9, 0), (9, 0), (9, 0), (9, 0)] [] Sh V2 z2 (k + 60) (n + 600)) : gG E 10 p l e room_1 s m args below meth c Q 1314 [(2, (b0 : Int)), (2, x), (2, b), (2, o), (2, d), (0, i), (9, 0), (9, 0), (9, 0), (9, 0)] [] Sh V z k n := by
  refine gB hC _ _ _ _ _ _ _ qL_law_1314 rfl ?_
  refine g_sld hC hX hb0 hbE dL_law_1320 (by omega) (by omega) hLs ?_
  refine gB hC _ _ _ _ _ _ _ qL_law_1321 rfl ?_
  refine g_sld hC hX hb0 hbE dL_law_1326 (by omega) (by omega) hLs ?_
  refine gB hC _ _ _ _ _ _ _ qL_law_1327 rfl ?_
  refine g_sld hC hX hb0 hbE dL_law_1332 (by omega) (by omega) hLs ?_
  refine gB hC _ _ _ _ _ _ _ qL_law_1333 rfl ?_
  refine g_callSW hC _ dL_law_1334 mL_191 wL_setOdds (wL_setOdds_of (o := o) H.sx H.so  ft3 (fun z => kX11_setOdds H.xr H.inv (sv_in xs (i + 1)) (sv_in xs (i + 2)) (sv_in xs (i + 3)))) rfl rfl (Nat.le_of_ble_eq_true rfl) ⟨⟨Nat.le_of_ble_eq_true rfl, Nat.le_of_ble_eq_true rfl⟩, hk, hn⟩ (fun r0 S1 V1 z1 h => ?_) (fun X S1 V1 z1 h => nomatch h.1)
  obtain ⟨h1, rfl, hw⟩ := h
  cases h1
  refine g_widen (k' := k + 60) (n' := n + 600) (Nat.le_refl _) (Nat.le_refl _) ?_
  obtain ⟨e1, g1, g2⟩ := LI_w H (Or.inl rfl) (fun hc => (nv_setOdds H.inv H.kz hc).1) hw
  obtain ⟨m1, m2, m3, m4⟩ := LI_m H e1
  refine gB hC _ _ _ _ _ _ _ qL_law_1337 rfl ?_
  refine g_sld hC hX hb0 hbE dL_law_1345 (by omega) (by omega) hLs ?_
  refine gB hC _ _ _ _ _ _ _ qL_law_1346 rfl ?_
  refine g_sld hC hX hb0 hbE dL_law_1351 (by omega) (by omega) hLs ?_
  refine gB hC _ _ _ _ _ _ _ qL_law_1352 rfl ?_
  refine g_sld hC hX hb0 hbE dL_law_1357 (by omega) (by omega) hLs ?_
  refine g_callV hC _ dL_law_1358 mL_194 vX12_setOdds (kX12_setOdds m1 H.inv m3 m4 (sv_in xs (i + 1)) (sv_in xs (i + 2)) (sv_in xs (i + 3))) rfl H.sb (by decide) rfl (Nat.le_of_ble_eq_true rfl) ⟨⟨Nat.le_of_ble_eq_true rfl, Nat.le_of_ble_eq_true rfl⟩, hk, hn⟩ (fun r0 S2 V2 z2 h => ?_) (fun X S2 V2 z2 h => nomatch h.1)
  obtain ⟨h1, rfl, h2, h3⟩ := h
  cases h1
  refine g_widen (k' := k + 60) (n' := n + 600) (Nat.le_refl _) (Nat.le_refl _) ?_
  obtain ⟨t1, t2, N2, P2, c2, t3⟩ := LI_chg (V2 := V2) H e1 g1 g2 (fun hc => nv_setOdds H.inv H.kz hc) (by rw [h2]; exact AGo.rfl' _ _)
  exact g_tailI hC 1361 qL_law_1361 dL_law_1364 qL_law_1367 dL_law_1369 qL_law_1374 dL_law_1376 qL_law_1379 dL_law_1381 qL_law_1382 dL_law_1384 dL_law_1385 dL_law_1386 qL_law_1391 t3 ft_in t1 t2 rfl hk hn (fun z' => K N2 P2 c2 V2 z' t3)
theorem lc_sell (hC : gC E RL cL_law 10 p l s m args meth c) (hX : va_X b0 Ls xs s s.heap) (hb0 : b0 < s.heap.size) (hbE : b0 < E.1) (hLs : Ls ≤ 3584) (hi0 : 0 ≤ i) (hi7 : i + 7 ≤ Ls) (H : LI x b o d Sh V N P9 cc) (hk : k + 60 ≤ 601024) (hn : n + 600 ≤ 7293033)
    (K : ∀ (N2 : gN0) (P2 : Int → gN0) (c2 : Int) (V2 : gV) (z2 : Int), LI x b o d Sh V2 N2 P2 c2 → gG E 10 p l e room_1 s m args below meth c Q 2865 [(2, (b0 : Int)), (2, x), (2, b), (2, o), (2, d), (0, i), (9, 0), (9, 0), (9, 0), (9, 0)] [] Sh V2 z2 (k + 60) (n + 600)) : gG E 10 p l e room_1 s m args below meth c Q 1394 [(2, (b0 : Int)), (2, x), (2, b), (2, o), (2, d), (0, i), (9, 0), (9, 0), (9, 0), (9, 0)] [] Sh V z k n := by
  refine gB hC _ _ _ _ _ _ _ qL_law_1394 rfl ?_
  refine g_sld hC hX hb0 hbE dL_law_1400 (by omega) (by omega) hLs ?_
  refine gB hC _ _ _ _ _ _ _ qL_law_1401 rfl ?_
  refine g_sld hC hX hb0 hbE dL_law_1406 (by omega) (by omega) hLs ?_
  refine gB hC _ _ _ _ _ _ _ qL_law_1407 rfl ?_
  refine g_callSW hC _ dL_law_1408 mL_195 wL_sell (wL_sell_of (o := o) H.sx H.so  ft2 ft3 (fun z => kX11_sell H.xr H.inv (sv_in xs (i + 1)) (sv_in xs (i + 2)))) rfl rfl (Nat.le_of_ble_eq_true rfl) ⟨⟨Nat.le_of_ble_eq_true rfl, Nat.le_of_ble_eq_true rfl⟩, hk, hn⟩ (fun r0 S1 V1 z1 h => ?_) (fun X S1 V1 z1 h => nomatch h.1)
  obtain ⟨h1, rfl, hw⟩ := h
  cases h1
  refine g_widen (k' := k + 60) (n' := n + 600) (Nat.le_refl _) (Nat.le_refl _) ?_
  obtain ⟨e1, g1, g2⟩ := LI_w H (Or.inl rfl) (fun hc => (nv_sell H.inv H.kz hc).1) hw
  obtain ⟨m1, m2, m3, m4⟩ := LI_m H e1
  refine gB hC _ _ _ _ _ _ _ qL_law_1411 rfl ?_
  refine g_sld hC hX hb0 hbE dL_law_1419 (by omega) (by omega) hLs ?_
  refine gB hC _ _ _ _ _ _ _ qL_law_1420 rfl ?_
  refine g_sld hC hX hb0 hbE dL_law_1425 (by omega) (by omega) hLs ?_
  refine g_callV hC _ dL_law_1426 mL_197 vX12_sell (kX12_sell m1 H.inv m3 m4 (sv_in xs (i + 1)) (sv_in xs (i + 2))) rfl H.sb (by decide) rfl (Nat.le_of_ble_eq_true rfl) ⟨⟨Nat.le_of_ble_eq_true rfl, Nat.le_of_ble_eq_true rfl⟩, hk, hn⟩ (fun r0 S2 V2 z2 h => ?_) (fun X S2 V2 z2 h => nomatch h.1)
  obtain ⟨h1, rfl, h2, h3⟩ := h
  cases h1
  refine g_widen (k' := k + 60) (n' := n + 600) (Nat.le_refl _) (Nat.le_refl _) ?_
  obtain ⟨t1, t2, N2, P2, c2, t3⟩ := LI_chg (V2 := V2) H e1 g1 g2 (fun hc => nv_sell H.inv H.kz hc) (by rw [h2]; exact AGo.if2 (AGo.inn _ _ _ _))
  exact g_tailI hC 1429 qL_law_1429 dL_law_1432 qL_law_1435 dL_law_1437 qL_law_1442 dL_law_1444 qL_law_1447 dL_law_1449 qL_law_1450 dL_law_1452 dL_law_1453 dL_law_1454 qL_law_1459 t3 ft_in t1 t2 rfl hk hn (fun z' => K N2 P2 c2 V2 z' t3)
theorem lc_offer (hC : gC E RL cL_law 10 p l s m args meth c) (hX : va_X b0 Ls xs s s.heap) (hb0 : b0 < s.heap.size) (hbE : b0 < E.1) (hLs : Ls ≤ 3584) (hi0 : 0 ≤ i) (hi7 : i + 7 ≤ Ls) (H : LI x b o d Sh V N P9 cc) (hk : k + 60 ≤ 601024) (hn : n + 600 ≤ 7293033)
    (K : ∀ (N2 : gN0) (P2 : Int → gN0) (c2 : Int) (V2 : gV) (z2 : Int), LI x b o d Sh V2 N2 P2 c2 → gG E 10 p l e room_1 s m args below meth c Q 2865 [(2, (b0 : Int)), (2, x), (2, b), (2, o), (2, d), (0, i), (9, 0), (9, 0), (9, 0), (9, 0)] [] Sh V2 z2 (k + 60) (n + 600)) : gG E 10 p l e room_1 s m args below meth c Q 1462 [(2, (b0 : Int)), (2, x), (2, b), (2, o), (2, d), (0, i), (9, 0), (9, 0), (9, 0), (9, 0)] [] Sh V z k n := by
  refine gB hC _ _ _ _ _ _ _ qL_law_1462 rfl ?_
  refine g_sld hC hX hb0 hbE dL_law_1468 (by omega) (by omega) hLs ?_
  refine gB hC _ _ _ _ _ _ _ qL_law_1469 rfl ?_
  refine g_callSW hC _ dL_law_1470 mL_198 wL_offer (wL_offer_of (o := o) H.sx H.so  ft3 (fun z => kX11_offer H.xr H.inv (sv_in xs (i + 1)))) rfl rfl (Nat.le_of_ble_eq_true rfl) ⟨⟨Nat.le_of_ble_eq_true rfl, Nat.le_of_ble_eq_true rfl⟩, hk, hn⟩ (fun r0 S1 V1 z1 h => ?_) (fun X S1 V1 z1 h => nomatch h.1)
  obtain ⟨h1, rfl, hw⟩ := h
  cases h1
  refine g_widen (k' := k + 60) (n' := n + 600) (Nat.le_refl _) (Nat.le_refl _) ?_
  obtain ⟨e1, g1, g2⟩ := LI_w H (Or.inl rfl) (fun hc => (nv_offer H.inv H.kz hc).1) hw
  obtain ⟨m1, m2, m3, m4⟩ := LI_m H e1
  refine gB hC _ _ _ _ _ _ _ qL_law_1473 rfl ?_
  refine g_sld hC hX hb0 hbE dL_law_1481 (by omega) (by omega) hLs ?_
  refine g_callV hC _ dL_law_1482 mL_200 vX12_offer (kX12_offer m1 H.inv m3 m4 (sv_in xs (i + 1))) rfl H.sb (by decide) rfl (Nat.le_of_ble_eq_true rfl) ⟨⟨Nat.le_of_ble_eq_true rfl, Nat.le_of_ble_eq_true rfl⟩, hk, hn⟩ (fun r0 S2 V2 z2 h => ?_) (fun X S2 V2 z2 h => nomatch h.1)
  obtain ⟨h1, rfl, h2, h3⟩ := h
  cases h1
  refine g_widen (k' := k + 60) (n' := n + 600) (Nat.le_refl _) (Nat.le_refl _) ?_
  obtain ⟨t1, t2, N2, P2, c2, t3⟩ := LI_chg (V2 := V2) H e1 g1 g2 (fun hc => nv_offer H.inv H.kz hc) (by rw [h2]; exact AGo.if2 (AGo.wr AGo.if1))
  exact g_tailI hC 1485 qL_law_1485 dL_law_1488 qL_law_1491 dL_law_1493 qL_law_1498 dL_law_1500 qL_law_1503 dL_law_1505 qL_law_1506 dL_law_1508 dL_law_1509 dL_law_1510 qL_law_1515 t3 ft_in t1 t2 rfl hk hn (fun z' => K N2 P2 c2 V2 z' t3)
theorem lc_undo (hC : gC E RL cL_law 10 p l s m args meth c) (hX : va_X b0 Ls xs s s.heap) (hb0 : b0 < s.heap.size) (hbE : b0 < E.1) (hLs : Ls ≤ 3584) (hi0 : 0 ≤ i) (hi7 : i + 7 ≤ Ls) (H : LI x b o d Sh V N P9 cc) (hk : k + 60 ≤ 601024) (hn : n + 600 ≤ 7293033)
    (K : ∀ (N2 : gN0) (P2 : Int → gN0) (c2 : Int) (V2 : gV) (z2 : Int), LI x b o d Sh V2 N2 P2 c2 → gG E 10 p l e room_1 s m args below meth c Q 2865 [(2, (b0 : Int)), (2, x), (2, b), (2, o), (2, d), (0, i), (9, 0), (9, 0), (9, 0), (9, 0)] [] Sh V2 z2 (k + 60) (n + 600)) : gG E 10 p l e room_1 s m args below meth c Q 1518 [(2, (b0 : Int)), (2, x), (2, b), (2, o), (2, d), (0, i), (9, 0), (9, 0), (9, 0), (9, 0)] [] Sh V z k n := by
  refine gB hC _ _ _ _ _ _ _ qL_law_1518 rfl ?_
  refine g_callV hC _ dL_law_1519 mL_201 vX11_undo (kX11_undo H.xr H.inv) rfl H.sx (by decide) rfl (Nat.le_of_ble_eq_true rfl) ⟨⟨Nat.le_of_ble_eq_true rfl, Nat.le_of_ble_eq_true rfl⟩, hk, hn⟩ (fun r0 S1 V1 z1 h => ?_) (fun X S1 V1 z1 h => nomatch h.1)
  obtain ⟨h1, rfl, g1, g2⟩ := h
  cases h1
  refine g_widen (k' := k + 60) (n' := n + 600) (Nat.le_refl _) (Nat.le_refl _) ?_
  have e1 : OUO x o d _ V V1 := OUX.ouo g2
  obtain ⟨m1, m2, m3, m4⟩ := LI_m H e1
  refine gB hC _ _ _ _ _ _ _ qL_law_1522 rfl ?_
  refine g_callV hC _ dL_law_1523 mL_204 vX12_undo (kX12_undo m1 m3 m4) rfl H.sb (by decide) rfl (Nat.le_of_ble_eq_true rfl) ⟨⟨Nat.le_of_ble_eq_true rfl, Nat.le_of_ble_eq_true rfl⟩, hk, hn⟩ (fun r0 S2 V2 z2 h => ?_) (fun X S2 V2 z2 h => nomatch h.1)
  obtain ⟨h1, rfl, h2, h3⟩ := h
  cases h1
  refine g_widen (k' := k + 60) (n' := n + 600) (Nat.le_refl _) (Nat.le_refl _) ?_
  obtain ⟨M, c2, t3⟩ := LI_un H e1 g1 h2
  have hb := m2.1
  refine g_icmp_eq hC 2865 dL_law_1526 rfl (by rw [← hb]; exact h3) h3 (fun _ => K _ _ _ V2 z2 t3) (fun q => absurd (by rw [hb]) q)
theorem lc_today (hC : gC E RL cL_law 10 p l s m args meth c) (hX : va_X b0 Ls xs s s.heap) (hb0 : b0 < s.heap.size) (hbE : b0 < E.1) (hLs : Ls ≤ 3584) (hi0 : 0 ≤ i) (hi7 : i + 7 ≤ Ls) (H : LI x b o d Sh V N P9 cc) (hk : k + 60 ≤ 601024) (hn : n + 600 ≤ 7293033)
    (K : ∀ (N2 : gN0) (P2 : Int → gN0) (c2 : Int) (V2 : gV) (z2 : Int), LI x b o d Sh V2 N2 P2 c2 → gG E 10 p l e room_1 s m args below meth c Q 2865 [(2, (b0 : Int)), (2, x), (2, b), (2, o), (2, d), (0, i), (9, 0), (9, 0), (9, 0), (9, 0)] [] Sh V2 z2 (k + 60) (n + 600)) : gG E 10 p l e room_1 s m args below meth c Q 1531 [(2, (b0 : Int)), (2, x), (2, b), (2, o), (2, d), (0, i), (9, 0), (9, 0), (9, 0), (9, 0)] [] Sh V z k n := by
  refine gB hC _ _ _ _ _ _ _ qL_law_1531 rfl ?_
  refine g_callV hC _ dL_law_1532 mL_205 vX11_today (kX11_today H.xr H.inv) rfl H.sx (by decide) rfl (Nat.le_of_ble_eq_true rfl) ⟨⟨Nat.le_of_ble_eq_true rfl, Nat.le_of_ble_eq_true rfl⟩, hk, hn⟩ (fun r0 S1 V1 z1 h => ?_) (fun X S1 V1 z1 h => nomatch h.1)
  obtain ⟨h1, rfl, g1, g2⟩ := h
  cases h1
  refine g_widen (k' := k + 60) (n' := n + 600) (Nat.le_refl _) (Nat.le_refl _) ?_
  have e1 : OUO x o d _ V V1 := OUX.ouo g2
  obtain ⟨m1, m2, m3, m4⟩ := LI_m H e1
  refine gB hC _ _ _ _ _ _ _ qL_law_1535 rfl ?_
  refine g_callV hC _ dL_law_1536 mL_208 vX12_today (kX12_today m1 H.inv) rfl H.sb (by decide) rfl (Nat.le_of_ble_eq_true rfl) ⟨⟨Nat.le_of_ble_eq_true rfl, Nat.le_of_ble_eq_true rfl⟩, hk, hn⟩ (fun r0 S2 V2 z2 h => ?_) (fun X S2 V2 z2 h => nomatch h.1)
  obtain ⟨h1, rfl, h2, h3⟩ := h
  cases h1
  refine g_widen (k' := k + 60) (n' := n + 600) (Nat.le_refl _) (Nat.le_refl _) ?_
  obtain ⟨-, t3, -⟩ := LI_rd (V2 := V2) H e1 g1 (C := 0) (by rw [h2]; exact AGo.rfl' _ _)
  refine g_icmp_eq hC 2865 dL_law_1539 rfl h3 h3 (fun _ => K _ _ _ V2 z2 t3) (fun q => absurd rfl q)
end LC
