/-! cases of the law (laid by wip/whole/gen9i.py) -/
theorem bk_in {N : gN0} (hI : INV N) {j : Int} (h : 0 ≤ j ∧ j ≤ 3) : inL (N (9 + j)) := by
  have h1 := Phi_in hI.1
  have h2 := hI.2.1
  unfold bOk at h2
  have : j = 0 ∨ j = 1 ∨ j = 2 ∨ j = 3 := by omega
  rcases this with rfl | rfl | rfl | rfl
  · show inL (N 9); omega
  · show inL (N 10); omega
  · show inL (N 11); omega
  · show inL (N 12); omega
theorem aw_in {N : gN0} (hI : INV N) {d r : Int} (h : (0 ≤ d ∧ d ≤ 4) ∧ 0 ≤ r ∧ r ≤ 5) : inL (incZ N d.toNat r.toNat) := by
  have h1 := incZ_in hI.2.2 d.toNat r.toNat (by omega)
  have h2 := mxI_in (d := d.toNat) (by omega)
  omega
theorem mi_in {N : gN0} (hI : INV N) (m : Int) : inL (miT N m (N 5).toNat) := by
  have hs := hI.1.1
  unfold iScal at hs
  have h1 := miT_in hI.1 m (N 5).toNat (by omega)
  omega
theorem sh_n {N : gN0} (hI : INV N) {k : Int} (h : 0 ≤ k ∧ k ≤ N 1 - 1) (d : Int) : vf_n32 (shB (cnt N k d) (kF N k 0)) := by
  have h1 := cnt_in hI.1 k d
  have h2 := hI.1.2.1 k h.1 (by omega)
  unfold kOk at h2
  exact shB_n h1.1 h1.2 (by omega) (by omega)
section LC
variable {E : gE} {p : Program} {l : Launch} {e : Env} {s : State} {m : MethodId} {args : Array Value} {below : List Frame} {meth : Method} {c : Code} {Q : State → Prop} {pc k n : Nat} {Sh : gSh} {V : gV} {z : Int}
variable {b0 Ls : Nat} {xs : Nat → Int32} {x b o d i cc : Int} {N : gN0} {P9 : Int → gN0}
theorem lc_addKind (hC : gC E RL cL_law 10 p l s m args meth c) (hX : va_X b0 Ls xs s s.heap) (hb0 : b0 < s.heap.size) (hbE : b0 < E.1) (hLs : Ls ≤ 3584) (hi0 : 0 ≤ i) (hi7 : i + 7 ≤ Ls) (H : LI x b o d Sh V N P9 cc) (hk : k + 60 ≤ 601024) (hn : n + 600 ≤ 7293033)
    (K : ∀ (N2 : gN0) (P2 : Int → gN0) (c2 : Int) (V2 : gV) (z2 : Int), LI x b o d Sh V2 N2 P2 c2 → gG E 10 p l e room_1 s m args below meth c Q 2865 [(2, (b0 : Int)), (2, x), (2, b), (2, o), (2, d), (0, i), (9, 0), (9, 0), (9, 0), (9, 0)] [] Sh V2 z2 (k + 60) (n + 600)) : gG E 10 p l e room_1 s m args below meth c Q 236 [(2, (b0 : Int)), (2, x), (2, b), (2, o), (2, d), (0, i), (9, 0), (9, 0), (9, 0), (9, 0)] [] Sh V z k n := by
  refine gB hC _ _ _ _ _ _ _ qL_law_236 rfl ?_
  refine g_sld hC hX hb0 hbE dL_law_242 (by omega) (by omega) hLs ?_
  refine gB hC _ _ _ _ _ _ _ qL_law_243 rfl ?_
  refine g_sld hC hX hb0 hbE dL_law_248 (by omega) (by omega) hLs ?_
  refine gB hC _ _ _ _ _ _ _ qL_law_249 rfl ?_
  refine g_callSW hC _ dL_law_250 mL_137 wL_addKind (wL_addKind_of (o := o) H.sx H.so  ft3 (fun z => kX11_addKind H.xr H.inv H.kz (sv_in xs (i + 1)) (sv_in xs (i + 2)))) rfl rfl (Nat.le_of_ble_eq_true rfl) ⟨⟨Nat.le_of_ble_eq_true rfl, Nat.le_of_ble_eq_true rfl⟩, hk, hn⟩ (fun r0 S1 V1 z1 h => ?_) (fun X S1 V1 z1 h => nomatch h.1)
  obtain ⟨h1, rfl, hw⟩ := h
  cases h1
  refine g_widen (k' := k + 60) (n' := n + 600) (Nat.le_refl _) (Nat.le_refl _) ?_
  obtain ⟨e1, g1, g2⟩ := LI_w H (Or.inl rfl) (fun hc => (nv_addKind H.inv H.kz hc).1) hw
  obtain ⟨m1, m2, m3, m4⟩ := LI_m H e1
  refine gB hC _ _ _ _ _ _ _ qL_law_253 rfl ?_
  refine g_sld hC hX hb0 hbE dL_law_261 (by omega) (by omega) hLs ?_
  refine gB hC _ _ _ _ _ _ _ qL_law_262 rfl ?_
  refine g_sld hC hX hb0 hbE dL_law_267 (by omega) (by omega) hLs ?_
  refine g_callV hC _ dL_law_268 mL_142 vX12_addKind (kX12_addKind m1 H.inv m3 m4 (sv_in xs (i + 1)) (sv_in xs (i + 2))) rfl H.sb (by decide) rfl (Nat.le_of_ble_eq_true rfl) ⟨⟨Nat.le_of_ble_eq_true rfl, Nat.le_of_ble_eq_true rfl⟩, hk, hn⟩ (fun r0 S2 V2 z2 h => ?_) (fun X S2 V2 z2 h => nomatch h.1)
  obtain ⟨h1, rfl, h2, h3⟩ := h
  cases h1
  refine g_widen (k' := k + 60) (n' := n + 600) (Nat.le_refl _) (Nat.le_refl _) ?_
  obtain ⟨t1, t2, N2, P2, c2, t3⟩ := LI_chg (V2 := V2) H e1 g1 g2 (fun hc => nv_addKind H.inv H.kz hc) (by rw [h2]; exact AGo.rfl' _ _)
  exact g_tailI hC 271 qL_law_271 dL_law_274 qL_law_277 dL_law_279 qL_law_284 dL_law_286 qL_law_289 dL_law_291 qL_law_292 dL_law_294 dL_law_295 dL_law_296 qL_law_301 t3 ft_in t1 t2 rfl hk hn (fun z' => K N2 P2 c2 V2 z' t3)
theorem lc_closeNight (hC : gC E RL cL_law 10 p l s m args meth c) (hX : va_X b0 Ls xs s s.heap) (hb0 : b0 < s.heap.size) (hbE : b0 < E.1) (hLs : Ls ≤ 3584) (hi0 : 0 ≤ i) (hi7 : i + 7 ≤ Ls) (H : LI x b o d Sh V N P9 cc) (hk : k + 60 ≤ 601024) (hn : n + 600 ≤ 7293033)
    (K : ∀ (N2 : gN0) (P2 : Int → gN0) (c2 : Int) (V2 : gV) (z2 : Int), LI x b o d Sh V2 N2 P2 c2 → gG E 10 p l e room_1 s m args below meth c Q 2865 [(2, (b0 : Int)), (2, x), (2, b), (2, o), (2, d), (0, i), (9, 0), (9, 0), (9, 0), (9, 0)] [] Sh V2 z2 (k + 60) (n + 600)) : gG E 10 p l e room_1 s m args below meth c Q 304 [(2, (b0 : Int)), (2, x), (2, b), (2, o), (2, d), (0, i), (9, 0), (9, 0), (9, 0), (9, 0)] [] Sh V z k n := by
  refine g_rng H.md.1.2.1 (fun hr => ?_)
  have hNi : ∀ j, 0 ≤ j → j < 5022 → inI (N j) := fun j a c => by have := hr j a c; rw [gMd_at H.md j] at this; exact this
  refine gB hC _ _ _ _ _ _ _ qL_law_304 rfl ?_
  refine g_sld hC hX hb0 hbE dL_law_310 (by omega) (by omega) hLs ?_
  refine gB hC _ _ _ _ _ _ _ qL_law_311 rfl ?_
  refine g_sld hC hX hb0 hbE dL_law_316 (by omega) (by omega) hLs ?_
  refine gB hC _ _ _ _ _ _ _ qL_law_317 rfl ?_
  refine g_sld hC hX hb0 hbE dL_law_322 (by omega) (by omega) hLs ?_
  have key : ∀ cl : Int, ((cl = 0 ∧ svI xs (i + 3) = 0) ∨ (cl = 1 ∧ svI xs (i + 3) ≠ 0)) → gG E 10 p l e room_1 s m args below meth c Q 331 [(2, (b0 : Int)), (2, x), (2, b), (2, o), (2, d), (0, i), (9, 0), (9, 0), (9, 0), (9, 0)] [(0, cl), (0, svI xs (i + 2)), (0, svI xs (i + 1)), (2, x)] Sh V z k n := by
    intro cl hcl
    have hc01 : cl = 0 ∨ cl = 1 := by omega
    refine gB hC _ _ _ _ _ _ _ qL_law_331 rfl ?_
    refine g_callSW hC _ dL_law_332 mL_147 wL_closeNight (wL_closeNight_of (o := o) H.sx H.so ft3 (fun z => kX11_closeNight H.xr H.inv hNi (sv_in xs (i + 1)) (sv_in xs (i + 2)) hc01)) rfl rfl (Nat.le_of_ble_eq_true rfl) ⟨⟨Nat.le_of_ble_eq_true rfl, Nat.le_of_ble_eq_true rfl⟩, hk, hn⟩ (fun r0 S1 V1 z1 h => ?_) (fun X S1 V1 z1 h => nomatch h.1)
    obtain ⟨h1, hS, hw⟩ := h
    replace hS := hS.symm
    subst hS
    cases h1
    refine g_widen (k' := k + 60) (n' := n + 600) (Nat.le_refl _) (Nat.le_refl _) ?_
    obtain ⟨e1, g1, g2⟩ := LI_w H (Or.inl rfl) (fun hc => (nv_closeNight H.inv H.kz hc).1) hw
    obtain ⟨m1, m2, m3, m4⟩ := LI_m H e1
    refine gB hC _ _ _ _ _ _ _ qL_law_335 rfl ?_
    refine g_sld hC hX hb0 hbE dL_law_343 (by omega) (by omega) hLs ?_
    refine gB hC _ _ _ _ _ _ _ qL_law_344 rfl ?_
    refine g_sld hC hX hb0 hbE dL_law_349 (by omega) (by omega) hLs ?_
    refine gB hC _ _ _ _ _ _ _ qL_law_350 rfl ?_
    refine g_sld hC hX hb0 hbE dL_law_355 (by omega) (by omega) hLs ?_
    have key2 : gG E 10 p l e room_1 s m args below meth c Q 364 [(2, (b0 : Int)), (2, x), (2, b), (2, o), (2, d), (0, i), (0, fitC (bI (0 ≤ svI xs (i + 1) ∧ svI xs (i + 1) ≤ N 1 - 1)) (bI (dayZ (svI xs (i + 2)) ≠ -1)) 1), (9, 0), (9, 0), (9, 0)] [(0, cl), (0, svI xs (i + 2)), (0, svI xs (i + 1)), (2, b)] Sh V1 z1 (k + 60) (n + 600) := by
      refine g_callV hC _ dL_law_364 mL_150 vX12_closeNight (kX12_closeNight m1 H.inv m3 m4 (sv_in xs (i + 1)) (sv_in xs (i + 2)) hc01) rfl H.sb (by decide) rfl (Nat.le_of_ble_eq_true rfl) ⟨⟨Nat.le_of_ble_eq_true rfl, Nat.le_of_ble_eq_true rfl⟩, hk, hn⟩ (fun r0 S2 V2 z2 h => ?_) (fun X S2 V2 z2 h => nomatch h.1)
      obtain ⟨h1, rfl, h2, h3⟩ := h
      cases h1
      refine g_widen (k' := k + 60) (n' := n + 600) (Nat.le_refl _) (Nat.le_refl _) ?_
      obtain ⟨t1, t2, N2, P2, c2, t3⟩ := LI_chg (V2 := V2) H e1 g1 g2 (fun hc => nv_closeNight H.inv H.kz hc) (by rw [h2]; exact AGo.rfl' _ _)
      exact g_tailI hC 367 qL_law_367 dL_law_370 qL_law_373 dL_law_375 qL_law_380 dL_law_382 qL_law_385 dL_law_387 qL_law_388 dL_law_390 dL_law_391 dL_law_392 qL_law_397 t3 ft_in t1 t2 rfl hk hn (fun z' => K N2 P2 c2 V2 z' t3)
    refine g_if_eq hC 363 dL_law_356 rfl (sv_in _ _) (fun q => ?_) (fun q => ?_)
    · have : cl = 0 := by omega
      subst this
      refine gB hC _ _ _ _ _ _ _ qL_law_363 rfl ?_
      exact key2
    · have : cl = 1 := by omega
      subst this
      refine gB hC _ _ _ _ _ _ _ qL_law_359 rfl ?_
      exact key2
  refine g_if_eq hC 330 dL_law_323 rfl (sv_in _ _) (fun q => ?_) (fun q => ?_)
  · refine gB hC _ _ _ _ _ _ _ qL_law_330 rfl ?_
    exact key 0 (Or.inl ⟨rfl, q⟩)
  · refine gB hC _ _ _ _ _ _ _ qL_law_326 rfl ?_
    exact key 1 (Or.inr ⟨rfl, q⟩)
theorem lc_setExtra (hC : gC E RL cL_law 10 p l s m args meth c) (hX : va_X b0 Ls xs s s.heap) (hb0 : b0 < s.heap.size) (hbE : b0 < E.1) (hLs : Ls ≤ 3584) (hi0 : 0 ≤ i) (hi7 : i + 7 ≤ Ls) (H : LI x b o d Sh V N P9 cc) (hk : k + 60 ≤ 601024) (hn : n + 600 ≤ 7293033)
    (K : ∀ (N2 : gN0) (P2 : Int → gN0) (c2 : Int) (V2 : gV) (z2 : Int), LI x b o d Sh V2 N2 P2 c2 → gG E 10 p l e room_1 s m args below meth c Q 2865 [(2, (b0 : Int)), (2, x), (2, b), (2, o), (2, d), (0, i), (9, 0), (9, 0), (9, 0), (9, 0)] [] Sh V2 z2 (k + 60) (n + 600)) : gG E 10 p l e room_1 s m args below meth c Q 400 [(2, (b0 : Int)), (2, x), (2, b), (2, o), (2, d), (0, i), (9, 0), (9, 0), (9, 0), (9, 0)] [] Sh V z k n := by
  refine gB hC _ _ _ _ _ _ _ qL_law_400 rfl ?_
  refine g_sld hC hX hb0 hbE dL_law_406 (by omega) (by omega) hLs ?_
  refine gB hC _ _ _ _ _ _ _ qL_law_407 rfl ?_
  refine g_sld hC hX hb0 hbE dL_law_412 (by omega) (by omega) hLs ?_
  refine gB hC _ _ _ _ _ _ _ qL_law_413 rfl ?_
  refine g_callSW hC _ dL_law_414 mL_151 wL_setExtra (wL_setExtra_of (o := o) H.sx H.so  ft3 (fun z => kX11_setExtra H.xr H.inv (sv_in xs (i + 1)) (sv_in xs (i + 2)))) rfl rfl (Nat.le_of_ble_eq_true rfl) ⟨⟨Nat.le_of_ble_eq_true rfl, Nat.le_of_ble_eq_true rfl⟩, hk, hn⟩ (fun r0 S1 V1 z1 h => ?_) (fun X S1 V1 z1 h => nomatch h.1)
  obtain ⟨h1, rfl, hw⟩ := h
  cases h1
  refine g_widen (k' := k + 60) (n' := n + 600) (Nat.le_refl _) (Nat.le_refl _) ?_
  obtain ⟨e1, g1, g2⟩ := LI_w H (Or.inl rfl) (fun hc => (nv_setExtra H.inv H.kz hc).1) hw
  obtain ⟨m1, m2, m3, m4⟩ := LI_m H e1
  refine gB hC _ _ _ _ _ _ _ qL_law_417 rfl ?_
  refine g_sld hC hX hb0 hbE dL_law_425 (by omega) (by omega) hLs ?_
  refine gB hC _ _ _ _ _ _ _ qL_law_426 rfl ?_
  refine g_sld hC hX hb0 hbE dL_law_431 (by omega) (by omega) hLs ?_
  refine g_callV hC _ dL_law_432 mL_153 vX12_setExtra (kX12_setExtra m1 H.inv m3 m4 (sv_in xs (i + 1)) (sv_in xs (i + 2))) rfl H.sb (by decide) rfl (Nat.le_of_ble_eq_true rfl) ⟨⟨Nat.le_of_ble_eq_true rfl, Nat.le_of_ble_eq_true rfl⟩, hk, hn⟩ (fun r0 S2 V2 z2 h => ?_) (fun X S2 V2 z2 h => nomatch h.1)
  obtain ⟨h1, rfl, h2, h3⟩ := h
  cases h1
  refine g_widen (k' := k + 60) (n' := n + 600) (Nat.le_refl _) (Nat.le_refl _) ?_
  obtain ⟨t1, t2, N2, P2, c2, t3⟩ := LI_chg (V2 := V2) H e1 g1 g2 (fun hc => nv_setExtra H.inv H.kz hc) (by rw [h2]; exact AGo.rfl' _ _)
  exact g_tailI hC 435 qL_law_435 dL_law_438 qL_law_441 dL_law_443 qL_law_448 dL_law_450 qL_law_453 dL_law_455 qL_law_456 dL_law_458 dL_law_459 dL_law_460 qL_law_465 t3 ft_in t1 t2 rfl hk hn (fun z' => K N2 P2 c2 V2 z' t3)
theorem lc_addSeason (hC : gC E RL cL_law 10 p l s m args meth c) (hX : va_X b0 Ls xs s s.heap) (hb0 : b0 < s.heap.size) (hbE : b0 < E.1) (hLs : Ls ≤ 3584) (hi0 : 0 ≤ i) (hi7 : i + 7 ≤ Ls) (H : LI x b o d Sh V N P9 cc) (hk : k + 60 ≤ 601024) (hn : n + 600 ≤ 7293033)
    (K : ∀ (N2 : gN0) (P2 : Int → gN0) (c2 : Int) (V2 : gV) (z2 : Int), LI x b o d Sh V2 N2 P2 c2 → gG E 10 p l e room_1 s m args below meth c Q 2865 [(2, (b0 : Int)), (2, x), (2, b), (2, o), (2, d), (0, i), (9, 0), (9, 0), (9, 0), (9, 0)] [] Sh V2 z2 (k + 60) (n + 600)) : gG E 10 p l e room_1 s m args below meth c Q 468 [(2, (b0 : Int)), (2, x), (2, b), (2, o), (2, d), (0, i), (9, 0), (9, 0), (9, 0), (9, 0)] [] Sh V z k n := by
  refine gB hC _ _ _ _ _ _ _ qL_law_468 rfl ?_
  refine g_sld hC hX hb0 hbE dL_law_474 (by omega) (by omega) hLs ?_
  refine gB hC _ _ _ _ _ _ _ qL_law_475 rfl ?_
  refine g_sld hC hX hb0 hbE dL_law_480 (by omega) (by omega) hLs ?_
  refine gB hC _ _ _ _ _ _ _ qL_law_481 rfl ?_
  refine g_sld hC hX hb0 hbE dL_law_486 (by omega) (by omega) hLs ?_
  refine gB hC _ _ _ _ _ _ _ qL_law_487 rfl ?_
  refine g_sld hC hX hb0 hbE dL_law_492 (by omega) (by omega) hLs ?_
  refine gB hC _ _ _ _ _ _ _ qL_law_493 rfl ?_
  refine g_callSW hC _ dL_law_494 mL_154 wL_addSeason (wL_addSeason_of (o := o) H.sx H.so  ft3 (fun z => kX11_addSeason H.xr H.inv (sv_in xs (i + 1)) (sv_in xs (i + 2)) (sv_in xs (i + 3)) (sv_in xs (i + 4)))) rfl rfl (Nat.le_of_ble_eq_true rfl) ⟨⟨Nat.le_of_ble_eq_true rfl, Nat.le_of_ble_eq_true rfl⟩, hk, hn⟩ (fun r0 S1 V1 z1 h => ?_) (fun X S1 V1 z1 h => nomatch h.1)
  obtain ⟨h1, rfl, hw⟩ := h
  cases h1
  refine g_widen (k' := k + 60) (n' := n + 600) (Nat.le_refl _) (Nat.le_refl _) ?_
  obtain ⟨e1, g1, g2⟩ := LI_w H (Or.inl rfl) (fun hc => (nv_addSeason H.inv H.kz hc).1) hw
  obtain ⟨m1, m2, m3, m4⟩ := LI_m H e1
  refine gB hC _ _ _ _ _ _ _ qL_law_497 rfl ?_
  refine g_sld hC hX hb0 hbE dL_law_505 (by omega) (by omega) hLs ?_
  refine gB hC _ _ _ _ _ _ _ qL_law_506 rfl ?_
  refine g_sld hC hX hb0 hbE dL_law_511 (by omega) (by omega) hLs ?_
  refine gB hC _ _ _ _ _ _ _ qL_law_512 rfl ?_
  refine g_sld hC hX hb0 hbE dL_law_517 (by omega) (by omega) hLs ?_
  refine gB hC _ _ _ _ _ _ _ qL_law_518 rfl ?_
  refine g_sld hC hX hb0 hbE dL_law_523 (by omega) (by omega) hLs ?_
  refine g_callV hC _ dL_law_524 mL_157 vX12_addSeason (kX12_addSeason m1 H.inv m3 m4 (sv_in xs (i + 1)) (sv_in xs (i + 2)) (sv_in xs (i + 3)) (sv_in xs (i + 4))) rfl H.sb (by decide) rfl (Nat.le_of_ble_eq_true rfl) ⟨⟨Nat.le_of_ble_eq_true rfl, Nat.le_of_ble_eq_true rfl⟩, hk, hn⟩ (fun r0 S2 V2 z2 h => ?_) (fun X S2 V2 z2 h => nomatch h.1)
  obtain ⟨h1, rfl, h2, h3⟩ := h
  cases h1
  refine g_widen (k' := k + 60) (n' := n + 600) (Nat.le_refl _) (Nat.le_refl _) ?_
  obtain ⟨t1, t2, N2, P2, c2, t3⟩ := LI_chg (V2 := V2) H e1 g1 g2 (fun hc => nv_addSeason H.inv H.kz hc) (by rw [h2]; exact AGo.rfl' _ _)
  exact g_tailI hC 527 qL_law_527 dL_law_530 qL_law_533 dL_law_535 qL_law_540 dL_law_542 qL_law_545 dL_law_547 qL_law_548 dL_law_550 dL_law_551 dL_law_552 qL_law_557 t3 ft_in t1 t2 rfl hk hn (fun z' => K N2 P2 c2 V2 z' t3)
theorem lc_setWeekend (hC : gC E RL cL_law 10 p l s m args meth c) (hX : va_X b0 Ls xs s s.heap) (hb0 : b0 < s.heap.size) (hbE : b0 < E.1) (hLs : Ls ≤ 3584) (hi0 : 0 ≤ i) (hi7 : i + 7 ≤ Ls) (H : LI x b o d Sh V N P9 cc) (hk : k + 60 ≤ 601024) (hn : n + 600 ≤ 7293033)
    (K : ∀ (N2 : gN0) (P2 : Int → gN0) (c2 : Int) (V2 : gV) (z2 : Int), LI x b o d Sh V2 N2 P2 c2 → gG E 10 p l e room_1 s m args below meth c Q 2865 [(2, (b0 : Int)), (2, x), (2, b), (2, o), (2, d), (0, i), (9, 0), (9, 0), (9, 0), (9, 0)] [] Sh V2 z2 (k + 60) (n + 600)) : gG E 10 p l e room_1 s m args below meth c Q 560 [(2, (b0 : Int)), (2, x), (2, b), (2, o), (2, d), (0, i), (9, 0), (9, 0), (9, 0), (9, 0)] [] Sh V z k n := by
  refine gB hC _ _ _ _ _ _ _ qL_law_560 rfl ?_
  refine g_sld hC hX hb0 hbE dL_law_566 (by omega) (by omega) hLs ?_
  refine gB hC _ _ _ _ _ _ _ qL_law_567 rfl ?_
  refine g_sld hC hX hb0 hbE dL_law_572 (by omega) (by omega) hLs ?_
  refine gB hC _ _ _ _ _ _ _ qL_law_573 rfl ?_
  refine g_callSW hC _ dL_law_574 mL_158 wL_setWeekend (wL_setWeekend_of (o := o) H.sx H.so  ft2 ft3 (fun z => kX11_setWeekend H.xr H.inv (sv_in xs (i + 1)) (sv_in xs (i + 2)))) rfl rfl (Nat.le_of_ble_eq_true rfl) ⟨⟨Nat.le_of_ble_eq_true rfl, Nat.le_of_ble_eq_true rfl⟩, hk, hn⟩ (fun r0 S1 V1 z1 h => ?_) (fun X S1 V1 z1 h => nomatch h.1)
  obtain ⟨h1, rfl, hw⟩ := h
  cases h1
  refine g_widen (k' := k + 60) (n' := n + 600) (Nat.le_refl _) (Nat.le_refl _) ?_
  obtain ⟨e1, g1, g2⟩ := LI_w H (Or.inl rfl) (fun hc => (nv_setWeekend H.inv H.kz hc).1) hw
  obtain ⟨m1, m2, m3, m4⟩ := LI_m H e1
  refine gB hC _ _ _ _ _ _ _ qL_law_577 rfl ?_
  refine g_sld hC hX hb0 hbE dL_law_585 (by omega) (by omega) hLs ?_
  refine gB hC _ _ _ _ _ _ _ qL_law_586 rfl ?_
  refine g_sld hC hX hb0 hbE dL_law_591 (by omega) (by omega) hLs ?_
  refine g_callV hC _ dL_law_592 mL_160 vX12_setWeekend (kX12_setWeekend m1 H.inv m3 m4 (sv_in xs (i + 1)) (sv_in xs (i + 2))) rfl H.sb (by decide) rfl (Nat.le_of_ble_eq_true rfl) ⟨⟨Nat.le_of_ble_eq_true rfl, Nat.le_of_ble_eq_true rfl⟩, hk, hn⟩ (fun r0 S2 V2 z2 h => ?_) (fun X S2 V2 z2 h => nomatch h.1)
  obtain ⟨h1, rfl, h2, h3⟩ := h
  cases h1
  refine g_widen (k' := k + 60) (n' := n + 600) (Nat.le_refl _) (Nat.le_refl _) ?_
  obtain ⟨t1, t2, N2, P2, c2, t3⟩ := LI_chg (V2 := V2) H e1 g1 g2 (fun hc => nv_setWeekend H.inv H.kz hc) (by rw [h2]; exact AGo.rfl' _ _)
  exact g_tailI hC 595 qL_law_595 dL_law_598 qL_law_601 dL_law_603 qL_law_608 dL_law_610 qL_law_613 dL_law_615 qL_law_616 dL_law_618 dL_law_619 dL_law_620 qL_law_625 t3 ft_in t1 t2 rfl hk hn (fun z' => K N2 P2 c2 V2 z' t3)
theorem lc_ask (hC : gC E RL cL_law 10 p l s m args meth c) (hX : va_X b0 Ls xs s s.heap) (hb0 : b0 < s.heap.size) (hbE : b0 < E.1) (hLs : Ls ≤ 3584) (hi0 : 0 ≤ i) (hi7 : i + 7 ≤ Ls) (H : LI x b o d Sh V N P9 cc) (hk : k + 60 ≤ 601024) (hn : n + 600 ≤ 7293033)
    (K : ∀ (N2 : gN0) (P2 : Int → gN0) (c2 : Int) (V2 : gV) (z2 : Int), LI x b o d Sh V2 N2 P2 c2 → gG E 10 p l e room_1 s m args below meth c Q 2865 [(2, (b0 : Int)), (2, x), (2, b), (2, o), (2, d), (0, i), (9, 0), (9, 0), (9, 0), (9, 0)] [] Sh V2 z2 (k + 60) (n + 600)) : gG E 10 p l e room_1 s m args below meth c Q 628 [(2, (b0 : Int)), (2, x), (2, b), (2, o), (2, d), (0, i), (9, 0), (9, 0), (9, 0), (9, 0)] [] Sh V z k n := by
  refine gB hC _ _ _ _ _ _ _ qL_law_628 rfl ?_
  refine g_sld hC hX hb0 hbE dL_law_634 (by omega) (by omega) hLs ?_
  refine gB hC _ _ _ _ _ _ _ qL_law_635 rfl ?_
  refine g_sld hC hX hb0 hbE dL_law_640 (by omega) (by omega) hLs ?_
  refine gB hC _ _ _ _ _ _ _ qL_law_641 rfl ?_
  refine g_sld hC hX hb0 hbE dL_law_646 (by omega) (by omega) hLs ?_
  refine gB hC _ _ _ _ _ _ _ qL_law_647 rfl ?_
  refine g_sld hC hX hb0 hbE dL_law_652 (by omega) (by omega) hLs ?_
  refine gB hC _ _ _ _ _ _ _ qL_law_653 rfl ?_
  refine g_sld hC hX hb0 hbE dL_law_658 (by omega) (by omega) hLs ?_
  refine gB hC _ _ _ _ _ _ _ qL_law_659 rfl ?_
  refine g_sld hC hX hb0 hbE dL_law_665 (by omega) (by omega) hLs ?_
  refine gB hC _ _ _ _ _ _ _ qL_law_666 rfl ?_
  refine g_callSW hC _ dL_law_667 mL_161 wL_ask (wL_ask_of (o := o) H.sx H.so   (fun z => kX11_ask H.xr H.inv (sv_in xs (i + 1)) (sv_in xs (i + 2)) (sv_in xs (i + 3)) (sv_in xs (i + 4)) (sv_in xs (i + 5)) (sv_in xs (i + 6)))) rfl rfl (Nat.le_of_ble_eq_true rfl) ⟨⟨Nat.le_of_ble_eq_true rfl, Nat.le_of_ble_eq_true rfl⟩, hk, hn⟩ (fun r0 S1 V1 z1 h => ?_) (fun X S1 V1 z1 h => nomatch h.1)
  obtain ⟨h1, rfl, hw⟩ := h
  cases h1
  refine g_widen (k' := k + 60) (n' := n + 600) (Nat.le_refl _) (Nat.le_refl _) ?_
  obtain ⟨e1, g1, g2⟩ := LI_w H (Or.inl rfl) (fun hc => (nv_ask H.inv H.kz hc).1) hw
  obtain ⟨m1, m2, m3, m4⟩ := LI_m H e1
  refine gB hC _ _ _ _ _ _ _ qL_law_670 rfl ?_
  refine g_sld hC hX hb0 hbE dL_law_678 (by omega) (by omega) hLs ?_
  refine gB hC _ _ _ _ _ _ _ qL_law_679 rfl ?_
  refine g_sld hC hX hb0 hbE dL_law_684 (by omega) (by omega) hLs ?_
  refine gB hC _ _ _ _ _ _ _ qL_law_685 rfl ?_
  refine g_sld hC hX hb0 hbE dL_law_690 (by omega) (by omega) hLs ?_
  refine gB hC _ _ _ _ _ _ _ qL_law_691 rfl ?_
  refine g_sld hC hX hb0 hbE dL_law_696 (by omega) (by omega) hLs ?_
  refine gB hC _ _ _ _ _ _ _ qL_law_697 rfl ?_
  refine g_sld hC hX hb0 hbE dL_law_702 (by omega) (by omega) hLs ?_
  refine gB hC _ _ _ _ _ _ _ qL_law_703 rfl ?_
  refine g_sld hC hX hb0 hbE dL_law_709 (by omega) (by omega) hLs ?_
  refine g_callV hC _ dL_law_710 mL_164 vX12_ask (kX12_ask m1 H.inv m3 m4 (sv_in xs (i + 1)) (sv_in xs (i + 2)) (sv_in xs (i + 3)) (sv_in xs (i + 4)) (sv_in xs (i + 5)) (sv_in xs (i + 6))) rfl H.sb (by decide) rfl (Nat.le_of_ble_eq_true rfl) ⟨⟨Nat.le_of_ble_eq_true rfl, Nat.le_of_ble_eq_true rfl⟩, hk, hn⟩ (fun r0 S2 V2 z2 h => ?_) (fun X S2 V2 z2 h => nomatch h.1)
  obtain ⟨h1, rfl, h2, h3⟩ := h
  cases h1
  refine g_widen (k' := k + 60) (n' := n + 600) (Nat.le_refl _) (Nat.le_refl _) ?_
  obtain ⟨t1, t2, N2, P2, c2, t3⟩ := LI_chg (V2 := V2) H e1 g1 g2 (fun hc => nv_ask H.inv H.kz hc) (by rw [h2]; exact AGo.rfl' _ _)
  exact g_tailI hC 713 qL_law_713 dL_law_716 qL_law_719 dL_law_721 qL_law_726 dL_law_728 qL_law_731 dL_law_733 qL_law_734 dL_law_736 dL_law_737 dL_law_738 qL_law_743 t3 ft_in t1 t2 rfl hk hn (fun z' => K N2 P2 c2 V2 z' t3)
end LC
