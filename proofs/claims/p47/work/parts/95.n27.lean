/-! the class is made (rows laid by wip/whole/n95.py) -/
theorem iniH_z {j : Int} (h : j ≠ 0) : iniH j = 0 := upN_ne h
theorem szH : szO iniH := by
  have z : ∀ j, j ≠ 0 → iniH j = 0 := fun j h => upN_ne h
  have z1 := z 1 (by decide)
  have z2 := z 2 (by decide)
  have z5 := z 5 (by decide)
  have z7 := z 7 (by decide)
  have z26 := z 26 (by decide)
  exact ⟨by omega, by omega, by omega, by omega, by omega, fun s s0 s1 => by omega⟩
theorem kzH : KZ iniH := by
  intro k _ _
  have z1 : iniH 1 = 0 := iniH_z (by decide)
  exact ⟨iniH_z (by omega), fun w _ _ => iniH_z (by omega)⟩
/-- with the first kind -/
def iniK : gN0 := upN (upN (upN iniH (31 + iniH 1 * 3 + 0) 3) (31 + iniH 1 * 3 + 1) 10000) 1 (iniH 1 + 1)
theorem iniK_e : iniK = upN (upN (upN iniH 31 3) 32 10000) 1 1 := rfl
theorem iniK_z {j : Int} (h0 : j ≠ 0) (h1 : j ≠ 1) (h2 : j ≠ 31) (h3 : j ≠ 32) : iniK j = 0 := by
  rw [iniK_e, upN_ne h1, upN_ne h3, upN_ne h2]; exact iniH_z h0
theorem iniK_1 : iniK 1 = 1 := upN_eq _ _ _
theorem szK : szO iniK := by
  have z1 := iniK_1
  have z2 : iniK 2 = 0 := iniK_z (by decide) (by decide) (by decide) (by decide)
  have z5 : iniK 5 = 0 := iniK_z (by decide) (by decide) (by decide) (by decide)
  have z7 : iniK 7 = 0 := iniK_z (by decide) (by decide) (by decide) (by decide)
  have z26 : iniK 26 = 0 := iniK_z (by decide) (by decide) (by decide) (by decide)
  exact ⟨by omega, by omega, by omega, by omega, by omega, fun s s0 s1 => by omega⟩
theorem kzK : KZ iniK := by
  intro k k0 k1
  have z1 := iniK_1
  exact ⟨iniK_z (by omega) (by omega) (by omega) (by omega), fun w _ _ => iniK_z (by omega) (by omega) (by omega) (by omega)⟩
theorem iniN_K : upN (upN (upN iniK (31 + iniK 1 * 3 + 0) 1) (31 + iniK 1 * 3 + 1) 25000) 1 (iniK 1 + 1) = iniN := by
  rw [iniK_1]
  funext j
  show upN (upN (upN iniK 34 1) 35 25000) 1 2 j = iniN j
  rw [iniK_e]
  unfold iniN iniH
  by_cases h0 : j = 0
  · subst h0; rfl
  by_cases h1 : j = 1
  · subst h1; rfl
  by_cases h2 : j = 31
  · subst h2; rfl
  by_cases h3 : j = 32
  · subst h3; rfl
  by_cases h4 : j = 34
  · subst h4; rfl
  by_cases h5 : j = 35
  · subst h5; rfl
  repeat (first | rw [upN_ne h0] | rw [upN_ne h1] | rw [upN_ne h2] | rw [upN_ne h3] | rw [upN_ne h4] | rw [upN_ne h5])
/-- the class is made -/
def gN11 (x : Int) (Sh : gSh) (V : gV) : gPo := fun o Sh' V' z' => o = .inl none ∧ x + 1141 ≤ z' ∧ (∀ c, c ≤ x → Sh' c = Sh c) ∧ (∀ c, c < x → V' c = V c) ∧ XR x iniN (fun _ => iniH) 0 Sh' V'
theorem XR_0 {x9 : Int} {Sh S9 S20 S31 : gSh} {V V9 V12 V20 V23 V31 V34 : gV} (hs : Sh x9 = some (10, 0))
    (hS9 : ∀ c, (c ≤ x9 + 1 ∨ x9 + 1 + 162 ≤ c) → S9 c = shp Sh (x9 + 1) (1, 0) c) (hV9 : ∀ c, c < x9 + 1 → V9 c = vnew V (x9 + 1) (vdf 1) c) (hG9 : RH (x9 + 1) iniH S9 V9) (e12 : V12 = up V9 x9 0 (x9 + 1))
    (hS20 : ∀ c, (c ≤ x9 + 163 ∨ x9 + 163 + 974 ≤ c) → S20 c = shp S9 (x9 + 163) (0, 0) c) (hV20 : ∀ c, c < x9 + 163 → V20 c = vnew V12 (x9 + 163) (vdf 0) c) (hG20 : S20 (x9 + 163 + 1) = some (103, 6) ∧ (∀ i : Int, 0 ≤ i → i < 6 → shH (x9 + 163 + 2 + 162 * i) S20 ∧ V20 (x9 + 163 + 1) i = x9 + 163 + 2 + 162 * i ∧ ptH (x9 + 163 + 2 + 162 * i) V20) ∧ V20 (x9 + 163) 0 = x9 + 163 + 1 ∧ V20 (x9 + 163) 1 = vnew V12 (x9 + 163) (vdf 0) (x9 + 163) 1 ∧ V20 (x9 + 163) 2 = vnew V12 (x9 + 163) (vdf 0) (x9 + 163) 2) (e23 : V23 = up V20 x9 1 (x9 + 163))
    (hS31 : ∀ c, (c ≤ x9 + 1137 ∨ x9 + 1137 + 4 ≤ c) → S31 c = shp S20 (x9 + 1137) (4, 0) c) (hV31 : ∀ c, c < x9 + 1137 → V31 c = vnew V23 (x9 + 1137) (vdf 4) c) (hG31 : S31 (x9 + 1137 + 1) = some (100, 60) ∧ S31 (x9 + 1137 + 2) = some (100, 60) ∧ S31 (x9 + 1137 + 3) = some (100, 6) ∧ V31 (x9 + 1137) 0 = x9 + 1137 + 1 ∧ V31 (x9 + 1137) 2 = x9 + 1137 + 2 ∧ V31 (x9 + 1137) 4 = x9 + 1137 + 3) (e34 : V34 = up V31 x9 2 (x9 + 1137)) :
    XR x9 iniH (fun _ => iniH) 0 S31 V34 ∧ (∀ c, c ≤ x9 → S31 c = Sh c) ∧ ∀ c, c < x9 → V34 c = V c := by
  have s1 : ∀ c, c < x9 + 1137 → S31 c = S20 c := fun c hc => by rw [hS31 c (by omega), shp_ne _ _ (by omega)]
  have s2 : ∀ c, c < x9 + 163 → S20 c = S9 c := fun c hc => by rw [hS20 c (by omega), shp_ne _ _ (by omega)]
  have v1 : ∀ c, c < x9 + 1137 → c ≠ x9 → V34 c = V20 c := fun c hc hn => by rw [e34, up_row _ _ _ hn, hV31 c hc, vn_ne _ _ (by omega), e23, up_row _ _ _ hn]
  have v2 : ∀ c, c < x9 + 163 → c ≠ x9 → V20 c = V9 c := fun c hc hn => by rw [hV20 c hc, vn_ne _ _ (by omega), e12, up_row _ _ _ hn]
  obtain ⟨g1, g2, g3, g4, g5⟩ := hG20
  obtain ⟨f1, f2, f3, f4, f5, f6⟩ := hG31
  have hm : RH (x9 + 1) iniH S31 V34 := ⟨shH_ag hG9.1 (fun c c0 c1 => (s1 c (by omega)).trans (s2 c (by omega))), (RH_ag hG9 szH (fun _ _ _ => rfl) (fun a a0 a1 => (v1 a (by omega) (by omega)).trans (v2 a (by omega) (by omega)))).2⟩
  refine ⟨⟨⟨?_, hm.1, ⟨?_, ?_, fun i i0 i1 => ?_⟩, ?_, f1, f2, f3⟩, ⟨⟨?_, ?_, ?_⟩, ⟨?_, fun i i0 i1 => ⟨?_, ?_⟩⟩, ?_, ?_, ?_⟩, hm, ⟨?_, Int.le_refl _, by decide, ?_, ?_, fun i i0 i1 => by omega⟩⟩, fun c hc => ?_, fun c hc => ?_⟩
  · rw [s1 _ (by omega), s2 _ (by omega), hS9 _ (by omega), shp_ne _ _ (by omega)]; exact hs
  · rw [s1 _ (by omega), hS20 _ (by omega), shp_eq]
  · rw [s1 _ (by omega)]; exact g1
  · exact shH_ag (g2 i i0 i1).1 (fun c c0 c1 => s1 c (by omega))
  · rw [hS31 _ (by omega), shp_eq]
  · rw [e34, up_ne _ _ (Or.inr (by decide)), hV31 _ (by omega), vn_ne _ _ (by omega), e23, up_ne _ _ (Or.inr (by decide)), hV20 _ (by omega), vn_ne _ _ (by omega), e12, up_eq]
  · rw [e34, up_ne _ _ (Or.inr (by decide)), hV31 _ (by omega), vn_ne _ _ (by omega), e23, up_eq]
  · rw [e34, up_eq]
  · rw [v1 _ (by omega) (by omega)]; exact g3
  · rw [v1 _ (by omega) (by omega)]; exact (g2 i i0 i1).2.1
  · exact ptH_out (g2 i i0 i1).2.2 (fun c c0 c1 => v1 c (by omega) (by omega))
  · rw [e34, up_row _ _ _ (by omega)]; exact f4
  · rw [e34, up_row _ _ _ (by omega)]; exact f5
  · rw [e34, up_row _ _ _ (by omega)]; exact f6
  · rw [v1 _ (by omega) (by omega), g5, vn_eq]; rfl
  · rw [v1 _ (by omega) (by omega), g4, vn_eq]; decide
  · rw [v1 _ (by omega) (by omega), g4, vn_eq]; decide
  · rw [s1 _ (by omega), s2 _ (by omega), hS9 _ (by omega), shp_ne _ _ (by omega)]
  · rw [v1 _ (by omega) (by omega), v2 _ (by omega) (by omega), hV9 _ (by omega), vn_ne _ _ (by omega)]

theorem kX11_init {E l Sh V} {x9 : Int} (hs : Sh x9 = some (10, 0)) (ha : 0 ≤ x9) : gM E l yX11_init (.code yX11_init cX11_init 1 none) (rmk 5 1140 24900 160) [(2, x9)] Sh V (x9 + 1) (gN11 x9 Sh V) := by
  refine gM_at (L0 := [(2, x9)]) rfl rfl rfl ?_
  intro p e s m args below meth c hC hr hex hnm hz
  refine gB hC _ _ _ _ _ _ _ qX11_init_0 rfl ?_
  refine g_objInit hC dX11_init_1 mX11_1 gObjI gObjC (by omega) ⟨by decide, by decide⟩ ?_
  refine gB hC _ _ _ _ _ _ _ qX11_init_4 rfl ?_
  refine g_new (ci := 1) hC dX11_init_5 lX11_7 nX2 zX2 (by decide) ⟨_, rfl, rfl, rfl⟩ ⟨Nat.le_of_ble_eq_true rfl, Nat.le_of_ble_eq_true rfl⟩ (fun hz5 => ?_)
  refine gB hC _ _ _ _ _ _ _ qX11_init_8 rfl ?_
  refine g_callI hC _ dX11_init_9 mX11_9 iX2_init (kX2_init (shp_eq _ _ _) (vdf_1 _ _) (by omega)) rfl (by omega) rfl (Nat.le_of_ble_eq_true rfl) ⟨⟨Nat.le_of_ble_eq_true rfl, Nat.le_of_ble_eq_true rfl⟩, ⟨Nat.le_of_ble_eq_true rfl, Nat.le_of_ble_eq_true rfl⟩⟩ (fun r0 S9 V9 z9 h9 => ?_) (fun X S1 V1 z1 h => nomatch h.1)
  obtain ⟨h0, rfl, hS9, hV9, hG9⟩ := h9
  cases h0
  have hs9 : S9 x9 = some (10, 0) := (hS9 _ (by omega)).trans ((shp_ne _ _ (by omega)).trans hs)
  refine g_putr hC dX11_init_12 fX11_10 hs9 (by decide) rfl (fun _ h => by cases h; exact ⟨rfl, rfl⟩) hnm 0 rfl (fun V12 e12 => ?_)
  refine g_kn (show x9 + 1 + 162 = x9 + 163 by omega) rfl rfl ?_
  refine gB hC _ _ _ _ _ _ _ qX11_init_15 rfl ?_
  refine g_new (ci := 0) hC dX11_init_16 lX11_16 nX1 zX1 (by decide) ⟨_, rfl, rfl, rfl⟩ ⟨Nat.le_of_ble_eq_true rfl, Nat.le_of_ble_eq_true rfl⟩ (fun hz16 => ?_)
  refine gB hC _ _ _ _ _ _ _ qX11_init_19 rfl ?_
  refine g_callI hC _ dX11_init_20 mX11_18 iX1_init (kX1_init (shp_eq _ _ _) (by omega)) rfl (by omega) rfl (Nat.le_of_ble_eq_true rfl) ⟨⟨Nat.le_of_ble_eq_true rfl, Nat.le_of_ble_eq_true rfl⟩, ⟨Nat.le_of_ble_eq_true rfl, Nat.le_of_ble_eq_true rfl⟩⟩ (fun r0 S20 V20 z20 h20 => ?_) (fun X S1 V1 z1 h => nomatch h.1)
  obtain ⟨h0, rfl, hS20, hV20, hG20⟩ := h20
  cases h0
  have hs20 : S20 x9 = some (10, 0) := (hS20 _ (by omega)).trans ((shp_ne _ _ (by omega)).trans hs9)
  refine g_putr hC dX11_init_23 fX11_19 hs20 (by decide) rfl (fun _ h => by cases h; exact ⟨rfl, rfl⟩) hnm 1 rfl (fun V23 e23 => ?_)
  refine g_kn (show x9 + 163 + 974 = x9 + 1137 by omega) rfl rfl ?_
  refine gB hC _ _ _ _ _ _ _ qX11_init_26 rfl ?_
  refine g_new (ci := 4) hC dX11_init_27 lX11_23 nX5 zX5 (by decide) ⟨_, rfl, rfl, rfl⟩ ⟨Nat.le_of_ble_eq_true rfl, Nat.le_of_ble_eq_true rfl⟩ (fun hz27 => ?_)
  refine gB hC _ _ _ _ _ _ _ qX11_init_30 rfl ?_
  refine g_callIN (host := "HotelNights") hC _ dX11_init_31 (by decide) iX5_init (kX5_init (shp_eq _ _ _) (by omega)) rfl (by omega) rfl (Nat.le_of_ble_eq_true rfl) ⟨⟨Nat.le_of_ble_eq_true rfl, Nat.le_of_ble_eq_true rfl⟩, ⟨Nat.le_of_ble_eq_true rfl, Nat.le_of_ble_eq_true rfl⟩⟩ (fun r0 S31 V31 z31 h31 => ?_) (fun X S1 V1 z1 h => nomatch h.1)
  obtain ⟨h0, rfl, hS31, hV31, hG31⟩ := h31
  cases h0
  have hs31 : S31 x9 = some (10, 0) := (hS31 _ (by omega)).trans ((shp_ne _ _ (by omega)).trans hs20)
  refine g_putr hC dX11_init_34 fX11_26 hs31 (by decide) rfl (fun _ h => by cases h; exact ⟨rfl, rfl⟩) hnm 2 rfl (fun V34 e34 => ?_)
  obtain ⟨hx, hb1, hb2⟩ := XR_0 hs hS9 hV9 hG9 e12 hS20 hV20 hG20 e23 hS31 hV31 hG31 e34
  clear hG9 hG20 hG31 hS9 hS20 hS31 hV9 hV20 hV31 e12 e23 e34
  have z1 : iniH 1 = 0 := iniH_z (by decide)
  have z2 := iniK_1
  refine gB hC _ _ _ _ _ _ _ qX11_init_37 rfl ?_
  refine g_getr hC dX11_init_38 fX11_10 hx.sX (by decide) rfl 0 rfl hx.p0 ?_
  refine gB hC _ _ _ _ _ _ _ qX11_init_41 rfl ?_
  refine g_cV1e hC dX11_init_45 mX11_30 vX2_addKindRow (kX2_addKindRow hx.rh szH kzH (by omega) (by omega) (by omega) (by omega)) rfl hx.1.2.1.sH (by decide) rfl (Nat.le_of_ble_eq_true rfl) (RR rfl rfl rfl rfl) (fun z V45 e45 => ?_)
  have hx2 : XR x9 iniK (fun _ => iniH) 0 S31 V45 := XR_H hx e45.1 e45.2
  refine gB hC _ _ _ _ _ _ _ qX11_init_48 rfl ?_
  refine g_getr hC dX11_init_50 fX11_10 hx2.sX (by decide) rfl 0 rfl hx2.p0 ?_
  refine gB hC _ _ _ _ _ _ _ qX11_init_53 rfl ?_
  refine g_cV1e hC dX11_init_57 mX11_30 vX2_addKindRow (kX2_addKindRow hx2.rh szK kzK (by omega) (by omega) (by omega) (by omega)) rfl hx2.1.2.1.sH (by decide) rfl (Nat.le_of_ble_eq_true rfl) (RR rfl rfl rfl rfl) (fun z V57 e57 => ?_)
  have hx3 : XR x9 iniN (fun _ => iniH) 0 S31 V57 := iniN_K ▸ XR_H hx2 e57.1 e57.2
  refine g_lts (fun hlt => ?_)
  have hzl := (hlt _ _ hx3.sL).2
  refine gB hC _ _ _ _ _ _ _ qX11_init_60 rfl ?_
  refine g_return hC dX11_init_61 hr ⟨rfl, by omega, hb1, fun c hc => ?_, hx3⟩ gs_rfl ⟨Nat.le_of_ble_eq_true rfl, Nat.le_of_ble_eq_true rfl⟩
  rw [e57.2 c (by omega), e45.2 c (by omega)]; exact hb2 c hc

