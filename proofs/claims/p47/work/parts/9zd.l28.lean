/-! the law's object made (rows laid by wip/p47/l28.py) -/
def gIni (q : Int) : gPo := fun o Sh' V' _ => o = .inl none ∧ ∃ w, XR (q + 2) iniN (fun _ => iniH) 0 Sh' V' ∧ LB q w iniN Sh' (dF w V') ∧ V' q 20 = 0

theorem kL_init {E l Sh V z} {q : Int} (hz9 : z = q + 2) (hq0 : 0 ≤ q) (hs1 : Sh q = some (12, 0)) (hs2 : Sh (q + 1) = some (11, 0)) (hv : V q 4 = 0 ∧ V q 9 = 0 ∧ V q 10 = 0 ∧ V q 14 = 0 ∧ V q 17 = 0 ∧ V q 18 = 0 ∧ V q 20 = 0 ∧ V q 22 = 0) : gM E l yL_init (.code yL_init cL_init 2 none) (rmk 8 1400 28000 220) [(2, q), (2, q + 1)] Sh V z (gIni q) := by
  refine gM_at (L0 := [(2, q), (2, q + 1)]) rfl rfl rfl ?_
  intro p e s m args below meth c hC hr hex hnm hz
  obtain ⟨hv4, hv9, hv10, hv14, hv17, hv18, hv20, hv22⟩ := hv
  refine gB hC _ _ _ _ _ _ _ qL_init_0 rfl ?_
  refine g_objInit hC dL_init_1 mL_1 gObjI gObjC (by omega) ⟨by decide, by decide⟩ ?_
  refine gB hC _ _ _ _ _ _ _ qL_init_4 rfl ?_
  refine g_new (ci := 10) hC dL_init_5 lL_7 nX11 zX11 (by decide) ⟨_, rfl, rfl, rfl⟩ ⟨Nat.le_of_ble_eq_true rfl, Nat.le_of_ble_eq_true rfl⟩ (fun hz5 => ?_)
  subst hz9
  have sL5 : (shp Sh (q + 2) (10, 0)) q = some (12, 0) := (shp_ne _ _ (by omega)).trans hs1
  refine gB hC _ _ _ _ _ _ _ qL_init_8 rfl ?_
  refine g_callI hC _ dL_init_9 mL_9 iX11_init (kX11_init (shp_eq _ _ _) (by omega)) rfl (by omega) rfl (Nat.le_of_ble_eq_true rfl) ⟨⟨Nat.le_of_ble_eq_true rfl, Nat.le_of_ble_eq_true rfl⟩, Nat.le_of_ble_eq_true rfl, Nat.le_of_ble_eq_true rfl⟩ (fun r0 S1 V1 w h => ?_) (fun X S1 V1 w h => nomatch h.1)
  obtain ⟨h1, hw, hS1, hV1, hxr⟩ := h
  cases h1
  have sL1 : S1 q = some (12, 0) := (hS1 q (by omega)).trans sL5
  have hqv : V1 q = V q := (hV1 q (by omega)).trans (vn_ne _ _ (by omega))
  refine g_putr hC dL_init_12 fL_10 sL1 (by decide) rfl (fun _ h => by cases h; exact ⟨rfl, rfl⟩) hnm 0 rfl (fun V12 e12 => ?_)
  have hq12 : V12 q = (upN (V q) 0 (q + 2)) := by rw [e12, up_self, hqv]
  refine gB hC _ _ _ _ _ _ _ qL_init_15 rfl ?_
  refine g_new_ints hC dL_init_18 gArr_int rfl (by decide) ⟨by decide, by decide⟩ (fun hz18 => ?_)
  have sL18 : (shp S1 w (100, 100)) q = some (12, 0) := (shp_ne _ _ (by omega)).trans sL1
  refine g_putr hC dL_init_20 fL_16 sL18 (by decide) rfl (fun _ h => by cases h; exact ⟨rfl, rfl⟩) hnm 2 rfl (fun V20 e20 => ?_)
  have hq20 : V20 q = (upN (upN (V q) 0 (q + 2)) 2 w) := by rw [e20, up_self, vn_ne _ _ (by omega), hq12]
  refine gB hC _ _ _ _ _ _ _ qL_init_23 rfl ?_
  refine g_new_ints hC dL_init_26 gArr_int rfl (by decide) ⟨by decide, by decide⟩ (fun hz26 => ?_)
  rw [show w + 1 + 1 = w + 2 by omega]
  have sL26 : (shp (shp S1 w (100, 100)) (w + 1) (100, 100)) q = some (12, 0) := (shp_ne _ _ (by omega)).trans sL18
  refine g_putr hC dL_init_28 fL_20 sL26 (by decide) rfl (fun _ h => by cases h; exact ⟨rfl, rfl⟩) hnm 3 rfl (fun V28 e28 => ?_)
  have hq28 : V28 q = (upN (upN (upN (V q) 0 (q + 2)) 2 w) 3 (w + 1)) := by rw [e28, up_self, vn_ne _ _ (by omega), hq20]
  refine gB hC _ _ _ _ _ _ _ qL_init_31 rfl ?_
  refine g_new_ints hC dL_init_33 gArr_int rfl (by decide) ⟨by decide, by decide⟩ (fun hz33 => ?_)
  rw [show w + 2 + 1 = w + 3 by omega]
  have sL33 : (shp (shp (shp S1 w (100, 100)) (w + 1) (100, 100)) (w + 2) (100, 2)) q = some (12, 0) := (shp_ne _ _ (by omega)).trans sL26
  refine gB hC _ _ _ _ _ _ _ qL_init_35 rfl ?_
  refine g_ast hC dL_init_38 (shp_eq _ _ _) (by decide) (by decide) (by decide) (by first | omega | exact cmpZ_in _ _ | exact bI_in _) (fun V38 e38 => ?_)
  refine gB hC _ _ _ _ _ _ _ qL_init_39 rfl ?_
  refine g_ast hC dL_init_42 (shp_eq _ _ _) (by decide) (by decide) (by decide) (by first | omega | exact cmpZ_in _ _ | exact bI_in _) (fun V42 e42 => ?_)
  refine g_putr hC dL_init_43 fL_23 sL33 (by decide) rfl (fun _ h => by cases h; exact ⟨rfl, rfl⟩) hnm 5 rfl (fun V43 e43 => ?_)
  have hq43 : V43 q = (upN (upN (upN (upN (V q) 0 (q + 2)) 2 w) 3 (w + 1)) 5 (w + 2)) := by rw [e43, up_self, e42, up_row _ _ _ (by omega), e38, up_row _ _ _ (by omega), vn_ne _ _ (by omega), hq28]
  refine gB hC _ _ _ _ _ _ _ qL_init_46 rfl ?_
  refine g_new_ints hC dL_init_48 gArr_int rfl (by decide) ⟨by decide, by decide⟩ (fun hz48 => ?_)
  rw [show w + 3 + 1 = w + 4 by omega]
  have sL48 : (shp (shp (shp (shp S1 w (100, 100)) (w + 1) (100, 100)) (w + 2) (100, 2)) (w + 3) (100, 2)) q = some (12, 0) := (shp_ne _ _ (by omega)).trans sL33
  refine gB hC _ _ _ _ _ _ _ qL_init_50 rfl ?_
  refine g_ast hC dL_init_55 (shp_eq _ _ _) (by decide) (by decide) (by decide) (by first | omega | exact cmpZ_in _ _ | exact bI_in _) (fun V55 e55 => ?_)
  refine gB hC _ _ _ _ _ _ _ qL_init_56 rfl ?_
  refine g_ast hC dL_init_61 (shp_eq _ _ _) (by decide) (by decide) (by decide) (by first | omega | exact cmpZ_in _ _ | exact bI_in _) (fun V61 e61 => ?_)
  refine g_putr hC dL_init_62 fL_26 sL48 (by decide) rfl (fun _ h => by cases h; exact ⟨rfl, rfl⟩) hnm 6 rfl (fun V62 e62 => ?_)
  have hq62 : V62 q = (upN (upN (upN (upN (upN (V q) 0 (q + 2)) 2 w) 3 (w + 1)) 5 (w + 2)) 6 (w + 3)) := by rw [e62, up_self, e61, up_row _ _ _ (by omega), e55, up_row _ _ _ (by omega), vn_ne _ _ (by omega), hq43]
  refine gB hC _ _ _ _ _ _ _ qL_init_65 rfl ?_
  refine g_new_ints hC dL_init_67 gArr_int rfl (by decide) ⟨by decide, by decide⟩ (fun hz67 => ?_)
  rw [show w + 4 + 1 = w + 5 by omega]
  have sL67 : (shp (shp (shp (shp (shp S1 w (100, 100)) (w + 1) (100, 100)) (w + 2) (100, 2)) (w + 3) (100, 2)) (w + 4) (100, 2)) q = some (12, 0) := (shp_ne _ _ (by omega)).trans sL48
  refine g_putr hC dL_init_69 fL_29 sL67 (by decide) rfl (fun _ h => by cases h; exact ⟨rfl, rfl⟩) hnm 7 rfl (fun V69 e69 => ?_)
  have hq69 : V69 q = (upN (upN (upN (upN (upN (upN (V q) 0 (q + 2)) 2 w) 3 (w + 1)) 5 (w + 2)) 6 (w + 3)) 7 (w + 4)) := by rw [e69, up_self, vn_ne _ _ (by omega), hq62]
  refine gB hC _ _ _ _ _ _ _ qL_init_72 rfl ?_
  refine g_mna (ji := 2) (jo := 9) (N := 2) (K := 100) hC (by decide) dL_init_76 lL_32 rfl rfl (by decide) (by decide) ⟨Nat.le_of_ble_eq_true rfl, Nat.le_of_ble_eq_true rfl⟩ ?_
  rw [show w + 5 + 1 + ((2 : Nat) : Int) = w + 8 by omega]
  have sL76 : (shM (shp (shp (shp (shp (shp S1 w (100, 100)) (w + 1) (100, 100)) (w + 2) (100, 2)) (w + 3) (100, 2)) (w + 4) (100, 2)) (w + 5) 109 102 2 100) q = some (12, 0) := (shM_ne (by omega)).trans sL67
  refine g_putr hC dL_init_80 fL_34 sL76 (by decide) rfl (fun _ h => by cases h; exact ⟨rfl, rfl⟩) hnm 8 rfl (fun V80 e80 => ?_)
  have hq80 : V80 q = (upN (upN (upN (upN (upN (upN (upN (V q) 0 (q + 2)) 2 w) 3 (w + 1)) 5 (w + 2)) 6 (w + 3)) 7 (w + 4)) 8 (w + 5)) := by rw [e80, up_self, vnM_ne (by omega), hq69]
  refine gB hC _ _ _ _ _ _ _ qL_init_83 rfl ?_
  refine g_mna (ji := 0) (jo := 8) (N := 60) (K := 10) hC (by decide) dL_init_88 lL_37 rfl rfl (by decide) (by decide) ⟨Nat.le_of_ble_eq_true rfl, Nat.le_of_ble_eq_true rfl⟩ ?_
  rw [show w + 8 + 1 + ((60 : Nat) : Int) = w + 69 by omega]
  have sL88 : (shM (shM (shp (shp (shp (shp (shp S1 w (100, 100)) (w + 1) (100, 100)) (w + 2) (100, 2)) (w + 3) (100, 2)) (w + 4) (100, 2)) (w + 5) 109 102 2 100) (w + 8) 108 100 60 10) q = some (12, 0) := (shM_ne (by omega)).trans sL76
  refine g_putr hC dL_init_92 fL_39 sL88 (by decide) rfl (fun _ h => by cases h; exact ⟨rfl, rfl⟩) hnm 15 rfl (fun V92 e92 => ?_)
  have hq92 : V92 q = (upN (upN (upN (upN (upN (upN (upN (upN (V q) 0 (q + 2)) 2 w) 3 (w + 1)) 5 (w + 2)) 6 (w + 3)) 7 (w + 4)) 8 (w + 5)) 15 (w + 8)) := by rw [e92, up_self, vnM_ne (by omega), hq80]
  refine gB hC _ _ _ _ _ _ _ qL_init_95 rfl ?_
  refine g_mna (ji := 0) (jo := 8) (N := 60) (K := 14) hC (by decide) dL_init_100 lL_37 rfl rfl (by decide) (by decide) ⟨Nat.le_of_ble_eq_true rfl, Nat.le_of_ble_eq_true rfl⟩ ?_
  rw [show w + 69 + 1 + ((60 : Nat) : Int) = w + 130 by omega]
  have sL100 : (shM (shM (shM (shp (shp (shp (shp (shp S1 w (100, 100)) (w + 1) (100, 100)) (w + 2) (100, 2)) (w + 3) (100, 2)) (w + 4) (100, 2)) (w + 5) 109 102 2 100) (w + 8) 108 100 60 10) (w + 69) 108 100 60 14) q = some (12, 0) := (shM_ne (by omega)).trans sL88
  refine g_putr hC dL_init_104 fL_42 sL100 (by decide) rfl (fun _ h => by cases h; exact ⟨rfl, rfl⟩) hnm 16 rfl (fun V104 e104 => ?_)
  have hq104 : V104 q = (upN (upN (upN (upN (upN (upN (upN (upN (upN (V q) 0 (q + 2)) 2 w) 3 (w + 1)) 5 (w + 2)) 6 (w + 3)) 7 (w + 4)) 8 (w + 5)) 15 (w + 8)) 16 (w + 69)) := by rw [e104, up_self, vnM_ne (by omega), hq92]
  refine gB hC _ _ _ _ _ _ _ qL_init_107 rfl ?_
  refine g_mna (ji := 0) (jo := 8) (N := 20) (K := 5) hC (by decide) dL_init_111 lL_37 rfl rfl (by decide) (by decide) ⟨Nat.le_of_ble_eq_true rfl, Nat.le_of_ble_eq_true rfl⟩ ?_
  rw [show w + 130 + 1 + ((20 : Nat) : Int) = w + 151 by omega]
  have sL111 : (shM (shM (shM (shM (shp (shp (shp (shp (shp S1 w (100, 100)) (w + 1) (100, 100)) (w + 2) (100, 2)) (w + 3) (100, 2)) (w + 4) (100, 2)) (w + 5) 109 102 2 100) (w + 8) 108 100 60 10) (w + 69) 108 100 60 14) (w + 130) 108 100 20 5) q = some (12, 0) := (shM_ne (by omega)).trans sL100
  refine g_putr hC dL_init_115 fL_45 sL111 (by decide) rfl (fun _ h => by cases h; exact ⟨rfl, rfl⟩) hnm 19 rfl (fun V115 e115 => ?_)
  have hq115 : V115 q = (upN (upN (upN (upN (upN (upN (upN (upN (upN (upN (V q) 0 (q + 2)) 2 w) 3 (w + 1)) 5 (w + 2)) 6 (w + 3)) 7 (w + 4)) 8 (w + 5)) 15 (w + 8)) 16 (w + 69)) 19 (w + 130)) := by rw [e115, up_self, vnM_ne (by omega), hq104]
  refine gB hC _ _ _ _ _ _ _ qL_init_118 rfl ?_
  refine g_new_longs hC dL_init_120 gArr_long rfl (by decide) ⟨by decide, by decide⟩ (fun hz120 => ?_)
  rw [show w + 151 + 1 = w + 152 by omega]
  have sL120 : (shp (shM (shM (shM (shM (shp (shp (shp (shp (shp S1 w (100, 100)) (w + 1) (100, 100)) (w + 2) (100, 2)) (w + 3) (100, 2)) (w + 4) (100, 2)) (w + 5) 109 102 2 100) (w + 8) 108 100 60 10) (w + 69) 108 100 60 14) (w + 130) 108 100 20 5) (w + 151) (101, 4)) q = some (12, 0) := (shp_ne _ _ (by omega)).trans sL111
  refine g_putr hC dL_init_122 fL_48 sL120 (by decide) rfl (fun _ h => by cases h; exact ⟨rfl, rfl⟩) hnm 21 rfl (fun V122 e122 => ?_)
  have hq122 : V122 q = (upN (upN (upN (upN (upN (upN (upN (upN (upN (upN (upN (V q) 0 (q + 2)) 2 w) 3 (w + 1)) 5 (w + 2)) 6 (w + 3)) 7 (w + 4)) 8 (w + 5)) 15 (w + 8)) 16 (w + 69)) 19 (w + 130)) 21 (w + 151)) := by rw [e122, up_self, vn_ne _ _ (by omega), hq115]
  refine gB hC _ _ _ _ _ _ _ qL_init_125 rfl ?_
  refine g_putr hC dL_init_127 fL_52 sL120 (by decide) rfl (fun _ h => by cases h; exact ⟨rfl, rfl⟩) hnm 1 rfl (fun V127 e127 => ?_)
  have hq127 : V127 q = (upN (upN (upN (upN (upN (upN (upN (upN (upN (upN (upN (upN (V q) 0 (q + 2)) 2 w) 3 (w + 1)) 5 (w + 2)) 6 (w + 3)) 7 (w + 4)) 8 (w + 5)) 15 (w + 8)) 16 (w + 69)) 19 (w + 130)) 21 (w + 151)) 1 (q + 1)) := by rw [e127, up_self, hq122]
  refine g_return hC dL_init_130 hr ?_ gs_rfl ⟨Nat.le_of_ble_eq_true rfl, Nat.le_of_ble_eq_true rfl⟩
  have rc : ∀ i, 0 ≤ i → i < 2 → V127 (w + 5) i = w + 5 + 1 + i := fun i i0 i1 => by
    rw [e127, up_row _ _ _ (by omega), e122, up_row _ _ _ (by omega), vn_ne _ _ (by omega), e115, up_row _ _ _ (by omega), vnM_ne (by omega), e104, up_row _ _ _ (by omega), vnM_ne (by omega), e92, up_row _ _ _ (by omega), vnM_ne (by omega), e80, up_row _ _ _ (by omega)]
    show (if _ then _ else _) = _
    rw [if_pos rfl, if_pos ⟨i0, i1⟩]
  have rs : ∀ i, 0 ≤ i → i < 60 → V127 (w + 8) i = w + 8 + 1 + i := fun i i0 i1 => by
    rw [e127, up_row _ _ _ (by omega), e122, up_row _ _ _ (by omega), vn_ne _ _ (by omega), e115, up_row _ _ _ (by omega), vnM_ne (by omega), e104, up_row _ _ _ (by omega), vnM_ne (by omega), e92, up_row _ _ _ (by omega)]
    show (if _ then _ else _) = _
    rw [if_pos rfl, if_pos ⟨i0, i1⟩]
  have rp : ∀ i, 0 ≤ i → i < 60 → V127 (w + 69) i = w + 69 + 1 + i := fun i i0 i1 => by
    rw [e127, up_row _ _ _ (by omega), e122, up_row _ _ _ (by omega), vn_ne _ _ (by omega), e115, up_row _ _ _ (by omega), vnM_ne (by omega), e104, up_row _ _ _ (by omega)]
    show (if _ then _ else _) = _
    rw [if_pos rfl, if_pos ⟨i0, i1⟩]
  have rg : ∀ i, 0 ≤ i → i < 20 → V127 (w + 130) i = w + 130 + 1 + i := fun i i0 i1 => by
    rw [e127, up_row _ _ _ (by omega), e122, up_row _ _ _ (by omega), vn_ne _ _ (by omega), e115, up_row _ _ _ (by omega)]
    show (if _ then _ else _) = _
    rw [if_pos rfl, if_pos ⟨i0, i1⟩]
  have rz : ∀ k, 0 ≤ k → k < 2 → ∀ i, V127 (w + 6 + k) i = 0 := fun k k0 k1 i => by
    rw [e127, up_row _ _ _ (by omega), e122, up_row _ _ _ (by omega), vn_ne _ _ (by omega), e115, up_row _ _ _ (by omega), vnM_ne (by omega), e104, up_row _ _ _ (by omega), vnM_ne (by omega), e92, up_row _ _ _ (by omega), vnM_ne (by omega), e80, up_row _ _ _ (by omega)]
    show (if _ then _ else if _ then _ else _) = _
    rw [if_neg (by omega), if_pos (by omega)]
  have rb : ∀ i, V127 (w + 151) i = 0 := fun i => by rw [e127, up_row _ _ _ (by omega), e122, up_row _ _ _ (by omega), vn_eq]
  have re : ∀ i, V127 (w + 4) i = 0 := fun i => by rw [e127, up_row _ _ _ (by omega), e122, up_row _ _ _ (by omega), vn_ne _ _ (by omega), e115, up_row _ _ _ (by omega), vnM_ne (by omega), e104, up_row _ _ _ (by omega), vnM_ne (by omega), e92, up_row _ _ _ (by omega), vnM_ne (by omega), e80, up_row _ _ _ (by omega), vnM_ne (by omega), e69, up_row _ _ _ (by omega), vn_eq]
  have rr : V127 (w + 2) 0 = 3 ∧ V127 (w + 2) 1 = 1 := ⟨by rw [e127, up_row _ _ _ (by omega), e122, up_row _ _ _ (by omega), vn_ne _ _ (by omega), e115, up_row _ _ _ (by omega), vnM_ne (by omega), e104, up_row _ _ _ (by omega), vnM_ne (by omega), e92, up_row _ _ _ (by omega), vnM_ne (by omega), e80, up_row _ _ _ (by omega), vnM_ne (by omega), e69, up_row _ _ _ (by omega), vn_ne _ _ (by omega), e62, up_row _ _ _ (by omega), e61, up_row _ _ _ (by omega), e55, up_row _ _ _ (by omega), vn_ne _ _ (by omega), e43, up_row _ _ _ (by omega), e42, up_ne _ _ (Or.inr (by decide)), e38, up_eq], by rw [e127, up_row _ _ _ (by omega), e122, up_row _ _ _ (by omega), vn_ne _ _ (by omega), e115, up_row _ _ _ (by omega), vnM_ne (by omega), e104, up_row _ _ _ (by omega), vnM_ne (by omega), e92, up_row _ _ _ (by omega), vnM_ne (by omega), e80, up_row _ _ _ (by omega), vnM_ne (by omega), e69, up_row _ _ _ (by omega), vn_ne _ _ (by omega), e62, up_row _ _ _ (by omega), e61, up_row _ _ _ (by omega), e55, up_row _ _ _ (by omega), vn_ne _ _ (by omega), e43, up_row _ _ _ (by omega), e42, up_eq]⟩
  have rs9 : V127 (w + 3) 0 = 10000 ∧ V127 (w + 3) 1 = 25000 := ⟨by rw [e127, up_row _ _ _ (by omega), e122, up_row _ _ _ (by omega), vn_ne _ _ (by omega), e115, up_row _ _ _ (by omega), vnM_ne (by omega), e104, up_row _ _ _ (by omega), vnM_ne (by omega), e92, up_row _ _ _ (by omega), vnM_ne (by omega), e80, up_row _ _ _ (by omega), vnM_ne (by omega), e69, up_row _ _ _ (by omega), vn_ne _ _ (by omega), e62, up_row _ _ _ (by omega), e61, up_ne _ _ (Or.inr (by decide)), e55, up_eq], by rw [e127, up_row _ _ _ (by omega), e122, up_row _ _ _ (by omega), vn_ne _ _ (by omega), e115, up_row _ _ _ (by omega), vnM_ne (by omega), e104, up_row _ _ _ (by omega), vnM_ne (by omega), e92, up_row _ _ _ (by omega), vnM_ne (by omega), e80, up_row _ _ _ (by omega), vnM_ne (by omega), e69, up_row _ _ _ (by omega), vn_ne _ _ (by omega), e62, up_row _ _ _ (by omega), e61, up_eq]⟩
  have lv : ∀ a, q + 2 ≤ a → a < w → V127 a = V1 a := fun a a0 a1 => by rw [e127, up_row _ _ _ (by omega), e122, up_row _ _ _ (by omega), vn_ne _ _ (by omega), e115, up_row _ _ _ (by omega), vnM_ne (by omega), e104, up_row _ _ _ (by omega), vnM_ne (by omega), e92, up_row _ _ _ (by omega), vnM_ne (by omega), e80, up_row _ _ _ (by omega), vnM_ne (by omega), e69, up_row _ _ _ (by omega), vn_ne _ _ (by omega), e62, up_row _ _ _ (by omega), e61, up_row _ _ _ (by omega), e55, up_row _ _ _ (by omega), vn_ne _ _ (by omega), e43, up_row _ _ _ (by omega), e42, up_row _ _ _ (by omega), e38, up_row _ _ _ (by omega), vn_ne _ _ (by omega), e28, up_row _ _ _ (by omega), vn_ne _ _ (by omega), e20, up_row _ _ _ (by omega), vn_ne _ _ (by omega), e12, up_row _ _ _ (by omega)]
  have ls : ∀ a, a < w → (shp (shM (shM (shM (shM (shp (shp (shp (shp (shp S1 w (100, 100)) (w + 1) (100, 100)) (w + 2) (100, 2)) (w + 3) (100, 2)) (w + 4) (100, 2)) (w + 5) 109 102 2 100) (w + 8) 108 100 60 10) (w + 69) 108 100 60 14) (w + 130) 108 100 20 5) (w + 151) (101, 4)) a = S1 a := fun a a1 => by rw [shp_ne _ _ (by omega), shM_ne (by omega), shM_ne (by omega), shM_ne (by omega), shM_ne (by omega), shp_ne _ _ (by omega), shp_ne _ _ (by omega), shp_ne _ _ (by omega), shp_ne _ _ (by omega), shp_ne _ _ (by omega)]
  have sh9 : ∀ j, 0 ≤ j → j < 152 → (shp (shM (shM (shM (shM (shp (shp (shp (shp (shp S1 w (100, 100)) (w + 1) (100, 100)) (w + 2) (100, 2)) (w + 3) (100, 2)) (w + 4) (100, 2)) (w + 5) 109 102 2 100) (w + 8) 108 100 60 10) (w + 69) 108 100 60 14) (w + 130) 108 100 20 5) (w + 151) (101, 4)) (w + j) = some (lsh j) := fun j j0 j1 => by
    unfold lsh
    by_cases h151 : j = 151
    · rw [h151]; exact shp_eq _ _ _
    rw [shp_ne _ _ (by omega)]
    by_cases h130 : 130 ≤ j
    · show (if _ then _ else if _ then _ else _) = _
      by_cases h : j = 130
      · rw [if_pos (by omega), if_neg (by omega), if_neg (by omega), if_neg (by omega), if_neg (by omega), if_neg (by omega), if_neg (by omega), if_neg (by omega), if_neg (by omega), if_pos (by omega)]
      · rw [if_neg (by omega), if_pos (by omega), if_neg (by omega), if_neg (by omega), if_neg (by omega), if_neg (by omega), if_neg (by omega), if_neg (by omega), if_neg (by omega), if_neg (by omega), if_neg (by omega), if_pos (by omega)]
    rw [shM_ne (by omega)]
    by_cases h69 : 69 ≤ j
    · show (if _ then _ else if _ then _ else _) = _
      by_cases h : j = 69
      · rw [if_pos (by omega), if_neg (by omega), if_neg (by omega), if_neg (by omega), if_neg (by omega), if_neg (by omega), if_neg (by omega), if_pos (by omega)]
      · rw [if_neg (by omega), if_pos (by omega), if_neg (by omega), if_neg (by omega), if_neg (by omega), if_neg (by omega), if_neg (by omega), if_neg (by omega), if_neg (by omega), if_pos (by omega)]
    rw [shM_ne (by omega)]
    by_cases h8 : 8 ≤ j
    · show (if _ then _ else if _ then _ else _) = _
      by_cases h : j = 8
      · rw [if_pos (by omega), if_neg (by omega), if_neg (by omega), if_neg (by omega), if_neg (by omega), if_pos (by omega)]
      · rw [if_neg (by omega), if_pos (by omega), if_neg (by omega), if_neg (by omega), if_neg (by omega), if_neg (by omega), if_neg (by omega), if_pos (by omega)]
    rw [shM_ne (by omega)]
    by_cases h5 : 5 ≤ j
    · show (if _ then _ else if _ then _ else _) = _
      by_cases h : j = 5
      · rw [if_pos (by omega), if_neg (by omega), if_neg (by omega), if_pos (by omega)]
      · rw [if_neg (by omega), if_pos (by omega), if_neg (by omega), if_neg (by omega), if_neg (by omega), if_pos (by omega)]
    rw [shM_ne (by omega)]
    rcases (by omega : j = 0 ∨ j = 1 ∨ j = 2 ∨ j = 3 ∨ j = 4) with h | h | h | h | h <;> subst h
    · rw [shp_ne _ _ (by omega), shp_ne _ _ (by omega), shp_ne _ _ (by omega), shp_ne _ _ (by omega), Int.add_zero, shp_eq]; rfl
    · rw [shp_ne _ _ (by omega), shp_ne _ _ (by omega), shp_ne _ _ (by omega), shp_eq]; rfl
    · rw [shp_ne _ _ (by omega), shp_ne _ _ (by omega), shp_eq]; rfl
    · rw [shp_ne _ _ (by omega), shp_eq]; rfl
    · rw [shp_eq]; rfl
  have dq : dF w V127 q = V127 q := dF_ne (by omega) (by omega)
  have hxf := XR_up hxr iniN_inv.1 (by omega : q + 2 + 1141 ≤ w) (fun a _ a1 => ls a a1) lv
  have hlo := iniN_lo
  have hz0 : ∀ j, (36 ≤ j ∨ (2 ≤ j ∧ j ≤ 30)) → iniN j = 0 := fun j h => iniN_z h
  have n5 : iniN 5 = 0 := rfl
  refine ⟨rfl, w, hxf, ⟨⟨by omega, by omega⟩, ⟨(ls q (by omega)).trans sL1, (ls _ (by omega)).trans ((hS1 _ (by omega)).trans ((shp_ne _ _ (by omega)).trans hs2)), hxf.sX, sh9⟩, ⟨?_, ?_, ?_⟩, ?_, ?_, ?_, ?_, ?_, ?_, ?_⟩, ?_⟩
  · rw [dq]; exact ⟨(by rw [hq127, upN_ne (by decide), upN_ne (by decide), upN_ne (by decide), upN_ne (by decide), upN_ne (by decide), upN_ne (by decide), upN_ne (by decide), upN_ne (by decide), upN_ne (by decide), upN_ne (by decide), upN_ne (by decide), upN_eq]), (by rw [hq127, upN_eq]), (by rw [hq127, upN_ne (by decide), upN_ne (by decide), upN_ne (by decide), upN_ne (by decide), upN_ne (by decide), upN_ne (by decide), upN_ne (by decide), upN_ne (by decide), upN_ne (by decide), upN_ne (by decide), upN_eq]), (by rw [hq127, upN_ne (by decide), upN_ne (by decide), upN_ne (by decide), upN_ne (by decide), upN_ne (by decide), upN_ne (by decide), upN_ne (by decide), upN_ne (by decide), upN_ne (by decide), upN_eq]), (by rw [hq127, upN_ne (by decide), upN_ne (by decide), upN_ne (by decide), upN_ne (by decide), upN_ne (by decide), upN_ne (by decide), upN_ne (by decide), upN_ne (by decide), upN_eq]), (by rw [hq127, upN_ne (by decide), upN_ne (by decide), upN_ne (by decide), upN_ne (by decide), upN_ne (by decide), upN_ne (by decide), upN_ne (by decide), upN_eq]), (by rw [hq127, upN_ne (by decide), upN_ne (by decide), upN_ne (by decide), upN_ne (by decide), upN_ne (by decide), upN_ne (by decide), upN_eq]), (by rw [hq127, upN_ne (by decide), upN_ne (by decide), upN_ne (by decide), upN_ne (by decide), upN_ne (by decide), upN_eq]), (by rw [hq127, upN_ne (by decide), upN_ne (by decide), upN_ne (by decide), upN_ne (by decide), upN_eq]), (by rw [hq127, upN_ne (by decide), upN_ne (by decide), upN_ne (by decide), upN_eq]), (by rw [hq127, upN_ne (by decide), upN_ne (by decide), upN_eq]), (by rw [hq127, upN_ne (by decide), upN_eq])⟩
  · intro k k0 k1; rw [dF_ne (by omega) (by omega), rc k k0 k1]; omega
  · intro s s0 s1; rw [dF_ne (by omega) (by omega), dF_ne (by omega) (by omega), rs s s0 s1, rp s s0 s1]; exact ⟨by omega, by omega⟩
  · intro j _ _
    exact ⟨by unfold dF; rw [if_pos rfl], by unfold dF; rw [if_neg (by omega), if_pos rfl]⟩
  · intro i i0 i1
    rw [dF_ne (by omega) (by omega), rg i i0 i1]
    refine ⟨?_, Or.inl ⟨by omega, by omega⟩⟩
    have := sh9 (131 + i) (by omega) (by omega)
    rw [show w + (131 + i) = w + 130 + 1 + i by omega] at this
    rw [this]
    unfold lsh
    rw [if_neg (by omega), if_neg (by omega), if_neg (by omega), if_neg (by omega), if_neg (by omega), if_neg (by omega), if_neg (by omega), if_neg (by omega), if_neg (by omega), if_pos (by omega)]
  · unfold llV; rw [dq]; exact ⟨((by rw [hq127, upN_ne (by decide), upN_ne (by decide), upN_ne (by decide), upN_ne (by decide), upN_ne (by decide), upN_ne (by decide), upN_ne (by decide), upN_ne (by decide), upN_ne (by decide), upN_ne (by decide), upN_ne (by decide), upN_ne (by decide), hv4]) : V127 q 4 = 0).trans rfl, ((by rw [hq127, upN_ne (by decide), upN_ne (by decide), upN_ne (by decide), upN_ne (by decide), upN_ne (by decide), upN_ne (by decide), upN_ne (by decide), upN_ne (by decide), upN_ne (by decide), upN_ne (by decide), upN_ne (by decide), upN_ne (by decide), hv9]) : V127 q 9 = 0).trans rfl, ((by rw [hq127, upN_ne (by decide), upN_ne (by decide), upN_ne (by decide), upN_ne (by decide), upN_ne (by decide), upN_ne (by decide), upN_ne (by decide), upN_ne (by decide), upN_ne (by decide), upN_ne (by decide), upN_ne (by decide), upN_ne (by decide), hv10]) : V127 q 10 = 0).trans rfl, ((by rw [hq127, upN_ne (by decide), upN_ne (by decide), upN_ne (by decide), upN_ne (by decide), upN_ne (by decide), upN_ne (by decide), upN_ne (by decide), upN_ne (by decide), upN_ne (by decide), upN_ne (by decide), upN_ne (by decide), upN_ne (by decide), hv17]) : V127 q 17 = 0).trans rfl, ((by rw [hq127, upN_ne (by decide), upN_ne (by decide), upN_ne (by decide), upN_ne (by decide), upN_ne (by decide), upN_ne (by decide), upN_ne (by decide), upN_ne (by decide), upN_ne (by decide), upN_ne (by decide), upN_ne (by decide), upN_ne (by decide), hv18]) : V127 q 18 = 0).trans rfl, ((by rw [hq127, upN_ne (by decide), upN_ne (by decide), upN_ne (by decide), upN_ne (by decide), upN_ne (by decide), upN_ne (by decide), upN_ne (by decide), upN_ne (by decide), upN_ne (by decide), upN_ne (by decide), upN_ne (by decide), upN_ne (by decide), hv22]) : V127 q 22 = 0).trans rfl⟩
  · left; rw [dq]; exact ⟨rfl, (by rw [hq127, upN_ne (by decide), upN_ne (by decide), upN_ne (by decide), upN_ne (by decide), upN_ne (by decide), upN_ne (by decide), upN_ne (by decide), upN_ne (by decide), upN_ne (by decide), upN_ne (by decide), upN_ne (by decide), upN_ne (by decide), hv14])⟩
  · intro k k0 k1
    refine ⟨?_, fun d d0 d1 => ?_⟩
    · rcases (by omega : k = 0 ∨ k = 1) with h | h <;> subst h
      · rw [dF_ne (by omega) (by omega), dF_ne (by omega) (by omega), dF_ne (by omega) (by omega), rr.1, rs9.1, re]; exact ⟨rfl, rfl, rfl⟩
      · rw [dF_ne (by omega) (by omega), dF_ne (by omega) (by omega), dF_ne (by omega) (by omega), rr.2, rs9.2, re]; exact ⟨rfl, rfl, rfl⟩
    · rw [dF_ne (by omega) (by omega), rz k k0 k1]
      unfold clb
      rw [hz0 _ (by omega)]
      unfold bitZ
      rw [Int.zero_ediv]; rfl
  · intro b b0 b1
    rw [dF_ne (by omega) (by omega), rb, hz0 _ (by omega)]
  · intro s s0 s1; omega
  · exact (by rw [hq127, upN_ne (by decide), upN_ne (by decide), upN_ne (by decide), upN_ne (by decide), upN_ne (by decide), upN_ne (by decide), upN_ne (by decide), upN_ne (by decide), upN_ne (by decide), upN_ne (by decide), upN_ne (by decide), upN_ne (by decide), hv20])
