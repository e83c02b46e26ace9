/-! the class: more of what it changes (rows laid by wip/whole/n78.py) -/
theorem kX11_passes {E l Sh V z} {x9 cc9 : Int} {N : gN0} {P9 : Int → gN0} {d9 : Int} (hx : XR x9 N P9 cc9 Sh V) (hI0 : INV N) (h1 : inI d9) : gM E l yX11_passes (.code yX11_passes cX11_passes 3 (some .int)) (rmk 11 60 600 420) [(2, x9), (0, d9)] Sh V z (gRk (fitC (bI ((1 ≤ d9 ∧ d9 ≤ 31) ∧ N 0 + d9 < 36525)) 1 1) gxA "" "" (0, dateZ (N 0 + d9)) (fun V' => XR x9 (psT N d9.toNat) (kpP P9 cc9 N) (min (cc9 + 1) 6) Sh V' ∧ OUX x9 Sh V V') (fun V' => XR x9 N P9 cc9 Sh V' ∧ OUX x9 Sh V V') Sh) := by
  refine gM_at (L0 := [(2, x9), (0, d9), (9, 0)]) rfl rfl rfl ?_
  intro p e s m args below meth c hC hr hex hnm hz
  have hI := hI0.1
  have hsc := hI.1
  unfold iScal at hsc
  refine gB hC _ _ _ _ _ _ _ qX11_passes_0 rfl ?_
  refine g_chkS hC dX11_passes_4 mX11_34 sX11_checkWithin (kX11_checkWithin (by omega) (by omega) (by omega)) rfl rfl (Nat.le_of_ble_eq_true rfl) (RR rfl rfl rfl rfl) (fun z q4 => ?_) (fun z q4 => ?_)
  rotate_left
  · exact g_out hC hex ⟨rfl, Or.inr ⟨⟨hx, OUX.rfl' _ _ _⟩, (by first | exact Or.inl ⟨fl1 (fun h => by omega), rfl⟩ | exact Or.inr (Or.inl ⟨fl2 (by omega) (fun h => by omega), rfl⟩) | exact Or.inr (Or.inr ⟨fl3 (by omega) (by omega) (fun h => by omega), rfl⟩))⟩⟩ gs_rfl ⟨Nat.le_of_ble_eq_true rfl, Nat.le_of_ble_eq_true rfl⟩
  refine gB hC _ _ _ _ _ _ _ qX11_passes_7 rfl ?_
  refine g_getr hC dX11_passes_8 fX11_10 hx.sX (by decide) rfl 0 rfl hx.p0 ?_
  refine g_getiv hC dX11_passes_11 fX11_155 hx.1.2.1.sH (by decide) rfl 0 rfl hx.rh.t0 (fun i11 => ?_)
  refine gB hC _ _ _ _ _ _ _ qX11_passes_14 rfl ?_
  refine g_ldc hC 36525 kX11_177 rfl dX11_passes_16 ?_
  refine g_icmp_ge hC 25 dX11_passes_18 rfl (by first | omega | exact cmpZ_in _ _ | exact bI_in _) (by first | omega | exact cmpZ_in _ _ | exact bI_in _) (fun c18 => ?_) (fun c18 => ?_)
  · refine gB hC _ _ _ _ _ _ _ qX11_passes_25 rfl ?_
    refine g_chkS hC dX11_passes_26 mX11_82 sX11_checkArgument (kX11_checkArgument (by first | omega | exact bI_in _)) rfl rfl (Nat.le_of_ble_eq_true rfl) (RR rfl rfl rfl rfl) (fun z q26 => ?_) (fun z q26 => ?_)
    rotate_left
    · exact g_out hC hex ⟨rfl, Or.inr ⟨⟨hx, OUX.rfl' _ _ _⟩, (by first | exact Or.inl ⟨fl1 (fun h => by omega), rfl⟩ | exact Or.inr (Or.inl ⟨fl2 (by omega) (fun h => by omega), rfl⟩) | exact Or.inr (Or.inr ⟨fl3 (by omega) (by omega) (fun h => by omega), rfl⟩))⟩⟩ gs_rfl ⟨Nat.le_of_ble_eq_true rfl, Nat.le_of_ble_eq_true rfl⟩
    exact absurd rfl q26
  · refine gB hC _ _ _ _ _ _ _ qX11_passes_21 rfl ?_
    refine g_chkS hC dX11_passes_26 mX11_82 sX11_checkArgument (kX11_checkArgument (by first | omega | exact bI_in _)) rfl rfl (Nat.le_of_ble_eq_true rfl) (RR rfl rfl rfl rfl) (fun z q26 => ?_) (fun z q26 => ?_)
    rotate_left
    · exact g_out hC hex ⟨rfl, Or.inr ⟨⟨hx, OUX.rfl' _ _ _⟩, (by first | exact Or.inl ⟨fl1 (fun h => by omega), rfl⟩ | exact Or.inr (Or.inl ⟨fl2 (by omega) (fun h => by omega), rfl⟩) | exact Or.inr (Or.inr ⟨fl3 (by omega) (by omega) (fun h => by omega), rfl⟩))⟩⟩ gs_rfl ⟨Nat.le_of_ble_eq_true rfl, Nat.le_of_ble_eq_true rfl⟩
    refine gB hC _ _ _ _ _ _ _ qX11_passes_29 rfl ?_
    refine g_getr hC dX11_passes_30 fX11_19 hx.sX (by decide) rfl 1 rfl hx.p1 ?_
    refine gB hC _ _ _ _ _ _ _ qX11_passes_33 rfl ?_
    refine g_getr hC dX11_passes_34 fX11_10 hx.sX (by decide) rfl 0 rfl hx.p0 ?_
    refine g_cV0e hC dX11_passes_37 mX11_47 vX1_keep (kX1_keep hx.sY hx.pY hx.hy hx.rh hI0 (by omega)) rfl hx.sY.1 (by decide) rfl (Nat.le_of_ble_eq_true rfl) (RR rfl rfl rfl rfl) (fun z V37 e37 => ?_)
    have hxk := XR_Y hx hI0 e37.1 e37.2.1 e37.2.2
    have houk := (OUX.rfl' x9 Sh V).yh e37.2.2
    refine gB hC _ _ _ _ _ _ _ qX11_passes_40 rfl ?_
    refine g_loop (fun x : gV × Nat => XR x9 (psT N x.2) (kpP P9 cc9 N) (min (cc9 + 1) 6) Sh x.1 ∧ OUX x9 Sh V x.1 ∧ (x.2 : Int) ≤ d9) (fun x => (d9 - x.2).toNat) 42 (fun x => [(2, x9), (0, d9), (0, (x.2 : Int))]) (fun x => x.1) (V37, 0) ⟨hxk, houk, by show (0 : Int) ≤ d9; omega⟩ ?_
    rintro ⟨V1, i⟩ z ⟨hx1, ho1, hi9⟩ ih
    dsimp only at hx1 ho1 hi9 ih ⊢
    have hps := psT_inv hI0 i (by omega)
    refine gB hC _ _ _ _ _ _ _ qX11_passes_42 rfl ?_
    refine g_icmp_ge hC 68 dX11_passes_44 rfl (by first | omega | exact cmpZ_in _ _ | exact bI_in _) (by first | omega | exact cmpZ_in _ _ | exact bI_in _) (fun c44 => ?_) (fun c44 => ?_)
    · obtain rfl : d9 = (i : Int) := by omega
      have e0 := hps.2
      refine gB hC _ _ _ _ _ _ _ qX11_passes_68 rfl ?_
      refine g_getr hC dX11_passes_69 fX11_10 hx1.sX (by decide) rfl 0 rfl hx1.p0 ?_
      refine g_getiv hC dX11_passes_72 fX11_155 hx1.1.2.1.sH (by decide) rfl 0 rfl hx1.rh.t0 (fun i72 => ?_)
      refine g_cS1i hC dX11_passes_75 mX11_181 sX0_dateOf (kX0_dateOf (by omega) (by omega)) rfl rfl (Nat.le_of_ble_eq_true rfl) (RR rfl rfl rfl rfl) (fun z i75 => ?_)
      rw [e0]
      refine g_ireturn hC dX11_passes_78 hr ⟨rfl, Or.inl ⟨fk1 (by omega), ?_, ?_, ?_⟩⟩ gs_rfl ⟨Nat.le_of_ble_eq_true rfl, Nat.le_of_ble_eq_true rfl⟩
      · rfl
      · exact hx1
      · exact ho1
    · refine gB hC _ _ _ _ _ _ _ qX11_passes_47 rfl ?_
      refine g_getr hC dX11_passes_48 fX11_10 hx1.sX (by decide) rfl 0 rfl hx1.p0 ?_
      refine g_cV0e hC dX11_passes_51 mX11_178 vX2_passDay (kX2_passDay hx1.rh hps.1 (by omega)) rfl hx1.1.2.1.sH (by decide) rfl (Nat.le_of_ble_eq_true rfl) (RR rfl rfl rfl rfl) (fun z V51 e51 => ?_)
      have hx2 := XR_H hx1 e51.1 e51.2
      have hoa := od_all hps.1 (by omega)
      refine gB hC _ _ _ _ _ _ _ qX11_passes_54 rfl ?_
      refine g_getr hC dX11_passes_55 fX11_10 hx2.sX (by decide) rfl 0 rfl hx2.p0 ?_
      refine g_cV1e hC dX11_passes_58 mX11_69 vX2_lookAtGuests (kX2_lookAtGuests hx2.rh hoa.2.2.2.1.1) rfl hx2.1.2.1.sH (by decide) rfl (Nat.le_of_ble_eq_true rfl) (RR rfl rfl rfl rfl) (fun z V58 e58 => ?_)
      refine gB hC _ _ _ _ _ _ _ qX11_passes_61 rfl ?_
      exact ih (_, i + 1) _ ⟨XR_H hx2 e58.1 e58.2, (ho1.ho e51.2).ho e58.2, by show ((i + 1 : Nat) : Int) ≤ d9; omega⟩ (by show (d9 - ((i + 1 : Nat) : Int)).toNat < (d9 - i).toNat; omega)

theorem kX11_setOdds {E l Sh V z} {x9 cc9 : Int} {N : gN0} {P9 : Int → gN0} {so p9 o9 : Int} (hx : XR x9 N P9 cc9 Sh V) (hI0 : INV N) (h1 : inI so) (h2 : inI p9) (h3 : inI o9) : gM E l yX11_setOdds (.code yX11_setOdds cX11_setOdds 5 (some .int)) (rmk 11 60 600 420) [(2, x9), (0, so), (0, p9), (0, o9)] Sh V z (gRk (fitC (bI (0 ≤ so ∧ so ≤ 3)) (bI ((0 ≤ p9 ∧ p9 ≤ 100000) ∧ (0 ≤ o9 ∧ o9 ≤ 1000) ∧ otT N so 4 + o9 ≤ 1000)) 1) gxI gxA "" (0, otT N so 4 + o9) (fun V' => XR x9 (upN (upN N (17 + so) p9) (13 + so) o9) (kpP P9 cc9 N) (min (cc9 + 1) 6) Sh V' ∧ OUX x9 Sh V V') (fun V' => XR x9 N P9 cc9 Sh V' ∧ OUX x9 Sh V V') Sh) := by
  refine gM_at (L0 := [(2, x9), (0, so), (0, p9), (0, o9), (9, 0)]) rfl rfl rfl ?_
  intro p e s m args below meth c hC hr hex hnm hz
  have hI := hI0.1
  have hsc := hI.1
  unfold iScal at hsc
  have hrs := rsT_in hI0.2.2 4 (by decide)
  have hoi := otT_in hI0.2.2 so
  refine gB hC _ _ _ _ _ _ _ qX11_setOdds_0 rfl ?_
  refine g_chkS hC dX11_setOdds_2 mX11_51 sX11_checkIndex (kX11_checkIndex (by omega) (by omega)) rfl rfl (Nat.le_of_ble_eq_true rfl) (RR rfl rfl rfl rfl) (fun z q2 => ?_) (fun z q2 => ?_)
  rotate_left
  · exact g_out hC hex ⟨rfl, Or.inr ⟨⟨hx, OUX.rfl' _ _ _⟩, (by first | exact Or.inl ⟨fl1 (fun h => by omega), rfl⟩ | exact Or.inr (Or.inl ⟨fl2 (by omega) (fun h => by omega), rfl⟩) | exact Or.inr (Or.inr ⟨fl3 (by omega) (by omega) (fun h => by omega), rfl⟩))⟩⟩ gs_rfl ⟨Nat.le_of_ble_eq_true rfl, Nat.le_of_ble_eq_true rfl⟩
  refine gB hC _ _ _ _ _ _ _ qX11_setOdds_5 rfl ?_
  refine g_ldc hC 100000 kX11_38 rfl dX11_setOdds_7 ?_
  refine g_chkS hC dX11_setOdds_9 mX11_34 sX11_checkWithin (kX11_checkWithin (by omega) (by omega) (by omega)) rfl rfl (Nat.le_of_ble_eq_true rfl) (RR rfl rfl rfl rfl) (fun z q9 => ?_) (fun z q9 => ?_)
  rotate_left
  · exact g_out hC hex ⟨rfl, Or.inr ⟨⟨hx, OUX.rfl' _ _ _⟩, (by first | exact Or.inl ⟨fl1 (fun h => by omega), rfl⟩ | exact Or.inr (Or.inl ⟨fl2 (by omega) (fun h => by omega), rfl⟩) | exact Or.inr (Or.inr ⟨fl3 (by omega) (by omega) (fun h => by omega), rfl⟩))⟩⟩ gs_rfl ⟨Nat.le_of_ble_eq_true rfl, Nat.le_of_ble_eq_true rfl⟩
  refine gB hC _ _ _ _ _ _ _ qX11_setOdds_12 rfl ?_
  refine g_chkS hC dX11_setOdds_17 mX11_34 sX11_checkWithin (kX11_checkWithin (by omega) (by omega) (by omega)) rfl rfl (Nat.le_of_ble_eq_true rfl) (RR rfl rfl rfl rfl) (fun z q17 => ?_) (fun z q17 => ?_)
  rotate_left
  · exact g_out hC hex ⟨rfl, Or.inr ⟨⟨hx, OUX.rfl' _ _ _⟩, (by first | exact Or.inl ⟨fl1 (fun h => by omega), rfl⟩ | exact Or.inr (Or.inl ⟨fl2 (by omega) (fun h => by omega), rfl⟩) | exact Or.inr (Or.inr ⟨fl3 (by omega) (by omega) (fun h => by omega), rfl⟩))⟩⟩ gs_rfl ⟨Nat.le_of_ble_eq_true rfl, Nat.le_of_ble_eq_true rfl⟩
  refine gB hC _ _ _ _ _ _ _ qX11_setOdds_20 rfl ?_
  refine g_getr hC dX11_setOdds_21 fX11_10 hx.sX (by decide) rfl 0 rfl hx.p0 ?_
  refine g_getr hC dX11_setOdds_24 fX11_184 hx.1.2.1.sH (by decide) rfl 13 rfl hx.rh.2.1.p13 ?_
  refine g_cV1i hC dX11_setOdds_27 mX11_188 vX4_oddsTogether (kX4_oddsTogether hx.rh hI0.2.2) rfl hx.1.2.1.sM (by decide) rfl (Nat.le_of_ble_eq_true rfl) (RR rfl rfl rfl rfl) (fun z i27 => ?_)
  refine gB hC _ _ _ _ _ _ _ qX11_setOdds_30 rfl ?_
  refine g_getr hC dX11_setOdds_31 fX11_10 hx.sX (by decide) rfl 0 rfl hx.p0 ?_
  refine g_getr hC dX11_setOdds_34 fX11_184 hx.1.2.1.sH (by decide) rfl 13 rfl hx.rh.2.1.p13 ?_
  refine g_getr hC dX11_setOdds_37 fX11_193 hx.1.2.1.sM (by decide) rfl 1 rfl hx.rh.2.1.pO ?_
  refine gB hC _ _ _ _ _ _ _ qX11_setOdds_40 rfl ?_
  refine g_iald hC dX11_setOdds_41 hx.1.2.1.sO (hx.rh.mo (by omega) (by omega)) (by omega) (by omega) (by decide) (fun i41 => ?_)
  have hoe := otT_eq N (s := so) (by omega) (by omega)
  refine gB hC _ _ _ _ _ _ _ qX11_setOdds_42 rfl ?_
  rw [show 1000 - rsT N 4 - N (13 + so) + o9 = otT N so 4 + o9 by omega]
  refine g_chkS hC dX11_setOdds_53 mX11_34 sX11_checkWithin (kX11_checkWithin (by omega) (by omega) (by omega)) rfl rfl (Nat.le_of_ble_eq_true rfl) (RR rfl rfl rfl rfl) (fun z q53 => ?_) (fun z q53 => ?_)
  rotate_left
  · exact g_out hC hex ⟨rfl, Or.inr ⟨⟨hx, OUX.rfl' _ _ _⟩, (by first | exact Or.inl ⟨fl1 (fun h => by omega), rfl⟩ | exact Or.inr (Or.inl ⟨fl2 (by omega) (fun h => by omega), rfl⟩) | exact Or.inr (Or.inr ⟨fl3 (by omega) (by omega) (fun h => by omega), rfl⟩))⟩⟩ gs_rfl ⟨Nat.le_of_ble_eq_true rfl, Nat.le_of_ble_eq_true rfl⟩
  refine gB hC _ _ _ _ _ _ _ qX11_setOdds_56 rfl ?_
  refine g_getr hC dX11_setOdds_57 fX11_19 hx.sX (by decide) rfl 1 rfl hx.p1 ?_
  refine gB hC _ _ _ _ _ _ _ qX11_setOdds_60 rfl ?_
  refine g_getr hC dX11_setOdds_61 fX11_10 hx.sX (by decide) rfl 0 rfl hx.p0 ?_
  refine g_cV0e hC dX11_setOdds_64 mX11_47 vX1_keep (kX1_keep hx.sY hx.pY hx.hy hx.rh hI0 (by omega)) rfl hx.sY.1 (by decide) rfl (Nat.le_of_ble_eq_true rfl) (RR rfl rfl rfl rfl) (fun z V64 e64 => ?_)
  have hxk := XR_Y hx hI0 e64.1 e64.2.1 e64.2.2
  have houk := (OUX.rfl' x9 Sh V).yh e64.2.2
  refine gB hC _ _ _ _ _ _ _ qX11_setOdds_67 rfl ?_
  refine g_getr hC dX11_setOdds_68 fX11_10 hxk.sX (by decide) rfl 0 rfl hxk.p0 ?_
  refine g_getr hC dX11_setOdds_71 fX11_184 hxk.1.2.1.sH (by decide) rfl 13 rfl hxk.rh.2.1.p13 ?_
  refine g_getr hC dX11_setOdds_74 fX11_197 hxk.1.2.1.sM (by decide) rfl 0 rfl hxk.rh.2.1.pP ?_
  refine gB hC _ _ _ _ _ _ _ qX11_setOdds_77 rfl ?_
  refine g_ast hC dX11_setOdds_79 hxk.1.2.1.sP (by omega) (by omega) (by decide) (by first | omega | exact cmpZ_in _ _ | exact bI_in _) (fun V79 e79 => ?_)
  refine gB hC _ _ _ _ _ _ _ qX11_setOdds_80 rfl ?_
  refine g_getr hC dX11_setOdds_81 fX11_10 hxk.sX (by decide) rfl 0 rfl ((congrFun (congrFun e79 _) _).trans ((up_ne _ _ (by omega)).trans hxk.p0)) ?_
  refine g_getr hC dX11_setOdds_84 fX11_184 hxk.1.2.1.sH (by decide) rfl 13 rfl ((congrFun (congrFun e79 _) _).trans ((up_ne _ _ (by omega)).trans hxk.rh.2.1.p13)) ?_
  refine g_getr hC dX11_setOdds_87 fX11_193 hxk.1.2.1.sM (by decide) rfl 1 rfl ((congrFun (congrFun e79 _) _).trans ((up_ne _ _ (by omega)).trans hxk.rh.2.1.pO)) ?_
  refine gB hC _ _ _ _ _ _ _ qX11_setOdds_90 rfl ?_
  refine g_ast hC dX11_setOdds_92 hxk.1.2.1.sO (by omega) (by omega) (by decide) (by first | omega | exact cmpZ_in _ _ | exact bI_in _) (fun V92 e92 => ?_)
  refine gB hC _ _ _ _ _ _ _ qX11_setOdds_93 rfl ?_
  refine g_ireturn hC dX11_setOdds_95 hr ⟨rfl, Or.inl ⟨fk2 (by omega) (by omega), ?_, ?_, ?_⟩⟩ gs_rfl ⟨Nat.le_of_ble_eq_true rfl, Nat.le_of_ble_eq_true rfl⟩
  · rfl
  · exact XR_H hxk (RH_so hxk.rh hI0.szO (by omega) (by omega) (by rw [e92, e79])) (by rw [e92, e79]; exact ((OUT.rfl' _ _).up (by omega)).up (by omega))
  · refine houk.ho ?_
    rw [e92, e79]; exact ((OUT.rfl' _ _).up (by omega)).up (by omega)

theorem kX11_sell {E l Sh V z} {x9 cc9 : Int} {N : gN0} {P9 : Int → gN0} {d9 r9 : Int} (hx : XR x9 N P9 cc9 Sh V) (hI0 : INV N) (h1 : inI d9) (h2 : inI r9) : gM E l yX11_sell (.code yX11_sell cX11_sell 3 (some .int)) (rmk 11 60 600 420) [(2, x9), (0, d9), (0, r9)] Sh V z (gRk (fitC (bI ((1 ≤ d9 ∧ d9 ≤ 4) ∧ 1 ≤ r9 ∧ r9 ≤ 4)) 1 1) gxA "" "" (0, limZ (selN N d9 r9) d9 r9) (fun V' => XR x9 (selN N d9 r9) (kpP P9 cc9 N) (min (cc9 + 1) 6) Sh V' ∧ OUX x9 Sh V V') (fun V' => XR x9 N P9 cc9 Sh V' ∧ OUX x9 Sh V V') Sh) := by
  refine gM_at (L0 := [(2, x9), (0, d9), (0, r9)]) rfl rfl rfl ?_
  intro p e s m args below meth c hC hr hex hnm hz
  have hI := hI0.1
  have hsc := hI.1
  unfold iScal at hsc
  refine gB hC _ _ _ _ _ _ _ qX11_sell_0 rfl ?_
  refine g_chkS hC dX11_sell_3 mX11_34 sX11_checkWithin (kX11_checkWithin (by omega) (by omega) (by omega)) rfl rfl (Nat.le_of_ble_eq_true rfl) (RR rfl rfl rfl rfl) (fun z q3 => ?_) (fun z q3 => ?_)
  rotate_left
  · exact g_out hC hex ⟨rfl, Or.inr ⟨⟨hx, OUX.rfl' _ _ _⟩, (by first | exact Or.inl ⟨fl1 (fun h => by omega), rfl⟩ | exact Or.inr (Or.inl ⟨fl2 (by omega) (fun h => by omega), rfl⟩) | exact Or.inr (Or.inr ⟨fl3 (by omega) (by omega) (fun h => by omega), rfl⟩))⟩⟩ gs_rfl ⟨Nat.le_of_ble_eq_true rfl, Nat.le_of_ble_eq_true rfl⟩
  refine gB hC _ _ _ _ _ _ _ qX11_sell_6 rfl ?_
  refine g_chkS hC dX11_sell_9 mX11_34 sX11_checkWithin (kX11_checkWithin (by omega) (by omega) (by omega)) rfl rfl (Nat.le_of_ble_eq_true rfl) (RR rfl rfl rfl rfl) (fun z q9 => ?_) (fun z q9 => ?_)
  rotate_left
  · exact g_out hC hex ⟨rfl, Or.inr ⟨⟨hx, OUX.rfl' _ _ _⟩, (by first | exact Or.inl ⟨fl1 (fun h => by omega), rfl⟩ | exact Or.inr (Or.inl ⟨fl2 (by omega) (fun h => by omega), rfl⟩) | exact Or.inr (Or.inr ⟨fl3 (by omega) (by omega) (fun h => by omega), rfl⟩))⟩⟩ gs_rfl ⟨Nat.le_of_ble_eq_true rfl, Nat.le_of_ble_eq_true rfl⟩
  refine gB hC _ _ _ _ _ _ _ qX11_sell_12 rfl ?_
  refine g_getr hC dX11_sell_13 fX11_19 hx.sX (by decide) rfl 1 rfl hx.p1 ?_
  refine gB hC _ _ _ _ _ _ _ qX11_sell_16 rfl ?_
  refine g_getr hC dX11_sell_17 fX11_10 hx.sX (by decide) rfl 0 rfl hx.p0 ?_
  refine g_cV0e hC dX11_sell_20 mX11_47 vX1_keep (kX1_keep hx.sY hx.pY hx.hy hx.rh hI0 (by omega)) rfl hx.sY.1 (by decide) rfl (Nat.le_of_ble_eq_true rfl) (RR rfl rfl rfl rfl) (fun z V20 e20 => ?_)
  have hxk := XR_Y hx hI0 e20.1 e20.2.1 e20.2.2
  have houk := (OUX.rfl' x9 Sh V).yh e20.2.2
  refine gB hC _ _ _ _ _ _ _ qX11_sell_23 rfl ?_
  refine g_getr hC dX11_sell_24 fX11_10 hxk.sX (by decide) rfl 0 rfl hxk.p0 ?_
  refine g_getr hC dX11_sell_27 fX11_200 hxk.1.2.1.sH (by decide) rfl 14 rfl hxk.rh.2.1.p14 ?_
  refine gB hC _ _ _ _ _ _ _ qX11_sell_30 rfl ?_
  refine g_cV0m hC dX11_sell_32 mX11_204 vX6_begin (kX6_begin hxk.1.2.1.sA (by omega) (by omega)) rfl hxk.1.2.1.sA (by decide) rfl (Nat.le_of_ble_eq_true rfl) (RR rfl rfl rfl rfl) (fun z V32 e32 => ?_)
  have hxs := RH_sl hxk.rh hI0.szO e32
  have hoc : OUT (x9 + 1) V20 V32 := fun a ha => by rw [e32, rwV_ne (by omega)]
  have hx2 := XR_H hxk hxs hoc
  have hou2 := houk.ho hoc
  have hI2 : INV (selN N d9 r9) := sell_inv hI0 (by omega) (by omega)
  refine gB hC _ _ _ _ _ _ _ qX11_sell_35 rfl ?_
  refine g_getr hC dX11_sell_36 fX11_10 hx2.sX (by decide) rfl 0 rfl hx2.p0 ?_
  refine g_getr hC dX11_sell_39 fX11_184 hx2.1.2.1.sH (by decide) rfl 13 rfl hx2.rh.2.1.p13 ?_
  refine gB hC _ _ _ _ _ _ _ qX11_sell_42 rfl ?_
  refine g_cV1i hC dX11_sell_44 mX11_209 vX4_leastToTake (kX4_leastToTake hx2.rh hI2 (by omega) (by omega) (by omega) (by omega)) rfl hx2.1.2.1.sM (by decide) rfl (Nat.le_of_ble_eq_true rfl) (RR rfl rfl rfl rfl) (fun z i44 => ?_)
  refine g_ireturn hC dX11_sell_47 hr ⟨rfl, Or.inl ⟨fk1 (by omega), ?_, ?_, ?_⟩⟩ gs_rfl ⟨Nat.le_of_ble_eq_true rfl, Nat.le_of_ble_eq_true rfl⟩
  · rfl
  · exact hx2
  · exact hou2

theorem kX11_offer {E l Sh V z} {x9 cc9 : Int} {N : gN0} {P9 : Int → gN0} {p9 : Int} (hx : XR x9 N P9 cc9 Sh V) (hI0 : INV N) (h1 : inI p9) : gM E l yX11_offer (.code yX11_offer cX11_offer 2 (some .int)) (rmk 11 60 600 420) [(2, x9), (0, p9)] Sh V z (gRk (fitC (bI (0 ≤ p9 ∧ p9 ≤ 100000)) (bI (N 21 = 1 ∧ 0 < N 22)) 1) gxA gxS "" (0, if offC N p9 then N 24 + p9 else -1) (fun V' => XR x9 (if offC N p9 then offT N p9 else offN N p9) (kpP P9 cc9 N) (min (cc9 + 1) 6) Sh V' ∧ OUX x9 Sh V V') (fun V' => XR x9 N P9 cc9 Sh V' ∧ OUX x9 Sh V V') Sh) := by
  refine gM_at (L0 := [(2, x9), (0, p9)]) rfl rfl rfl ?_
  intro p e s m args below meth c hC hr hex hnm hz
  have hI := hI0.1
  have hsc := hI.1
  unfold iScal at hsc
  refine gB hC _ _ _ _ _ _ _ qX11_offer_0 rfl ?_
  refine g_ldc hC 100000 kX11_38 rfl dX11_offer_2 ?_
  refine g_chkS hC dX11_offer_4 mX11_34 sX11_checkWithin (kX11_checkWithin (by omega) (by omega) (by omega)) rfl rfl (Nat.le_of_ble_eq_true rfl) (RR rfl rfl rfl rfl) (fun z q4 => ?_) (fun z q4 => ?_)
  rotate_left
  · exact g_out hC hex ⟨rfl, Or.inr ⟨⟨hx, OUX.rfl' _ _ _⟩, (by first | exact Or.inl ⟨fl1 (fun h => by omega), rfl⟩ | exact Or.inr (Or.inl ⟨fl2 (by omega) (fun h => by omega), rfl⟩) | exact Or.inr (Or.inr ⟨fl3 (by omega) (by omega) (fun h => by omega), rfl⟩))⟩⟩ gs_rfl ⟨Nat.le_of_ble_eq_true rfl, Nat.le_of_ble_eq_true rfl⟩
  refine gB hC _ _ _ _ _ _ _ qX11_offer_7 rfl ?_
  refine g_getr hC dX11_offer_8 fX11_10 hx.sX (by decide) rfl 0 rfl hx.p0 ?_
  refine g_getr hC dX11_offer_11 fX11_200 hx.1.2.1.sH (by decide) rfl 14 rfl hx.rh.2.1.p14 ?_
  refine g_getzv hC dX11_offer_14 fX11_212 hx.1.2.1.sA (by decide) rfl 0 rfl hx.rh.a0 (fun i14 => ?_)
  refine g_if_eq hC 37 dX11_offer_17 rfl (by first | omega | exact cmpZ_in _ _ | exact bI_in _) (fun c17 => ?_) (fun c17 => ?_)
  · refine gB hC _ _ _ _ _ _ _ qX11_offer_37 rfl ?_
    refine g_chkS hC dX11_offer_38 mX11_43 sX11_checkState (kX11_checkState (by first | omega | exact bI_in _)) rfl rfl (Nat.le_of_ble_eq_true rfl) (RR rfl rfl rfl rfl) (fun z q38 => ?_) (fun z q38 => ?_)
    rotate_left
    · exact g_out hC hex ⟨rfl, Or.inr ⟨⟨hx, OUX.rfl' _ _ _⟩, (by first | exact Or.inl ⟨fl1 (fun h => by omega), rfl⟩ | exact Or.inr (Or.inl ⟨fl2 (by omega) (fun h => by omega), rfl⟩) | exact Or.inr (Or.inr ⟨fl3 (by omega) (by omega) (fun h => by omega), rfl⟩))⟩⟩ gs_rfl ⟨Nat.le_of_ble_eq_true rfl, Nat.le_of_ble_eq_true rfl⟩
    exact absurd rfl q38
  · refine gB hC _ _ _ _ _ _ _ qX11_offer_20 rfl ?_
    refine g_getr hC dX11_offer_21 fX11_10 hx.sX (by decide) rfl 0 rfl hx.p0 ?_
    refine g_getr hC dX11_offer_24 fX11_200 hx.1.2.1.sH (by decide) rfl 14 rfl hx.rh.2.1.p14 ?_
    refine g_getiv hC dX11_offer_27 fX11_216 hx.1.2.1.sA (by decide) rfl 1 rfl hx.rh.a1 (fun i27 => ?_)
    refine g_if_le hC 37 dX11_offer_30 rfl (by first | omega | exact cmpZ_in _ _ | exact bI_in _) (fun c30 => ?_) (fun c30 => ?_)
    · refine gB hC _ _ _ _ _ _ _ qX11_offer_37 rfl ?_
      refine g_chkS hC dX11_offer_38 mX11_43 sX11_checkState (kX11_checkState (by first | omega | exact bI_in _)) rfl rfl (Nat.le_of_ble_eq_true rfl) (RR rfl rfl rfl rfl) (fun z q38 => ?_) (fun z q38 => ?_)
      rotate_left
      · exact g_out hC hex ⟨rfl, Or.inr ⟨⟨hx, OUX.rfl' _ _ _⟩, (by first | exact Or.inl ⟨fl1 (fun h => by omega), rfl⟩ | exact Or.inr (Or.inl ⟨fl2 (by omega) (fun h => by omega), rfl⟩) | exact Or.inr (Or.inr ⟨fl3 (by omega) (by omega) (fun h => by omega), rfl⟩))⟩⟩ gs_rfl ⟨Nat.le_of_ble_eq_true rfl, Nat.le_of_ble_eq_true rfl⟩
      exact absurd rfl q38
    · refine gB hC _ _ _ _ _ _ _ qX11_offer_33 rfl ?_
      refine g_chkS hC dX11_offer_38 mX11_43 sX11_checkState (kX11_checkState (by first | omega | exact bI_in _)) rfl rfl (Nat.le_of_ble_eq_true rfl) (RR rfl rfl rfl rfl) (fun z q38 => ?_) (fun z q38 => ?_)
      rotate_left
      · exact g_out hC hex ⟨rfl, Or.inr ⟨⟨hx, OUX.rfl' _ _ _⟩, (by first | exact Or.inl ⟨fl1 (fun h => by omega), rfl⟩ | exact Or.inr (Or.inl ⟨fl2 (by omega) (fun h => by omega), rfl⟩) | exact Or.inr (Or.inr ⟨fl3 (by omega) (by omega) (fun h => by omega), rfl⟩))⟩⟩ gs_rfl ⟨Nat.le_of_ble_eq_true rfl, Nat.le_of_ble_eq_true rfl⟩
      refine gB hC _ _ _ _ _ _ _ qX11_offer_41 rfl ?_
      refine g_getr hC dX11_offer_42 fX11_19 hx.sX (by decide) rfl 1 rfl hx.p1 ?_
      refine gB hC _ _ _ _ _ _ _ qX11_offer_45 rfl ?_
      refine g_getr hC dX11_offer_46 fX11_10 hx.sX (by decide) rfl 0 rfl hx.p0 ?_
      refine g_cV0e hC dX11_offer_49 mX11_47 vX1_keep (kX1_keep hx.sY hx.pY hx.hy hx.rh hI0 (by omega)) rfl hx.sY.1 (by decide) rfl (Nat.le_of_ble_eq_true rfl) (RR rfl rfl rfl rfl) (fun z V49 e49 => ?_)
      have hxk := XR_Y hx hI0 e49.1 e49.2.1 e49.2.2
      have houk := (OUX.rfl' x9 Sh V).yh e49.2.2
      refine gB hC _ _ _ _ _ _ _ qX11_offer_52 rfl ?_
      refine g_getr hC dX11_offer_53 fX11_10 hxk.sX (by decide) rfl 0 rfl hxk.p0 ?_
      refine g_getr hC dX11_offer_56 fX11_200 hxk.1.2.1.sH (by decide) rfl 14 rfl hxk.rh.2.1.p14 ?_
      refine gB hC _ _ _ _ _ _ _ qX11_offer_59 rfl ?_
      refine g_getr hC dX11_offer_61 fX11_10 hxk.sX (by decide) rfl 0 rfl hxk.p0 ?_
      refine g_getr hC dX11_offer_64 fX11_184 hxk.1.2.1.sH (by decide) rfl 13 rfl hxk.rh.2.1.p13 ?_
      refine g_cV1e hC dX11_offer_67 mX11_219 vX6_take (kX6_take hxk.rh hI0 (by omega) (by omega) (by omega)) rfl hxk.1.2.1.sA (by decide) rfl (Nat.le_of_ble_eq_true rfl) (RR rfl rfl rfl rfl) (fun z V67 e67 => ?_)
      refine g_ireturn hC dX11_offer_70 hr ⟨rfl, Or.inl ⟨fk2 (by omega) (by omega), ?_, ?_, ?_⟩⟩ gs_rfl ⟨Nat.le_of_ble_eq_true rfl, Nat.le_of_ble_eq_true rfl⟩
      · rfl
      · exact XR_H hxk e67.1 e67.2
      · exact houk.ho e67.2

theorem kX11_undo {E l Sh V z} {x9 cc9 : Int} {N : gN0} {P9 : Int → gN0} (hx : XR x9 N P9 cc9 Sh V) (hI0 : INV N) : gM E l yX11_undo (.code yX11_undo cX11_undo 1 (some .int)) (rmk 11 60 600 420) [(2, x9)] Sh V z (gRe (some (0, cc9 - 1)) (fun V' => XR x9 (if cc9 = 0 then N else P9 (cc9 - 1)) P9 (if cc9 = 0 then 0 else cc9 - 1) Sh V' ∧ OUX x9 Sh V V') Sh) := by
  refine gM_at (L0 := [(2, x9)]) rfl rfl rfl ?_
  intro p e s m args below meth c hC hr hex hnm hz
  refine gB hC _ _ _ _ _ _ _ qX11_undo_0 rfl ?_
  refine g_getr hC dX11_undo_1 fX11_19 hx.sX (by decide) rfl 1 rfl hx.p1 ?_
  refine gB hC _ _ _ _ _ _ _ qX11_undo_4 rfl ?_
  refine g_getr hC dX11_undo_5 fX11_10 hx.sX (by decide) rfl 0 rfl hx.p0 ?_
  refine g_cV1e hC dX11_undo_8 mX11_223 vX1_takeBack (kX1_takeBack hx.sY hx.pY hx.hy hx.rh hI0 (by omega)) rfl hx.sY.1 (by decide) rfl (Nat.le_of_ble_eq_true rfl) (RR rfl rfl rfl rfl) (fun z V8 e8 => ?_)
  refine g_ireturn hC dX11_undo_11 hr ⟨rfl, rfl, ?_, ?_⟩ gs_rfl ⟨Nat.le_of_ble_eq_true rfl, Nat.le_of_ble_eq_true rfl⟩
  · exact XR_U hx e8.1 e8.2.1 e8.2.2.1 e8.2.2.2
  · exact OUX.of (fun a ha => e8.2.2.2 a (by omega) (by omega))

theorem fd1 {P1 P2 : Prop} [Decidable P1] [Decidable P2] (h : fitC (bI P1) (bI P2) 1 = 1) : ¬ P1 := fun p => by
  unfold fitC at h
  rw [if_neg (by rw [bI_t p]; decide)] at h
  split at h
  · cases h
  · split at h
    · cases h
    · cases h
theorem fd2 {P1 P2 : Prop} [Decidable P1] [Decidable P2] (h : fitC (bI P1) (bI P2) 1 = 2) : P1 ∧ ¬ P2 := by
  by_cases p : P1
  · refine ⟨p, fun q => ?_⟩
    rw [fk2 p q] at h
    cases h
  · rw [fl1 p] at h
    cases h
theorem fd0 {P1 P2 : Prop} [Decidable P1] [Decidable P2] (h : fitC (bI P1) (bI P2) 1 = 0) : P1 ∧ P2 := ⟨fit_p1 h, fit_p2 h⟩

theorem kX11_ask {E l Sh V z} {x9 cc9 : Int} {N : gN0} {P9 : Int → gN0} {k9 f9 n9 ad ch tl : Int} (hx : XR x9 N P9 cc9 Sh V) (hI0 : INV N) (h1 : inI k9) (h2 : inI f9) (h3 : inI n9) (h4 : inI ad) (h5 : inI ch) (h6 : inI tl) : gM E l yX11_ask (.code yX11_ask cX11_ask 9 (some .int)) (rmk 11 60 600 420) [(2, x9), (0, k9), (0, f9), (0, n9), (0, ad), (0, ch), (0, tl)] Sh V z (gRk (fitC (bI (0 ≤ k9 ∧ k9 ≤ N 1 - 1)) (bI (askC N f9 n9 ad ch ∧ tilC N tl f9)) (bI (N 5 < 60))) gxI gxA gxS (0, if rfd N k9 (dayZ f9) n9 = -1 then N 5 else -1) (fun V' => XR x9 (if rfd N k9 (dayZ f9) n9 = -1 then mkN N k9 (dayZ f9) n9 ad ch (dayZ tl) (-1) else upN N 8 (dateZ (rfd N k9 (dayZ f9) n9))) (kpP P9 cc9 N) (min (cc9 + 1) 6) Sh V' ∧ OUX x9 Sh V V') (fun V' => XR x9 N P9 cc9 Sh V' ∧ OUX x9 Sh V V') Sh) := by
  refine gM_at (L0 := [(2, x9), (0, k9), (0, f9), (0, n9), (0, ad), (0, ch), (0, tl), (9, 0), (9, 0)]) rfl rfl rfl ?_
  intro p e s m args below meth c hC hr hex hnm hz
  have hI := hI0.1
  have hsc := hI.1
  unfold iScal at hsc
  refine gB hC _ _ _ _ _ _ _ qX11_ask_0 rfl ?_
  refine g_callV hC _ dX11_ask_8 mX11_98 vX11_checkedWish (kX11_checkedWish hx hI0 (by omega) (by omega) (by omega) (by omega) (by omega)) rfl hx.sX (by decide) rfl (Nat.le_of_ble_eq_true rfl) (RR rfl rfl rfl rfl) (fun r0 S1 V1 z h => ?_) (fun X S1 V1 z h => ?_)
  rotate_left
  · rcases h with ⟨_, w, h2, _⟩ | ⟨rfl, rfl, ⟨qw, h2⟩ | ⟨qw, h2⟩⟩
    · cases h2
    · have qw := fd1 qw
      cases h2
      exact g_out hC hex ⟨rfl, Or.inr ⟨⟨hx, OUX.rfl' _ _ _⟩, (by first | exact Or.inl ⟨fl1 (fun h => by omega), rfl⟩ | exact Or.inr (Or.inl ⟨fl2 (by omega) (fun h => by omega), rfl⟩) | exact Or.inr (Or.inr ⟨fl3 (by omega) (by omega) (fun h => by omega), rfl⟩))⟩⟩ gs_rfl ⟨Nat.le_of_ble_eq_true rfl, Nat.le_of_ble_eq_true rfl⟩
    · have qw := fd2 qw
      cases h2
      exact g_out hC hex ⟨rfl, Or.inr ⟨⟨hx, OUX.rfl' _ _ _⟩, (by first | exact Or.inl ⟨fl1 (fun h => by omega), rfl⟩ | exact Or.inr (Or.inl ⟨fl2 (by omega) (fun h => by omega), rfl⟩) | exact Or.inr (Or.inr ⟨fl3 (by omega) (by omega) (fun h => by omega), rfl⟩))⟩⟩ gs_rfl ⟨Nat.le_of_ble_eq_true rfl, Nat.le_of_ble_eq_true rfl⟩
  rcases h with ⟨qw, w, h2, rfl, hwn, hwx, hwv, hwe⟩ | ⟨_, _, ⟨_, h2⟩ | ⟨_, h2⟩⟩
  rotate_left
  · cases h2
  · cases h2
  have qw := fd0 qw
  cases h2
  have hxw : XR x9 N P9 cc9 (shp Sh w (9, 0)) V1 := XR_new hx hI0 hwx hwe
  have hdf := dayZ_in f9
  refine gB hC _ _ _ _ _ _ _ qX11_ask_11 rfl ?_
  refine g_chkVY hC dX11_ask_18 mX11_102 vX11_checkedTill (kX11_checkedTill hxw hI0 (shp_eq _ _ _) hwv.2.1 (by omega) (by omega)) rfl hxw.sX (by decide) rfl (Nat.le_of_ble_eq_true rfl) (RR rfl rfl rfl rfl) (fun z q18 i18 => ?_) (fun z q18 => ?_)
  rotate_left
  · exact g_out hC hex ⟨rfl, Or.inr ⟨⟨XR_sh hxw hx.1, (OUX.rfl' _ _ _).nw hwn hwe⟩, (by first | exact Or.inl ⟨fl1 (fun h => by omega), rfl⟩ | exact Or.inr (Or.inl ⟨fl2 (by omega) (fun h => by omega), rfl⟩) | exact Or.inr (Or.inr ⟨fl3 (by omega) (by omega) (fun h => by omega), rfl⟩))⟩⟩ (fun a sh ha => ⟨(shp_ne _ _ (fun q => by rw [q, hwn] at ha; cases ha)).trans ha, fun _ => rfl⟩) ⟨Nat.le_of_ble_eq_true rfl, Nat.le_of_ble_eq_true rfl⟩
  refine gB hC _ _ _ _ _ _ _ qX11_ask_21 rfl ?_
  refine g_getr hC dX11_ask_24 fX11_10 hxw.sX (by decide) rfl 0 rfl hxw.p0 ?_
  refine g_getr hC dX11_ask_27 fX11_106 hxw.1.2.1.sH (by decide) rfl 11 rfl hxw.rh.2.1.p11 ?_
  refine g_getiv hC dX11_ask_30 fX11_110 hxw.1.2.1.sT (by decide) rfl 1 rfl hxw.rh.tS (fun i30 => ?_)
  refine gB hC _ _ _ _ _ _ _ qX11_ask_33 rfl ?_
  refine g_icmp_ge hC 42 dX11_ask_35 rfl (by first | omega | exact cmpZ_in _ _ | exact bI_in _) (by first | omega | exact cmpZ_in _ _ | exact bI_in _) (fun c35 => ?_) (fun c35 => ?_)
  · refine gB hC _ _ _ _ _ _ _ qX11_ask_42 rfl ?_
    refine g_chkS hC dX11_ask_43 mX11_43 sX11_checkState (kX11_checkState (by first | omega | exact bI_in _)) rfl rfl (Nat.le_of_ble_eq_true rfl) (RR rfl rfl rfl rfl) (fun z q43 => ?_) (fun z q43 => ?_)
    rotate_left
    · exact g_out hC hex ⟨rfl, Or.inr ⟨⟨XR_sh hxw hx.1, (OUX.rfl' _ _ _).nw hwn hwe⟩, (by first | exact Or.inl ⟨fl1 (fun h => by omega), rfl⟩ | exact Or.inr (Or.inl ⟨fl2 (by omega) (fun h => by omega), rfl⟩) | exact Or.inr (Or.inr ⟨fl3 (by omega) (by omega) (fun h => by omega), rfl⟩))⟩⟩ (fun a sh ha => ⟨(shp_ne _ _ (fun q => by rw [q, hwn] at ha; cases ha)).trans ha, fun _ => rfl⟩) ⟨Nat.le_of_ble_eq_true rfl, Nat.le_of_ble_eq_true rfl⟩
    exact absurd rfl q43
  · refine gB hC _ _ _ _ _ _ _ qX11_ask_38 rfl ?_
    refine g_chkS hC dX11_ask_43 mX11_43 sX11_checkState (kX11_checkState (by first | omega | exact bI_in _)) rfl rfl (Nat.le_of_ble_eq_true rfl) (RR rfl rfl rfl rfl) (fun z q43 => ?_) (fun z q43 => ?_)
    rotate_left
    · exact g_out hC hex ⟨rfl, Or.inr ⟨⟨XR_sh hxw hx.1, (OUX.rfl' _ _ _).nw hwn hwe⟩, (by first | exact Or.inl ⟨fl1 (fun h => by omega), rfl⟩ | exact Or.inr (Or.inl ⟨fl2 (by omega) (fun h => by omega), rfl⟩) | exact Or.inr (Or.inr ⟨fl3 (by omega) (by omega) (fun h => by omega), rfl⟩))⟩⟩ (fun a sh ha => ⟨(shp_ne _ _ (fun q => by rw [q, hwn] at ha; cases ha)).trans ha, fun _ => rfl⟩) ⟨Nat.le_of_ble_eq_true rfl, Nat.le_of_ble_eq_true rfl⟩
    refine gB hC _ _ _ _ _ _ _ qX11_ask_46 rfl ?_
    refine g_getr hC dX11_ask_47 fX11_19 hxw.sX (by decide) rfl 1 rfl hxw.p1 ?_
    refine gB hC _ _ _ _ _ _ _ qX11_ask_50 rfl ?_
    refine g_getr hC dX11_ask_51 fX11_10 hxw.sX (by decide) rfl 0 rfl hxw.p0 ?_
    refine g_cV0e hC dX11_ask_54 mX11_47 vX1_keep (kX1_keep hxw.sY hxw.pY hxw.hy hxw.rh hI0 (by omega)) rfl hxw.sY.1 (by decide) rfl (Nat.le_of_ble_eq_true rfl) (RR rfl rfl rfl rfl) (fun z V54 e54 => ?_)
    have hxk := XR_Y hxw hI0 e54.1 e54.2.1 e54.2.2
    have houk := ((OUX.rfl' x9 Sh V).nw hwn hwe).yh e54.2.2
    refine gB hC _ _ _ _ _ _ _ qX11_ask_57 rfl ?_
    refine g_getr hC dX11_ask_58 fX11_10 hxk.sX (by decide) rfl 0 rfl hxk.p0 ?_
    refine gB hC _ _ _ _ _ _ _ qX11_ask_61 rfl ?_
    refine g_cV1e hC dX11_ask_66 mX11_115 vX2_place (kX2_place hxk.rh hI0 (shp_eq _ _ _) ((congrFun (e54.2.2 w (by omega)) 0).trans hwv.1) ((congrFun (e54.2.2 w (by omega)) 1).trans hwv.2.1) ((congrFun (e54.2.2 w (by omega)) 2).trans hwv.2.2.1) ((congrFun (e54.2.2 w (by omega)) 3).trans hwv.2.2.2.1) ((congrFun (e54.2.2 w (by omega)) 4).trans hwv.2.2.2.2) (by unfold mkOk; omega)) rfl hxk.1.2.1.sH (by decide) rfl (Nat.le_of_ble_eq_true rfl) (RR rfl rfl rfl rfl) (fun z V66 e66 => ?_)
    refine g_ireturn hC dX11_ask_69 hr ⟨rfl, Or.inl ⟨fk3 (by omega) (by omega) (by omega), ?_, ?_, ?_⟩⟩ (fun a sh ha => ⟨(shp_ne _ _ (fun q => by rw [q, hwn] at ha; cases ha)).trans ha, fun _ => rfl⟩) ⟨Nat.le_of_ble_eq_true rfl, Nat.le_of_ble_eq_true rfl⟩
    · rfl
    · exact XR_sh (XR_H hxk e66.1 e66.2) hx.1
    · exact houk.ho e66.2

theorem kX11_waitFor {E l Sh V z} {x9 cc9 : Int} {N : gN0} {P9 : Int → gN0} {k9 f9 n9 ad ch : Int} (hx : XR x9 N P9 cc9 Sh V) (hI0 : INV N) (h1 : inI k9) (h2 : inI f9) (h3 : inI n9) (h4 : inI ad) (h5 : inI ch) : gM E l yX11_waitFor (.code yX11_waitFor cX11_waitFor 7 (some .int)) (rmk 11 60 600 420) [(2, x9), (0, k9), (0, f9), (0, n9), (0, ad), (0, ch)] Sh V z (gRk (fitC (bI (0 ≤ k9 ∧ k9 ≤ N 1 - 1)) (bI (askC N f9 n9 ad ch)) (bI (N 7 < 20))) gxI gxA gxS (0, N 7 + 1) (fun V' => XR x9 (waN N k9 (dayZ f9) n9 ad ch) (kpP P9 cc9 N) (min (cc9 + 1) 6) Sh V' ∧ OUX x9 Sh V V') (fun V' => XR x9 N P9 cc9 Sh V' ∧ OUX x9 Sh V V') Sh) := by
  refine gM_at (L0 := [(2, x9), (0, k9), (0, f9), (0, n9), (0, ad), (0, ch), (9, 0)]) rfl rfl rfl ?_
  intro p e s m args below meth c hC hr hex hnm hz
  have hI := hI0.1
  have hsc := hI.1
  unfold iScal at hsc
  refine gB hC _ _ _ _ _ _ _ qX11_waitFor_0 rfl ?_
  refine g_callV hC _ dX11_waitFor_8 mX11_98 vX11_checkedWish (kX11_checkedWish hx hI0 (by omega) (by omega) (by omega) (by omega) (by omega)) rfl hx.sX (by decide) rfl (Nat.le_of_ble_eq_true rfl) (RR rfl rfl rfl rfl) (fun r0 S1 V1 z h => ?_) (fun X S1 V1 z h => ?_)
  rotate_left
  · rcases h with ⟨_, w, h2, _⟩ | ⟨rfl, rfl, ⟨qw, h2⟩ | ⟨qw, h2⟩⟩
    · cases h2
    · have qw := fd1 qw
      cases h2
      exact g_out hC hex ⟨rfl, Or.inr ⟨⟨hx, OUX.rfl' _ _ _⟩, (by first | exact Or.inl ⟨fl1 (fun h => by omega), rfl⟩ | exact Or.inr (Or.inl ⟨fl2 (by omega) (fun h => by omega), rfl⟩) | exact Or.inr (Or.inr ⟨fl3 (by omega) (by omega) (fun h => by omega), rfl⟩))⟩⟩ gs_rfl ⟨Nat.le_of_ble_eq_true rfl, Nat.le_of_ble_eq_true rfl⟩
    · have qw := fd2 qw
      cases h2
      exact g_out hC hex ⟨rfl, Or.inr ⟨⟨hx, OUX.rfl' _ _ _⟩, (by first | exact Or.inl ⟨fl1 (fun h => by omega), rfl⟩ | exact Or.inr (Or.inl ⟨fl2 (by omega) (fun h => by omega), rfl⟩) | exact Or.inr (Or.inr ⟨fl3 (by omega) (by omega) (fun h => by omega), rfl⟩))⟩⟩ gs_rfl ⟨Nat.le_of_ble_eq_true rfl, Nat.le_of_ble_eq_true rfl⟩
  rcases h with ⟨qw, w, h2, rfl, hwn, hwx, hwv, hwe⟩ | ⟨_, _, ⟨_, h2⟩ | ⟨_, h2⟩⟩
  rotate_left
  · cases h2
  · cases h2
  have qw := fd0 qw
  cases h2
  have hxw : XR x9 N P9 cc9 (shp Sh w (9, 0)) V1 := XR_new hx hI0 hwx hwe
  have hdf := dayZ_in f9
  refine gB hC _ _ _ _ _ _ _ qX11_waitFor_11 rfl ?_
  refine g_getr hC dX11_waitFor_14 fX11_10 hxw.sX (by decide) rfl 0 rfl hxw.p0 ?_
  refine g_getiv hC dX11_waitFor_17 fX11_128 hxw.1.2.1.sH (by decide) rfl 4 rfl hxw.rh.t4 (fun i17 => ?_)
  refine gB hC _ _ _ _ _ _ _ qX11_waitFor_20 rfl ?_
  refine g_icmp_ge hC 29 dX11_waitFor_22 rfl (by first | omega | exact cmpZ_in _ _ | exact bI_in _) (by first | omega | exact cmpZ_in _ _ | exact bI_in _) (fun c22 => ?_) (fun c22 => ?_)
  · refine gB hC _ _ _ _ _ _ _ qX11_waitFor_29 rfl ?_
    refine g_chkS hC dX11_waitFor_30 mX11_43 sX11_checkState (kX11_checkState (by first | omega | exact bI_in _)) rfl rfl (Nat.le_of_ble_eq_true rfl) (RR rfl rfl rfl rfl) (fun z q30 => ?_) (fun z q30 => ?_)
    rotate_left
    · exact g_out hC hex ⟨rfl, Or.inr ⟨⟨XR_sh hxw hx.1, (OUX.rfl' _ _ _).nw hwn hwe⟩, (by first | exact Or.inl ⟨fl1 (fun h => by omega), rfl⟩ | exact Or.inr (Or.inl ⟨fl2 (by omega) (fun h => by omega), rfl⟩) | exact Or.inr (Or.inr ⟨fl3 (by omega) (by omega) (fun h => by omega), rfl⟩))⟩⟩ (fun a sh ha => ⟨(shp_ne _ _ (fun q => by rw [q, hwn] at ha; cases ha)).trans ha, fun _ => rfl⟩) ⟨Nat.le_of_ble_eq_true rfl, Nat.le_of_ble_eq_true rfl⟩
    exact absurd rfl q30
  · refine gB hC _ _ _ _ _ _ _ qX11_waitFor_25 rfl ?_
    refine g_chkS hC dX11_waitFor_30 mX11_43 sX11_checkState (kX11_checkState (by first | omega | exact bI_in _)) rfl rfl (Nat.le_of_ble_eq_true rfl) (RR rfl rfl rfl rfl) (fun z q30 => ?_) (fun z q30 => ?_)
    rotate_left
    · exact g_out hC hex ⟨rfl, Or.inr ⟨⟨XR_sh hxw hx.1, (OUX.rfl' _ _ _).nw hwn hwe⟩, (by first | exact Or.inl ⟨fl1 (fun h => by omega), rfl⟩ | exact Or.inr (Or.inl ⟨fl2 (by omega) (fun h => by omega), rfl⟩) | exact Or.inr (Or.inr ⟨fl3 (by omega) (by omega) (fun h => by omega), rfl⟩))⟩⟩ (fun a sh ha => ⟨(shp_ne _ _ (fun q => by rw [q, hwn] at ha; cases ha)).trans ha, fun _ => rfl⟩) ⟨Nat.le_of_ble_eq_true rfl, Nat.le_of_ble_eq_true rfl⟩
    refine gB hC _ _ _ _ _ _ _ qX11_waitFor_33 rfl ?_
    refine g_getr hC dX11_waitFor_34 fX11_19 hxw.sX (by decide) rfl 1 rfl hxw.p1 ?_
    refine gB hC _ _ _ _ _ _ _ qX11_waitFor_37 rfl ?_
    refine g_getr hC dX11_waitFor_38 fX11_10 hxw.sX (by decide) rfl 0 rfl hxw.p0 ?_
    refine g_cV0e hC dX11_waitFor_41 mX11_47 vX1_keep (kX1_keep hxw.sY hxw.pY hxw.hy hxw.rh hI0 (by omega)) rfl hxw.sY.1 (by decide) rfl (Nat.le_of_ble_eq_true rfl) (RR rfl rfl rfl rfl) (fun z V41 e41 => ?_)
    have hxk := XR_Y hxw hI0 e41.1 e41.2.1 e41.2.2
    have houk := ((OUX.rfl' x9 Sh V).nw hwn hwe).yh e41.2.2
    refine gB hC _ _ _ _ _ _ _ qX11_waitFor_44 rfl ?_
    refine g_getr hC dX11_waitFor_45 fX11_10 hxk.sX (by decide) rfl 0 rfl hxk.p0 ?_
    refine gB hC _ _ _ _ _ _ _ qX11_waitFor_48 rfl ?_
    refine g_cV1e hC dX11_waitFor_50 mX11_131 vX2_addGuest (kX2_addGuest hxk.rh hI0.szO (by omega) (by omega) (shp_eq _ _ _) ((congrFun (e41.2.2 w (by omega)) 0).trans hwv.1) ((congrFun (e41.2.2 w (by omega)) 1).trans hwv.2.1) ((congrFun (e41.2.2 w (by omega)) 2).trans hwv.2.2.1) ((congrFun (e41.2.2 w (by omega)) 3).trans hwv.2.2.2.1) ((congrFun (e41.2.2 w (by omega)) 4).trans hwv.2.2.2.2)) rfl hxk.1.2.1.sH (by decide) rfl (Nat.le_of_ble_eq_true rfl) (RR rfl rfl rfl rfl) (fun z V50 e50 => ?_)
    refine g_ireturn hC dX11_waitFor_53 hr ⟨rfl, Or.inl ⟨fk3 (by omega) (by omega) (by omega), ?_, ?_, ?_⟩⟩ (fun a sh ha => ⟨(shp_ne _ _ (fun q => by rw [q, hwn] at ha; cases ha)).trans ha, fun _ => rfl⟩) ⟨Nat.le_of_ble_eq_true rfl, Nat.le_of_ble_eq_true rfl⟩
    · rfl
    · exact XR_sh (XR_H hxk e50.1 e50.2) hx.1
    · exact houk.ho e50.2

theorem kX11_group {E l Sh V z} {x9 cc9 : Int} {N : gN0} {P9 : Int → gN0} {k9 st9 f9 n9 tl : Int} (hx : XR x9 N P9 cc9 Sh V) (hI0 : INV N) (h1 : inI k9) (h2 : inI st9) (h3 : inI f9) (h4 : inI n9) (h5 : inI tl) : gM E l yX11_group (.code yX11_group cX11_group 8 (some .int)) (rmk 11 60 600 420) [(2, x9), (0, k9), (0, st9), (0, f9), (0, n9), (0, tl)] Sh V z (gRk (fitC (bI (0 ≤ k9 ∧ k9 ≤ N 1 - 1)) (bI ((1 ≤ st9 ∧ st9 ≤ 6) ∧ askC N f9 n9 1 0 ∧ tilC N tl f9)) (bI (N 6 < 10 ∧ N 5 + st9 ≤ 60))) gxI gxA gxS (0, if (grT N k9 (dayZ f9) n9 (dayZ tl) (N 6) st9.toNat).2 = -1 then N 6 else -1) (fun V' => XR x9 (if (grT N k9 (dayZ f9) n9 (dayZ tl) (N 6) st9.toNat).2 = -1 then upN (grT N k9 (dayZ f9) n9 (dayZ tl) (N 6) st9.toNat).1 6 (N 6 + 1) else upN N 8 (dateZ (grT N k9 (dayZ f9) n9 (dayZ tl) (N 6) st9.toNat).2)) (kpP P9 cc9 N) (min (cc9 + 1) 6) Sh V' ∧ OUX x9 Sh V V') (fun V' => XR x9 N P9 cc9 Sh V' ∧ OUX x9 Sh V V') Sh) := by
  refine gM_at (L0 := [(2, x9), (0, k9), (0, st9), (0, f9), (0, n9), (0, tl), (9, 0), (9, 0)]) rfl rfl rfl ?_
  intro p e s m args below meth c hC hr hex hnm hz
  have hI := hI0.1
  have hsc := hI.1
  unfold iScal at hsc
  refine gB hC _ _ _ _ _ _ _ qX11_group_0 rfl ?_
  refine g_callV hC _ dX11_group_7 mX11_98 vX11_checkedWish (kX11_checkedWish hx hI0 (by omega) (by omega) (by omega) (by omega) (by omega)) rfl hx.sX (by decide) rfl (Nat.le_of_ble_eq_true rfl) (RR rfl rfl rfl rfl) (fun r0 S1 V1 z h => ?_) (fun X S1 V1 z h => ?_)
  rotate_left
  · rcases h with ⟨_, w, h2, _⟩ | ⟨rfl, rfl, ⟨qw, h2⟩ | ⟨qw, h2⟩⟩
    · cases h2
    · have qw := fd1 qw
      cases h2
      exact g_out hC hex ⟨rfl, Or.inr ⟨⟨hx, OUX.rfl' _ _ _⟩, (by first | exact Or.inl ⟨fl1 (fun h => by omega), rfl⟩ | exact Or.inr (Or.inl ⟨fl2 (by omega) (fun h => by omega), rfl⟩) | exact Or.inr (Or.inr ⟨fl3 (by omega) (by omega) (fun h => by omega), rfl⟩))⟩⟩ gs_rfl ⟨Nat.le_of_ble_eq_true rfl, Nat.le_of_ble_eq_true rfl⟩
    · have qw := fd2 qw
      cases h2
      exact g_out hC hex ⟨rfl, Or.inr ⟨⟨hx, OUX.rfl' _ _ _⟩, (by first | exact Or.inl ⟨fl1 (fun h => by omega), rfl⟩ | exact Or.inr (Or.inl ⟨fl2 (by omega) (fun h => by omega), rfl⟩) | exact Or.inr (Or.inr ⟨fl3 (by omega) (by omega) (fun h => by omega), rfl⟩))⟩⟩ gs_rfl ⟨Nat.le_of_ble_eq_true rfl, Nat.le_of_ble_eq_true rfl⟩
  rcases h with ⟨qw, w, h2, rfl, hwn, hwx, hwv, hwe⟩ | ⟨_, _, ⟨_, h2⟩ | ⟨_, h2⟩⟩
  rotate_left
  · cases h2
  · cases h2
  have qw := fd0 qw
  cases h2
  have hxw : XR x9 N P9 cc9 (shp Sh w (9, 0)) V1 := XR_new hx hI0 hwx hwe
  have hdf := dayZ_in f9
  refine gB hC _ _ _ _ _ _ _ qX11_group_10 rfl ?_
  refine g_chkVY hC dX11_group_17 mX11_102 vX11_checkedTill (kX11_checkedTill hxw hI0 (shp_eq _ _ _) hwv.2.1 (by omega) (by omega)) rfl hxw.sX (by decide) rfl (Nat.le_of_ble_eq_true rfl) (RR rfl rfl rfl rfl) (fun z q17 i17 => ?_) (fun z q17 => ?_)
  rotate_left
  · exact g_out hC hex ⟨rfl, Or.inr ⟨⟨XR_sh hxw hx.1, (OUX.rfl' _ _ _).nw hwn hwe⟩, (by first | exact Or.inl ⟨fl1 (fun h => by omega), rfl⟩ | exact Or.inr (Or.inl ⟨fl2 (by omega) (fun h => by omega), rfl⟩) | exact Or.inr (Or.inr ⟨fl3 (by omega) (by omega) (fun h => by omega), rfl⟩))⟩⟩ (fun a sh ha => ⟨(shp_ne _ _ (fun q => by rw [q, hwn] at ha; cases ha)).trans ha, fun _ => rfl⟩) ⟨Nat.le_of_ble_eq_true rfl, Nat.le_of_ble_eq_true rfl⟩
  refine gB hC _ _ _ _ _ _ _ qX11_group_20 rfl ?_
  refine g_chkS hC dX11_group_26 mX11_34 sX11_checkWithin (kX11_checkWithin (by omega) (by omega) (by omega)) rfl rfl (Nat.le_of_ble_eq_true rfl) (RR rfl rfl rfl rfl) (fun z q26 => ?_) (fun z q26 => ?_)
  rotate_left
  · exact g_out hC hex ⟨rfl, Or.inr ⟨⟨XR_sh hxw hx.1, (OUX.rfl' _ _ _).nw hwn hwe⟩, (by first | exact Or.inl ⟨fl1 (fun h => by omega), rfl⟩ | exact Or.inr (Or.inl ⟨fl2 (by omega) (fun h => by omega), rfl⟩) | exact Or.inr (Or.inr ⟨fl3 (by omega) (by omega) (fun h => by omega), rfl⟩))⟩⟩ (fun a sh ha => ⟨(shp_ne _ _ (fun q => by rw [q, hwn] at ha; cases ha)).trans ha, fun _ => rfl⟩) ⟨Nat.le_of_ble_eq_true rfl, Nat.le_of_ble_eq_true rfl⟩
  obtain ⟨m9, rfl⟩ : ∃ m9 : Nat, st9 = (m9 : Int) := ⟨st9.toNat, by omega⟩
  refine gB hC _ _ _ _ _ _ _ qX11_group_29 rfl ?_
  refine g_getr hC dX11_group_30 fX11_10 hxw.sX (by decide) rfl 0 rfl hxw.p0 ?_
  refine g_getiv hC dX11_group_33 fX11_119 hxw.1.2.1.sH (by decide) rfl 5 rfl hxw.rh.t5 (fun i33 => ?_)
  refine gB hC _ _ _ _ _ _ _ qX11_group_36 rfl ?_
  refine g_icmp_ge hC 62 dX11_group_38 rfl (by first | omega | exact cmpZ_in _ _ | exact bI_in _) (by first | omega | exact cmpZ_in _ _ | exact bI_in _) (fun c38 => ?_) (fun c38 => ?_)
  · refine gB hC _ _ _ _ _ _ _ qX11_group_62 rfl ?_
    refine g_chkS hC dX11_group_63 mX11_43 sX11_checkState (kX11_checkState (by first | omega | exact bI_in _)) rfl rfl (Nat.le_of_ble_eq_true rfl) (RR rfl rfl rfl rfl) (fun z q63 => ?_) (fun z q63 => ?_)
    rotate_left
    · exact g_out hC hex ⟨rfl, Or.inr ⟨⟨XR_sh hxw hx.1, (OUX.rfl' _ _ _).nw hwn hwe⟩, (by first | exact Or.inl ⟨fl1 (fun h => by omega), rfl⟩ | exact Or.inr (Or.inl ⟨fl2 (by omega) (fun h => by omega), rfl⟩) | exact Or.inr (Or.inr ⟨fl3 (by omega) (by omega) (fun h => by omega), rfl⟩))⟩⟩ (fun a sh ha => ⟨(shp_ne _ _ (fun q => by rw [q, hwn] at ha; cases ha)).trans ha, fun _ => rfl⟩) ⟨Nat.le_of_ble_eq_true rfl, Nat.le_of_ble_eq_true rfl⟩
    exact absurd rfl q63
  · refine gB hC _ _ _ _ _ _ _ qX11_group_41 rfl ?_
    refine g_getr hC dX11_group_42 fX11_10 hxw.sX (by decide) rfl 0 rfl hxw.p0 ?_
    refine g_getr hC dX11_group_45 fX11_106 hxw.1.2.1.sH (by decide) rfl 11 rfl hxw.rh.2.1.p11 ?_
    refine g_getiv hC dX11_group_48 fX11_110 hxw.1.2.1.sT (by decide) rfl 1 rfl hxw.rh.tS (fun i48 => ?_)
    refine gB hC _ _ _ _ _ _ _ qX11_group_51 rfl ?_
    refine g_icmp_gt hC 62 dX11_group_55 rfl (by first | omega | exact cmpZ_in _ _ | exact bI_in _) (by first | omega | exact cmpZ_in _ _ | exact bI_in _) (fun c55 => ?_) (fun c55 => ?_)
    · refine gB hC _ _ _ _ _ _ _ qX11_group_62 rfl ?_
      refine g_chkS hC dX11_group_63 mX11_43 sX11_checkState (kX11_checkState (by first | omega | exact bI_in _)) rfl rfl (Nat.le_of_ble_eq_true rfl) (RR rfl rfl rfl rfl) (fun z q63 => ?_) (fun z q63 => ?_)
      rotate_left
      · exact g_out hC hex ⟨rfl, Or.inr ⟨⟨XR_sh hxw hx.1, (OUX.rfl' _ _ _).nw hwn hwe⟩, (by first | exact Or.inl ⟨fl1 (fun h => by omega), rfl⟩ | exact Or.inr (Or.inl ⟨fl2 (by omega) (fun h => by omega), rfl⟩) | exact Or.inr (Or.inr ⟨fl3 (by omega) (by omega) (fun h => by omega), rfl⟩))⟩⟩ (fun a sh ha => ⟨(shp_ne _ _ (fun q => by rw [q, hwn] at ha; cases ha)).trans ha, fun _ => rfl⟩) ⟨Nat.le_of_ble_eq_true rfl, Nat.le_of_ble_eq_true rfl⟩
      exact absurd rfl q63
    · refine gB hC _ _ _ _ _ _ _ qX11_group_58 rfl ?_
      refine g_chkS hC dX11_group_63 mX11_43 sX11_checkState (kX11_checkState (by first | omega | exact bI_in _)) rfl rfl (Nat.le_of_ble_eq_true rfl) (RR rfl rfl rfl rfl) (fun z q63 => ?_) (fun z q63 => ?_)
      rotate_left
      · exact g_out hC hex ⟨rfl, Or.inr ⟨⟨XR_sh hxw hx.1, (OUX.rfl' _ _ _).nw hwn hwe⟩, (by first | exact Or.inl ⟨fl1 (fun h => by omega), rfl⟩ | exact Or.inr (Or.inl ⟨fl2 (by omega) (fun h => by omega), rfl⟩) | exact Or.inr (Or.inr ⟨fl3 (by omega) (by omega) (fun h => by omega), rfl⟩))⟩⟩ (fun a sh ha => ⟨(shp_ne _ _ (fun q => by rw [q, hwn] at ha; cases ha)).trans ha, fun _ => rfl⟩) ⟨Nat.le_of_ble_eq_true rfl, Nat.le_of_ble_eq_true rfl⟩
      refine gB hC _ _ _ _ _ _ _ qX11_group_66 rfl ?_
      refine g_getr hC dX11_group_67 fX11_19 hxw.sX (by decide) rfl 1 rfl hxw.p1 ?_
      refine gB hC _ _ _ _ _ _ _ qX11_group_70 rfl ?_
      refine g_getr hC dX11_group_71 fX11_10 hxw.sX (by decide) rfl 0 rfl hxw.p0 ?_
      refine g_cV0e hC dX11_group_74 mX11_47 vX1_keep (kX1_keep hxw.sY hxw.pY hxw.hy hxw.rh hI0 (by omega)) rfl hxw.sY.1 (by decide) rfl (Nat.le_of_ble_eq_true rfl) (RR rfl rfl rfl rfl) (fun z V74 e74 => ?_)
      have hxk := XR_Y hxw hI0 e74.1 e74.2.1 e74.2.2
      have houk := ((OUX.rfl' x9 Sh V).nw hwn hwe).yh e74.2.2
      refine gB hC _ _ _ _ _ _ _ qX11_group_77 rfl ?_
      refine g_getr hC dX11_group_78 fX11_10 hxk.sX (by decide) rfl 0 rfl hxk.p0 ?_
      refine gB hC _ _ _ _ _ _ _ qX11_group_81 rfl ?_
      refine g_cV1e hC dX11_group_86 mX11_122 vX2_placeGroup (kX2_placeGroup (m9 := m9) hxk.rh hI0 (shp_eq _ _ _) ((congrFun (e74.2.2 w (by omega)) 0).trans hwv.1) ((congrFun (e74.2.2 w (by omega)) 1).trans hwv.2.1) ((congrFun (e74.2.2 w (by omega)) 2).trans hwv.2.2.1) ((congrFun (e74.2.2 w (by omega)) 3).trans hwv.2.2.2.1) ((congrFun (e74.2.2 w (by omega)) 4).trans hwv.2.2.2.2) (by omega) (by omega) (by omega)) rfl hxk.1.2.1.sH (by decide) rfl (Nat.le_of_ble_eq_true rfl) (RR rfl rfl rfl rfl) (fun z V86 e86 => ?_)
      refine g_ireturn hC dX11_group_89 hr ⟨rfl, Or.inl ⟨fk3 (by omega) (by omega) (by omega), ?_, ?_, ?_⟩⟩ (fun a sh ha => ⟨(shp_ne _ _ (fun q => by rw [q, hwn] at ha; cases ha)).trans ha, fun _ => rfl⟩) ⟨Nat.le_of_ble_eq_true rfl, Nat.le_of_ble_eq_true rfl⟩
      · rfl
      · exact XR_sh (XR_H hxk e86.1 e86.2) hx.1
      · exact houk.ho e86.2

