/-! the class: what it changes (rows laid by wip/whole/n78.py) -/
theorem otT_eq (N : gN0) {s : Int} (h0 : 0 ≤ s) (h1 : s ≤ 3) : 1000 - rsT N 4 - N (13 + s) = otT N s 4 := by
  unfold rsT rsT rsT rsT rsT otT otT otT otT otT
  obtain rfl | rfl | rfl | rfl : s = 0 ∨ s = 1 ∨ s = 2 ∨ s = 3 := by omega
  all_goals simp
  all_goals omega
theorem XR_U {x c d : Int} {N M : gN0} {P : Int → gN0} {Sh : gSh} {V V1 : gV} (H : XR x N P c Sh V) (h1 : HY (x + 163) P d Sh V1) (h2 : ptY (x + 163) V1) (h3 : RH (x + 1) M Sh V1) (h4 : ∀ a, (a < x + 163 ∨ x + 163 + 974 ≤ a) → (a < x + 1 ∨ x + 1 + 162 ≤ a) → V1 a = V a) : XR x M P d Sh V1 := by
  obtain ⟨a1, ⟨⟨p0, p1, p2⟩, p3, p4, p5, p6⟩, a3, a4⟩ := H
  refine ⟨a1, ⟨⟨?_, ?_, ?_⟩, h2, ?_, ?_, ?_⟩, h3, h1⟩
  · rw [h4 x (by omega) (by omega)]; exact p0
  · rw [h4 x (by omega) (by omega)]; exact p1
  · rw [h4 x (by omega) (by omega)]; exact p2
  · rw [h4 _ (by omega) (by omega)]; exact p4
  · rw [h4 _ (by omega) (by omega)]; exact p5
  · rw [h4 _ (by omega) (by omega)]; exact p6

theorem kX11_closeNight {E l Sh V z} {x9 cc9 : Int} {N : gN0} {P9 : Int → gN0} {k9 d9 cl : Int} (hx : XR x9 N P9 cc9 Sh V) (hI0 : INV N) (hNi : ∀ j, 1596 ≤ j → j < 5022 → inI (N j)) (h1 : inI k9) (h2 : inI d9) (h3 : cl = 0 ∨ cl = 1) : gM E l yX11_closeNight (.code yX11_closeNight cX11_closeNight 5 (some .int)) (rmk 11 60 600 420) [(2, x9), (0, k9), (0, d9), (0, cl)] Sh V z (gRk (fitC (bI (0 ≤ k9 ∧ k9 ≤ N 1 - 1)) (bI (dayZ d9 ≠ -1)) 1) gxI gxA "" (0, if cl = 0 then (lk (clN N k9 (dayZ d9) cl)).2 else 0) (fun V' => XR x9 (if cl = 0 then (lk (clN N k9 (dayZ d9) cl)).1 else clN N k9 (dayZ d9) cl) (kpP P9 cc9 N) (min (cc9 + 1) 6) Sh V' ∧ OUX x9 Sh V V') (fun V' => XR x9 N P9 cc9 Sh V' ∧ OUX x9 Sh V V') Sh) := by
  refine gM_at (L0 := [(2, x9), (0, k9), (0, d9), (0, cl), (9, 0)]) rfl rfl rfl ?_
  intro p e s m args below meth c hC hr hex hnm hz
  have hI := hI0.1
  have hsc := hI.1
  unfold iScal at hsc
  refine gB hC _ _ _ _ _ _ _ qX11_closeNight_0 rfl ?_
  refine g_getr hC dX11_closeNight_2 fX11_10 hx.sX (by decide) rfl 0 rfl hx.p0 ?_
  refine g_getiv hC dX11_closeNight_5 fX11_39 hx.1.2.1.sH (by decide) rfl 2 rfl hx.rh.t2 (fun i5 => ?_)
  refine g_chkS hC dX11_closeNight_8 mX11_51 sX11_checkIndex (kX11_checkIndex (by omega) (by omega)) rfl rfl (Nat.le_of_ble_eq_true rfl) (RR rfl rfl rfl rfl) (fun z q8 => ?_) (fun z q8 => ?_)
  rotate_left
  · exact g_out hC hex ⟨rfl, Or.inr ⟨⟨hx, OUX.rfl' _ _ _⟩, (by first | exact Or.inl ⟨fl1 (fun h => by omega), rfl⟩ | exact Or.inr (Or.inl ⟨fl2 (by omega) (fun h => by omega), rfl⟩) | exact Or.inr (Or.inr ⟨fl3 (by omega) (by omega) (fun h => by omega), rfl⟩))⟩⟩ gs_rfl ⟨Nat.le_of_ble_eq_true rfl, Nat.le_of_ble_eq_true rfl⟩
  refine gB hC _ _ _ _ _ _ _ qX11_closeNight_11 rfl ?_
  refine g_chkY hC dX11_closeNight_12 mX11_55 sX11_checkedDay (kX11_checkedDay (by omega)) rfl rfl (Nat.le_of_ble_eq_true rfl) (RR rfl rfl rfl rfl) (fun z q12 i12 => ?_) (fun z q12 => ?_)
  rotate_left
  · exact g_out hC hex ⟨rfl, Or.inr ⟨⟨hx, OUX.rfl' _ _ _⟩, (by first | exact Or.inl ⟨fl1 (fun h => by omega), rfl⟩ | exact Or.inr (Or.inl ⟨fl2 (by omega) (fun h => by omega), rfl⟩) | exact Or.inr (Or.inr ⟨fl3 (by omega) (by omega) (fun h => by omega), rfl⟩))⟩⟩ gs_rfl ⟨Nat.le_of_ble_eq_true rfl, Nat.le_of_ble_eq_true rfl⟩
  have hdz12 := dayZ_in d9
  refine gB hC _ _ _ _ _ _ _ qX11_closeNight_15 rfl ?_
  refine g_getr hC dX11_closeNight_18 fX11_19 hx.sX (by decide) rfl 1 rfl hx.p1 ?_
  refine gB hC _ _ _ _ _ _ _ qX11_closeNight_21 rfl ?_
  refine g_getr hC dX11_closeNight_22 fX11_10 hx.sX (by decide) rfl 0 rfl hx.p0 ?_
  refine g_cV0e hC dX11_closeNight_25 mX11_47 vX1_keep (kX1_keep hx.sY hx.pY hx.hy hx.rh hI0 (by omega)) rfl hx.sY.1 (by decide) rfl (Nat.le_of_ble_eq_true rfl) (RR rfl rfl rfl rfl) (fun z V25 e25 => ?_)
  have hxk := XR_Y hx hI0 e25.1 e25.2.1 e25.2.2
  have houk := (OUX.rfl' x9 Sh V).yh e25.2.2
  refine gB hC _ _ _ _ _ _ _ qX11_closeNight_28 rfl ?_
  refine g_getr hC dX11_closeNight_29 fX11_10 hxk.sX (by decide) rfl 0 rfl hxk.p0 ?_
  refine g_getr hC dX11_closeNight_32 fX11_59 hxk.1.2.1.sH (by decide) rfl 8 rfl hxk.rh.2.1.p8 ?_
  refine gB hC _ _ _ _ _ _ _ qX11_closeNight_35 rfl ?_
  refine g_aald hC (j := 4) dX11_closeNight_36 hxk.1.2.1.sK (by decide) (hxk.rh.2.1.pk (by omega) (by omega)) (by omega) (by omega) (by decide) ?_
  refine gB hC _ _ _ _ _ _ _ qX11_closeNight_37 rfl ?_
  refine g_rngL (hxk.1.2.1.sc (k := k9) (by omega) (by omega)) (fun hrl => ?_)
  refine g_cV0m hC dX11_closeNight_40 mX11_63 vX3_setClosed (kX3_setClosed (hxk.1.2.1.sk (by omega) (by omega)) (hxk.1.2.1.sc (by omega) (by omega)) (hxk.rh.2.1.pc (by omega) (by omega)) (by omega) (by omega) h3) rfl (hxk.1.2.1.sk (by omega) (by omega)) (by decide) rfl (Nat.le_of_ble_eq_true rfl) (RR rfl rfl rfl rfl) (fun z V40 e40 => ?_)
  have hcl := RH_cl hxk.rh hI0.szO (k := k9) (d := dayZ d9) (cl := cl) (by omega) (by omega) (by omega) (by omega) h3 (hNi _ (by omega) (by omega)) (hrl _ (by omega) (by omega)) e40
  have hoc : OUT (x9 + 1) V25 V40 := by rw [e40]; exact (OUT.rfl' _ _).up (by omega)
  have hx2 := XR_H hxk hcl hoc
  have hou2 := houk.ho hoc
  have hI2 : INV (clN N k9 (dayZ d9) cl) := clN_inv hI0 (by omega) (by omega)
  refine gB hC _ _ _ _ _ _ _ qX11_closeNight_43 rfl ?_
  refine g_if_eq hC 51 dX11_closeNight_44 rfl (by first | omega | exact cmpZ_in _ _ | exact bI_in _) (fun c44 => ?_) (fun c44 => ?_)
  · refine gB hC _ _ _ _ _ _ _ qX11_closeNight_51 rfl ?_
    refine g_getr hC dX11_closeNight_52 fX11_10 hx2.sX (by decide) rfl 0 rfl hx2.p0 ?_
    refine g_cV1e hC dX11_closeNight_55 mX11_69 vX2_lookAtGuests (kX2_lookAtGuests hx2.rh hI2) rfl hx2.1.2.1.sH (by decide) rfl (Nat.le_of_ble_eq_true rfl) (RR rfl rfl rfl rfl) (fun z V55 e55 => ?_)
    refine g_ireturn hC dX11_closeNight_58 hr ⟨rfl, Or.inl ⟨fk2 (by omega) (by omega), ?_, ?_, ?_⟩⟩ gs_rfl ⟨Nat.le_of_ble_eq_true rfl, Nat.le_of_ble_eq_true rfl⟩
    · rw [if_pos (by omega)]
    · rw [if_pos (by omega)]; exact XR_H hx2 e55.1 e55.2
    · exact hou2.ho e55.2
  · refine gB hC _ _ _ _ _ _ _ qX11_closeNight_47 rfl ?_
    refine g_ireturn hC dX11_closeNight_58 hr ⟨rfl, Or.inl ⟨fk2 (by omega) (by omega), ?_, ?_, ?_⟩⟩ gs_rfl ⟨Nat.le_of_ble_eq_true rfl, Nat.le_of_ble_eq_true rfl⟩
    · rw [if_neg (by omega)]
    · rw [if_neg (by omega)]; exact hx2
    · exact hou2

theorem kX11_setExtra {E l Sh V z} {x9 cc9 : Int} {N : gN0} {P9 : Int → gN0} {k9 e9 : Int} (hx : XR x9 N P9 cc9 Sh V) (hI0 : INV N) (h1 : inI k9) (h2 : inI e9) : gM E l yX11_setExtra (.code yX11_setExtra cX11_setExtra 3 (some .int)) (rmk 11 60 600 420) [(2, x9), (0, k9), (0, e9)] Sh V z (gRk (fitC (bI (0 ≤ k9 ∧ k9 ≤ N 1 - 1)) (bI (0 ≤ e9 ∧ e9 ≤ 3)) 1) gxI gxA "" (0, (lk (upN N (31 + k9 * 3 + 2) e9)).2) (fun V' => XR x9 (lk (upN N (31 + k9 * 3 + 2) e9)).1 (kpP P9 cc9 N) (min (cc9 + 1) 6) Sh V' ∧ OUX x9 Sh V V') (fun V' => XR x9 N P9 cc9 Sh V' ∧ OUX x9 Sh V V') Sh) := by
  refine gM_at (L0 := [(2, x9), (0, k9), (0, e9)]) rfl rfl rfl ?_
  intro p e s m args below meth c hC hr hex hnm hz
  have hI := hI0.1
  have hsc := hI.1
  unfold iScal at hsc
  refine gB hC _ _ _ _ _ _ _ qX11_setExtra_0 rfl ?_
  refine g_getr hC dX11_setExtra_2 fX11_10 hx.sX (by decide) rfl 0 rfl hx.p0 ?_
  refine g_getiv hC dX11_setExtra_5 fX11_39 hx.1.2.1.sH (by decide) rfl 2 rfl hx.rh.t2 (fun i5 => ?_)
  refine g_chkS hC dX11_setExtra_8 mX11_51 sX11_checkIndex (kX11_checkIndex (by omega) (by omega)) rfl rfl (Nat.le_of_ble_eq_true rfl) (RR rfl rfl rfl rfl) (fun z q8 => ?_) (fun z q8 => ?_)
  rotate_left
  · exact g_out hC hex ⟨rfl, Or.inr ⟨⟨hx, OUX.rfl' _ _ _⟩, (by first | exact Or.inl ⟨fl1 (fun h => by omega), rfl⟩ | exact Or.inr (Or.inl ⟨fl2 (by omega) (fun h => by omega), rfl⟩) | exact Or.inr (Or.inr ⟨fl3 (by omega) (by omega) (fun h => by omega), rfl⟩))⟩⟩ gs_rfl ⟨Nat.le_of_ble_eq_true rfl, Nat.le_of_ble_eq_true rfl⟩
  refine gB hC _ _ _ _ _ _ _ qX11_setExtra_11 rfl ?_
  refine g_chkS hC dX11_setExtra_14 mX11_34 sX11_checkWithin (kX11_checkWithin (by omega) (by omega) (by omega)) rfl rfl (Nat.le_of_ble_eq_true rfl) (RR rfl rfl rfl rfl) (fun z q14 => ?_) (fun z q14 => ?_)
  rotate_left
  · exact g_out hC hex ⟨rfl, Or.inr ⟨⟨hx, OUX.rfl' _ _ _⟩, (by first | exact Or.inl ⟨fl1 (fun h => by omega), rfl⟩ | exact Or.inr (Or.inl ⟨fl2 (by omega) (fun h => by omega), rfl⟩) | exact Or.inr (Or.inr ⟨fl3 (by omega) (by omega) (fun h => by omega), rfl⟩))⟩⟩ gs_rfl ⟨Nat.le_of_ble_eq_true rfl, Nat.le_of_ble_eq_true rfl⟩
  refine gB hC _ _ _ _ _ _ _ qX11_setExtra_17 rfl ?_
  refine g_getr hC dX11_setExtra_18 fX11_19 hx.sX (by decide) rfl 1 rfl hx.p1 ?_
  refine gB hC _ _ _ _ _ _ _ qX11_setExtra_21 rfl ?_
  refine g_getr hC dX11_setExtra_22 fX11_10 hx.sX (by decide) rfl 0 rfl hx.p0 ?_
  refine g_cV0e hC dX11_setExtra_25 mX11_47 vX1_keep (kX1_keep hx.sY hx.pY hx.hy hx.rh hI0 (by omega)) rfl hx.sY.1 (by decide) rfl (Nat.le_of_ble_eq_true rfl) (RR rfl rfl rfl rfl) (fun z V25 e25 => ?_)
  have hxk := XR_Y hx hI0 e25.1 e25.2.1 e25.2.2
  have houk := (OUX.rfl' x9 Sh V).yh e25.2.2
  refine gB hC _ _ _ _ _ _ _ qX11_setExtra_28 rfl ?_
  refine g_getr hC dX11_setExtra_29 fX11_10 hxk.sX (by decide) rfl 0 rfl hxk.p0 ?_
  refine g_getr hC dX11_setExtra_32 fX11_59 hxk.1.2.1.sH (by decide) rfl 8 rfl hxk.rh.2.1.p8 ?_
  refine gB hC _ _ _ _ _ _ _ qX11_setExtra_35 rfl ?_
  refine g_aald hC (j := 4) dX11_setExtra_36 hxk.1.2.1.sK (by decide) (hxk.rh.2.1.pk (by omega) (by omega)) (by omega) (by omega) (by decide) ?_
  refine gB hC _ _ _ _ _ _ _ qX11_setExtra_37 rfl ?_
  refine g_puti hC dX11_setExtra_38 fX11_73 (hxk.1.2.1.sk (by omega) (by omega)) (by decide) rfl (fun _ h => by cases h; rfl) 2 rfl (by first | omega | exact cmpZ_in _ _ | exact bI_in _) (fun V38 e38 => ?_)
  have hx0 := RH_ex hxk.rh hI0.szO (k := k9) (by omega) (by omega) e38
  have hoc : OUT (x9 + 1) V25 V38 := by rw [e38]; exact (OUT.rfl' _ _).up (by omega)
  have hx2 := XR_H hxk hx0 hoc
  have hou2 := houk.ho hoc
  have hI2 : INV (upN N (31 + k9 * 3 + 2) e9) := InvC_x hI (by omega) (by omega) (by omega) (by omega) hI0
  refine gB hC _ _ _ _ _ _ _ qX11_setExtra_41 rfl ?_
  refine g_getr hC dX11_setExtra_42 fX11_10 hxk.sX (by decide) rfl 0 rfl ((congrFun (congrFun e38 _) _).trans ((up_ne _ _ (by omega)).trans hxk.p0)) ?_
  refine g_cV1e hC dX11_setExtra_45 mX11_69 vX2_lookAtGuests (kX2_lookAtGuests hx2.rh hI2) rfl hxk.1.2.1.sH (by decide) rfl (Nat.le_of_ble_eq_true rfl) (RR rfl rfl rfl rfl) (fun z V45 e45 => ?_)
  refine g_ireturn hC dX11_setExtra_48 hr ⟨rfl, Or.inl ⟨fk2 (by omega) (by omega), ?_, ?_, ?_⟩⟩ gs_rfl ⟨Nat.le_of_ble_eq_true rfl, Nat.le_of_ble_eq_true rfl⟩
  · rfl
  · exact XR_H hx2 e45.1 e45.2
  · exact hou2.ho e45.2

theorem kX11_addSeason {E l Sh V z} {x9 cc9 : Int} {N : gN0} {P9 : Int → gN0} {fa fb pe le9 : Int} (hx : XR x9 N P9 cc9 Sh V) (hI0 : INV N) (h1 : inI fa) (h2 : inI fb) (h3 : inI pe) (h4 : inI le9) : gM E l yX11_addSeason (.code yX11_addSeason cX11_addSeason 5 (some .int)) (rmk 11 60 600 420) [(2, x9), (0, fa), (0, fb), (0, pe), (0, le9)] Sh V z (gRk (fitC (bI ((0 < fa ∧ fa < 10000 ∧ dayZ (20000000 + fa) ≠ -1) ∧ (0 < fb ∧ fb < 10000 ∧ dayZ (20000000 + fb) ≠ -1) ∧ (-50 ≤ pe ∧ pe ≤ 100) ∧ 1 ≤ le9 ∧ le9 ≤ 7)) (bI (N 2 < 4)) 1) gxA gxS "" (0, N 2) (fun V' => XR x9 (upN (upN (upN (upN (upN N (40 + N 2 * 4) fa) (40 + N 2 * 4 + 1) fb) (40 + N 2 * 4 + 2) pe) (40 + N 2 * 4 + 3) le9) 2 (N 2 + 1)) (kpP P9 cc9 N) (min (cc9 + 1) 6) Sh V' ∧ OUX x9 Sh V V') (fun V' => XR x9 N P9 cc9 Sh V' ∧ OUX x9 Sh V V') Sh) := by
  refine gM_at (L0 := [(2, x9), (0, fa), (0, fb), (0, pe), (0, le9)]) rfl rfl rfl ?_
  intro p e s m args below meth c hC hr hex hnm hz
  have hI := hI0.1
  have hsc := hI.1
  unfold iScal at hsc
  refine gB hC _ _ _ _ _ _ _ qX11_addSeason_0 rfl ?_
  refine g_cS1 hC dX11_addSeason_1 mX11_76 sX0_isDayOfYear (kX0_isDayOfYear (by omega)) rfl rfl (Nat.le_of_ble_eq_true rfl) (RR rfl rfl rfl rfl) (fun z => ?_)
  refine g_if_eq hC 18 dX11_addSeason_4 rfl (by first | omega | exact cmpZ_in _ _ | exact bI_in _) (fun c4 => ?_) (fun c4 => ?_)
  · have c4 := bI_0.mp c4
    refine gB hC _ _ _ _ _ _ _ qX11_addSeason_18 rfl ?_
    refine g_chkS hC dX11_addSeason_19 mX11_82 sX11_checkArgument (kX11_checkArgument (by first | omega | exact bI_in _)) rfl rfl (Nat.le_of_ble_eq_true rfl) (RR rfl rfl rfl rfl) (fun z q19 => ?_) (fun z q19 => ?_)
    rotate_left
    · exact g_out hC hex ⟨rfl, Or.inr ⟨⟨hx, OUX.rfl' _ _ _⟩, (by first | exact Or.inl ⟨fl1 (fun h => by omega), rfl⟩ | exact Or.inr (Or.inl ⟨fl2 (by omega) (fun h => by omega), rfl⟩) | exact Or.inr (Or.inr ⟨fl3 (by omega) (by omega) (fun h => by omega), rfl⟩))⟩⟩ gs_rfl ⟨Nat.le_of_ble_eq_true rfl, Nat.le_of_ble_eq_true rfl⟩
    exact absurd rfl q19
  · have c4 := bI_n0.mp c4
    refine gB hC _ _ _ _ _ _ _ qX11_addSeason_7 rfl ?_
    refine g_cS1 hC dX11_addSeason_8 mX11_76 sX0_isDayOfYear (kX0_isDayOfYear (by omega)) rfl rfl (Nat.le_of_ble_eq_true rfl) (RR rfl rfl rfl rfl) (fun z => ?_)
    refine g_if_eq hC 18 dX11_addSeason_11 rfl (by first | omega | exact cmpZ_in _ _ | exact bI_in _) (fun c11 => ?_) (fun c11 => ?_)
    · have c11 := bI_0.mp c11
      refine gB hC _ _ _ _ _ _ _ qX11_addSeason_18 rfl ?_
      refine g_chkS hC dX11_addSeason_19 mX11_82 sX11_checkArgument (kX11_checkArgument (by first | omega | exact bI_in _)) rfl rfl (Nat.le_of_ble_eq_true rfl) (RR rfl rfl rfl rfl) (fun z q19 => ?_) (fun z q19 => ?_)
      rotate_left
      · exact g_out hC hex ⟨rfl, Or.inr ⟨⟨hx, OUX.rfl' _ _ _⟩, (by first | exact Or.inl ⟨fl1 (fun h => by omega), rfl⟩ | exact Or.inr (Or.inl ⟨fl2 (by omega) (fun h => by omega), rfl⟩) | exact Or.inr (Or.inr ⟨fl3 (by omega) (by omega) (fun h => by omega), rfl⟩))⟩⟩ gs_rfl ⟨Nat.le_of_ble_eq_true rfl, Nat.le_of_ble_eq_true rfl⟩
      exact absurd rfl q19
    · have c11 := bI_n0.mp c11
      refine gB hC _ _ _ _ _ _ _ qX11_addSeason_14 rfl ?_
      refine g_chkS hC dX11_addSeason_19 mX11_82 sX11_checkArgument (kX11_checkArgument (by first | omega | exact bI_in _)) rfl rfl (Nat.le_of_ble_eq_true rfl) (RR rfl rfl rfl rfl) (fun z q19 => ?_) (fun z q19 => ?_)
      rotate_left
      · exact g_out hC hex ⟨rfl, Or.inr ⟨⟨hx, OUX.rfl' _ _ _⟩, (by first | exact Or.inl ⟨fl1 (fun h => by omega), rfl⟩ | exact Or.inr (Or.inl ⟨fl2 (by omega) (fun h => by omega), rfl⟩) | exact Or.inr (Or.inr ⟨fl3 (by omega) (by omega) (fun h => by omega), rfl⟩))⟩⟩ gs_rfl ⟨Nat.le_of_ble_eq_true rfl, Nat.le_of_ble_eq_true rfl⟩
      refine gB hC _ _ _ _ _ _ _ qX11_addSeason_22 rfl ?_
      refine g_chkS hC dX11_addSeason_27 mX11_34 sX11_checkWithin (kX11_checkWithin (by omega) (by omega) (by omega)) rfl rfl (Nat.le_of_ble_eq_true rfl) (RR rfl rfl rfl rfl) (fun z q27 => ?_) (fun z q27 => ?_)
      rotate_left
      · exact g_out hC hex ⟨rfl, Or.inr ⟨⟨hx, OUX.rfl' _ _ _⟩, (by first | exact Or.inl ⟨fl1 (fun h => by omega), rfl⟩ | exact Or.inr (Or.inl ⟨fl2 (by omega) (fun h => by omega), rfl⟩) | exact Or.inr (Or.inr ⟨fl3 (by omega) (by omega) (fun h => by omega), rfl⟩))⟩⟩ gs_rfl ⟨Nat.le_of_ble_eq_true rfl, Nat.le_of_ble_eq_true rfl⟩
      refine gB hC _ _ _ _ _ _ _ qX11_addSeason_30 rfl ?_
      refine g_chkS hC dX11_addSeason_35 mX11_34 sX11_checkWithin (kX11_checkWithin (by omega) (by omega) (by omega)) rfl rfl (Nat.le_of_ble_eq_true rfl) (RR rfl rfl rfl rfl) (fun z q35 => ?_) (fun z q35 => ?_)
      rotate_left
      · exact g_out hC hex ⟨rfl, Or.inr ⟨⟨hx, OUX.rfl' _ _ _⟩, (by first | exact Or.inl ⟨fl1 (fun h => by omega), rfl⟩ | exact Or.inr (Or.inl ⟨fl2 (by omega) (fun h => by omega), rfl⟩) | exact Or.inr (Or.inr ⟨fl3 (by omega) (by omega) (fun h => by omega), rfl⟩))⟩⟩ gs_rfl ⟨Nat.le_of_ble_eq_true rfl, Nat.le_of_ble_eq_true rfl⟩
      refine gB hC _ _ _ _ _ _ _ qX11_addSeason_38 rfl ?_
      refine g_getr hC dX11_addSeason_39 fX11_10 hx.sX (by decide) rfl 0 rfl hx.p0 ?_
      refine g_getiv hC dX11_addSeason_42 fX11_85 hx.1.2.1.sH (by decide) rfl 3 rfl hx.rh.t3 (fun i42 => ?_)
      refine gB hC _ _ _ _ _ _ _ qX11_addSeason_45 rfl ?_
      refine g_icmp_ge hC 53 dX11_addSeason_46 rfl (by first | omega | exact cmpZ_in _ _ | exact bI_in _) (by first | omega | exact cmpZ_in _ _ | exact bI_in _) (fun c46 => ?_) (fun c46 => ?_)
      · refine gB hC _ _ _ _ _ _ _ qX11_addSeason_53 rfl ?_
        refine g_chkS hC dX11_addSeason_54 mX11_43 sX11_checkState (kX11_checkState (by first | omega | exact bI_in _)) rfl rfl (Nat.le_of_ble_eq_true rfl) (RR rfl rfl rfl rfl) (fun z q54 => ?_) (fun z q54 => ?_)
        rotate_left
        · exact g_out hC hex ⟨rfl, Or.inr ⟨⟨hx, OUX.rfl' _ _ _⟩, (by first | exact Or.inl ⟨fl1 (fun h => by omega), rfl⟩ | exact Or.inr (Or.inl ⟨fl2 (by omega) (fun h => by omega), rfl⟩) | exact Or.inr (Or.inr ⟨fl3 (by omega) (by omega) (fun h => by omega), rfl⟩))⟩⟩ gs_rfl ⟨Nat.le_of_ble_eq_true rfl, Nat.le_of_ble_eq_true rfl⟩
        exact absurd rfl q54
      · refine gB hC _ _ _ _ _ _ _ qX11_addSeason_49 rfl ?_
        refine g_chkS hC dX11_addSeason_54 mX11_43 sX11_checkState (kX11_checkState (by first | omega | exact bI_in _)) rfl rfl (Nat.le_of_ble_eq_true rfl) (RR rfl rfl rfl rfl) (fun z q54 => ?_) (fun z q54 => ?_)
        rotate_left
        · exact g_out hC hex ⟨rfl, Or.inr ⟨⟨hx, OUX.rfl' _ _ _⟩, (by first | exact Or.inl ⟨fl1 (fun h => by omega), rfl⟩ | exact Or.inr (Or.inl ⟨fl2 (by omega) (fun h => by omega), rfl⟩) | exact Or.inr (Or.inr ⟨fl3 (by omega) (by omega) (fun h => by omega), rfl⟩))⟩⟩ gs_rfl ⟨Nat.le_of_ble_eq_true rfl, Nat.le_of_ble_eq_true rfl⟩
        refine gB hC _ _ _ _ _ _ _ qX11_addSeason_57 rfl ?_
        refine g_getr hC dX11_addSeason_58 fX11_19 hx.sX (by decide) rfl 1 rfl hx.p1 ?_
        refine gB hC _ _ _ _ _ _ _ qX11_addSeason_61 rfl ?_
        refine g_getr hC dX11_addSeason_62 fX11_10 hx.sX (by decide) rfl 0 rfl hx.p0 ?_
        refine g_cV0e hC dX11_addSeason_65 mX11_47 vX1_keep (kX1_keep hx.sY hx.pY hx.hy hx.rh hI0 (by omega)) rfl hx.sY.1 (by decide) rfl (Nat.le_of_ble_eq_true rfl) (RR rfl rfl rfl rfl) (fun z V65 e65 => ?_)
        have hxk := XR_Y hx hI0 e65.1 e65.2.1 e65.2.2
        have houk := (OUX.rfl' x9 Sh V).yh e65.2.2
        refine gB hC _ _ _ _ _ _ _ qX11_addSeason_68 rfl ?_
        refine g_getr hC dX11_addSeason_69 fX11_10 hxk.sX (by decide) rfl 0 rfl hxk.p0 ?_
        refine gB hC _ _ _ _ _ _ _ qX11_addSeason_72 rfl ?_
        refine g_cV1e hC dX11_addSeason_77 mX11_88 vX2_addSeasonRow (kX2_addSeasonRow hxk.rh hI0.szO (by omega) (by omega) (by omega) (by omega) (by omega) (by omega)) rfl hxk.1.2.1.sH (by decide) rfl (Nat.le_of_ble_eq_true rfl) (RR rfl rfl rfl rfl) (fun z V77 e77 => ?_)
        refine g_ireturn hC dX11_addSeason_80 hr ⟨rfl, Or.inl ⟨fk2 (by omega) (by omega), ?_, ?_, ?_⟩⟩ gs_rfl ⟨Nat.le_of_ble_eq_true rfl, Nat.le_of_ble_eq_true rfl⟩
        · rfl
        · exact XR_H hxk e77.1 e77.2
        · exact houk.ho e77.2

theorem kX11_setWeekend {E l Sh V z} {x9 cc9 : Int} {N : gN0} {P9 : Int → gN0} {a9 b9 : Int} (hx : XR x9 N P9 cc9 Sh V) (hI0 : INV N) (h1 : inI a9) (h2 : inI b9) : gM E l yX11_setWeekend (.code yX11_setWeekend cX11_setWeekend 4 (some .int)) (rmk 11 60 600 420) [(2, x9), (0, a9), (0, b9)] Sh V z (gRk (fitC (bI ((0 ≤ a9 ∧ a9 ≤ 100) ∧ 0 ≤ b9 ∧ b9 ≤ 1000)) 1 1) gxA "" "" (0, N 4) (fun V' => XR x9 (upN (upN N 3 a9) 4 b9) (kpP P9 cc9 N) (min (cc9 + 1) 6) Sh V' ∧ OUX x9 Sh V V') (fun V' => XR x9 N P9 cc9 Sh V' ∧ OUX x9 Sh V V') Sh) := by
  refine gM_at (L0 := [(2, x9), (0, a9), (0, b9), (9, 0)]) rfl rfl rfl ?_
  intro p e s m args below meth c hC hr hex hnm hz
  have hI := hI0.1
  have hsc := hI.1
  unfold iScal at hsc
  refine gB hC _ _ _ _ _ _ _ qX11_setWeekend_0 rfl ?_
  refine g_chkS hC dX11_setWeekend_4 mX11_34 sX11_checkWithin (kX11_checkWithin (by omega) (by omega) (by omega)) rfl rfl (Nat.le_of_ble_eq_true rfl) (RR rfl rfl rfl rfl) (fun z q4 => ?_) (fun z q4 => ?_)
  rotate_left
  · exact g_out hC hex ⟨rfl, Or.inr ⟨⟨hx, OUX.rfl' _ _ _⟩, (by first | exact Or.inl ⟨fl1 (fun h => by omega), rfl⟩ | exact Or.inr (Or.inl ⟨fl2 (by omega) (fun h => by omega), rfl⟩) | exact Or.inr (Or.inr ⟨fl3 (by omega) (by omega) (fun h => by omega), rfl⟩))⟩⟩ gs_rfl ⟨Nat.le_of_ble_eq_true rfl, Nat.le_of_ble_eq_true rfl⟩
  refine gB hC _ _ _ _ _ _ _ qX11_setWeekend_7 rfl ?_
  refine g_chkS hC dX11_setWeekend_12 mX11_34 sX11_checkWithin (kX11_checkWithin (by omega) (by omega) (by omega)) rfl rfl (Nat.le_of_ble_eq_true rfl) (RR rfl rfl rfl rfl) (fun z q12 => ?_) (fun z q12 => ?_)
  rotate_left
  · exact g_out hC hex ⟨rfl, Or.inr ⟨⟨hx, OUX.rfl' _ _ _⟩, (by first | exact Or.inl ⟨fl1 (fun h => by omega), rfl⟩ | exact Or.inr (Or.inl ⟨fl2 (by omega) (fun h => by omega), rfl⟩) | exact Or.inr (Or.inr ⟨fl3 (by omega) (by omega) (fun h => by omega), rfl⟩))⟩⟩ gs_rfl ⟨Nat.le_of_ble_eq_true rfl, Nat.le_of_ble_eq_true rfl⟩
  refine gB hC _ _ _ _ _ _ _ qX11_setWeekend_15 rfl ?_
  refine g_getr hC dX11_setWeekend_16 fX11_19 hx.sX (by decide) rfl 1 rfl hx.p1 ?_
  refine gB hC _ _ _ _ _ _ _ qX11_setWeekend_19 rfl ?_
  refine g_getr hC dX11_setWeekend_20 fX11_10 hx.sX (by decide) rfl 0 rfl hx.p0 ?_
  refine g_cV0e hC dX11_setWeekend_23 mX11_47 vX1_keep (kX1_keep hx.sY hx.pY hx.hy hx.rh hI0 (by omega)) rfl hx.sY.1 (by decide) rfl (Nat.le_of_ble_eq_true rfl) (RR rfl rfl rfl rfl) (fun z V23 e23 => ?_)
  have hxk := XR_Y hx hI0 e23.1 e23.2.1 e23.2.2
  have houk := (OUX.rfl' x9 Sh V).yh e23.2.2
  refine gB hC _ _ _ _ _ _ _ qX11_setWeekend_26 rfl ?_
  refine g_getr hC dX11_setWeekend_27 fX11_10 hxk.sX (by decide) rfl 0 rfl hxk.p0 ?_
  refine g_getiv hC dX11_setWeekend_30 fX11_92 hxk.1.2.1.sH (by decide) rfl 7 rfl hxk.rh.t7 (fun i30 => ?_)
  refine gB hC _ _ _ _ _ _ _ qX11_setWeekend_33 rfl ?_
  refine g_getr hC dX11_setWeekend_35 fX11_10 hxk.sX (by decide) rfl 0 rfl hxk.p0 ?_
  refine gB hC _ _ _ _ _ _ _ qX11_setWeekend_38 rfl ?_
  refine g_puti hC dX11_setWeekend_39 fX11_95 hxk.1.2.1.sH (by decide) rfl (fun _ h => by cases h; rfl) 6 rfl (by first | omega | exact cmpZ_in _ _ | exact bI_in _) (fun V39 e39 => ?_)
  refine gB hC _ _ _ _ _ _ _ qX11_setWeekend_42 rfl ?_
  refine g_getr hC dX11_setWeekend_43 fX11_10 hxk.sX (by decide) rfl 0 rfl ((congrFun (congrFun e39 _) _).trans ((up_ne _ _ (by omega)).trans hxk.p0)) ?_
  refine gB hC _ _ _ _ _ _ _ qX11_setWeekend_46 rfl ?_
  refine g_puti hC dX11_setWeekend_47 fX11_92 hxk.1.2.1.sH (by decide) rfl (fun _ h => by cases h; rfl) 7 rfl (by first | omega | exact cmpZ_in _ _ | exact bI_in _) (fun V47 e47 => ?_)
  refine gB hC _ _ _ _ _ _ _ qX11_setWeekend_50 rfl ?_
  refine g_ireturn hC dX11_setWeekend_51 hr ⟨rfl, Or.inl ⟨fk1 (by omega), ?_, ?_, ?_⟩⟩ gs_rfl ⟨Nat.le_of_ble_eq_true rfl, Nat.le_of_ble_eq_true rfl⟩
  · rfl
  · exact XR_H hxk (RH_sw hxk.rh hI0.szO (by rw [e47, e39])) (by rw [e47, e39]; exact ((OUT.rfl' _ _).up (by omega)).up (by omega))
  · refine houk.ho ?_
    rw [e47, e39]; exact ((OUT.rfl' _ _).up (by omega)).up (by omega)

theorem kX11_letGo {E l Sh V z} {x9 cc9 : Int} {N : gN0} {P9 : Int → gN0} {g9 : Int} (hx : XR x9 N P9 cc9 Sh V) (hI0 : INV N) (h1 : inI g9) : gM E l yX11_letGo (.code yX11_letGo cX11_letGo 3 (some .int)) (rmk 11 60 600 420) [(2, x9), (0, g9)] Sh V z (gRk (fitC (bI (0 ≤ g9 ∧ g9 ≤ N 6 - 1)) 1 1) gxI "" "" (0, (lgS N g9 (N 5).toNat).2) (fun V' => XR x9 (lk (lgS N g9 (N 5).toNat).1).1 (kpP P9 cc9 N) (min (cc9 + 1) 6) Sh V' ∧ OUX x9 Sh V V') (fun V' => XR x9 N P9 cc9 Sh V' ∧ OUX x9 Sh V V') Sh) := by
  refine gM_at (L0 := [(2, x9), (0, g9), (9, 0)]) rfl rfl rfl ?_
  intro p e s m args below meth c hC hr hex hnm hz
  have hI := hI0.1
  have hsc := hI.1
  unfold iScal at hsc
  have hlg := lgS_inv (g := g9) hI0 (N 5).toNat (by omega)
  refine gB hC _ _ _ _ _ _ _ qX11_letGo_0 rfl ?_
  refine g_getr hC dX11_letGo_2 fX11_10 hx.sX (by decide) rfl 0 rfl hx.p0 ?_
  refine g_getiv hC dX11_letGo_5 fX11_119 hx.1.2.1.sH (by decide) rfl 5 rfl hx.rh.t5 (fun i5 => ?_)
  refine g_chkS hC dX11_letGo_8 mX11_51 sX11_checkIndex (kX11_checkIndex (by omega) (by omega)) rfl rfl (Nat.le_of_ble_eq_true rfl) (RR rfl rfl rfl rfl) (fun z q8 => ?_) (fun z q8 => ?_)
  rotate_left
  · exact g_out hC hex ⟨rfl, Or.inr ⟨⟨hx, OUX.rfl' _ _ _⟩, (by first | exact Or.inl ⟨fl1 (fun h => by omega), rfl⟩ | exact Or.inr (Or.inl ⟨fl2 (by omega) (fun h => by omega), rfl⟩) | exact Or.inr (Or.inr ⟨fl3 (by omega) (by omega) (fun h => by omega), rfl⟩))⟩⟩ gs_rfl ⟨Nat.le_of_ble_eq_true rfl, Nat.le_of_ble_eq_true rfl⟩
  refine gB hC _ _ _ _ _ _ _ qX11_letGo_11 rfl ?_
  refine g_getr hC dX11_letGo_12 fX11_19 hx.sX (by decide) rfl 1 rfl hx.p1 ?_
  refine gB hC _ _ _ _ _ _ _ qX11_letGo_15 rfl ?_
  refine g_getr hC dX11_letGo_16 fX11_10 hx.sX (by decide) rfl 0 rfl hx.p0 ?_
  refine g_cV0e hC dX11_letGo_19 mX11_47 vX1_keep (kX1_keep hx.sY hx.pY hx.hy hx.rh hI0 (by omega)) rfl hx.sY.1 (by decide) rfl (Nat.le_of_ble_eq_true rfl) (RR rfl rfl rfl rfl) (fun z V19 e19 => ?_)
  have hxk := XR_Y hx hI0 e19.1 e19.2.1 e19.2.2
  have houk := (OUX.rfl' x9 Sh V).yh e19.2.2
  refine gB hC _ _ _ _ _ _ _ qX11_letGo_22 rfl ?_
  refine g_getr hC dX11_letGo_23 fX11_10 hxk.sX (by decide) rfl 0 rfl hxk.p0 ?_
  refine g_getr hC dX11_letGo_26 fX11_106 hxk.1.2.1.sH (by decide) rfl 11 rfl hxk.rh.2.1.p11 ?_
  refine gB hC _ _ _ _ _ _ _ qX11_letGo_29 rfl ?_
  refine g_cV1e hC dX11_letGo_30 mX11_125 vX9_cancelHeldOf (kX9_cancelHeldOf hxk.rh hI0 (by omega)) rfl hxk.1.2.1.sT (by decide) rfl (Nat.le_of_ble_eq_true rfl) (RR rfl rfl rfl rfl) (fun z V30 e30 => ?_)
  have hx2 := XR_H hxk e30.1 e30.2
  have hou2 := houk.ho e30.2
  refine gB hC _ _ _ _ _ _ _ qX11_letGo_33 rfl ?_
  refine g_getr hC dX11_letGo_35 fX11_10 hx2.sX (by decide) rfl 0 rfl hx2.p0 ?_
  refine g_cV1e hC dX11_letGo_38 mX11_69 vX2_lookAtGuests (kX2_lookAtGuests hx2.rh hlg.1) rfl hx2.1.2.1.sH (by decide) rfl (Nat.le_of_ble_eq_true rfl) (RR rfl rfl rfl rfl) (fun z V38 e38 => ?_)
  refine gB hC _ _ _ _ _ _ _ qX11_letGo_41 rfl ?_
  refine g_ireturn hC dX11_letGo_43 hr ⟨rfl, Or.inl ⟨fk1 (by omega), ?_, ?_, ?_⟩⟩ gs_rfl ⟨Nat.le_of_ble_eq_true rfl, Nat.le_of_ble_eq_true rfl⟩
  · rfl
  · exact XR_H hx2 e38.1 e38.2
  · exact hou2.ho e38.2

theorem kX11_pay {E l Sh V z} {x9 cc9 : Int} {N : gN0} {P9 : Int → gN0} {s9 : Int} (hx : XR x9 N P9 cc9 Sh V) (hI0 : INV N) (h1 : inI s9) : gM E l yX11_pay (.code yX11_pay cX11_pay 3 (some .int)) (rmk 11 60 600 420) [(2, x9), (0, s9)] Sh V z (gRk (fitC (bI (0 ≤ s9 ∧ s9 ≤ N 5 - 1)) (bI ((0 ≤ s9 ∧ s9 ≤ N 5 - 1) ∧ sF N s9 0 = 0)) 1) gxI gxS "" (0, dpO N s9) (fun V' => XR x9 (payN N s9) (kpP P9 cc9 N) (min (cc9 + 1) 6) Sh V' ∧ OUX x9 Sh V V') (fun V' => XR x9 N P9 cc9 Sh V' ∧ OUX x9 Sh V V') Sh) := by
  refine gM_at (L0 := [(2, x9), (0, s9), (9, 0)]) rfl rfl rfl ?_
  intro p e s m args below meth c hC hr hex hnm hz
  have hI := hI0.1
  have hsc := hI.1
  unfold iScal at hsc
  refine gB hC _ _ _ _ _ _ _ qX11_pay_0 rfl ?_
  refine g_chkVo hC dX11_pay_2 mX11_135 vX11_checkedStay (kX11_checkedStay hx hI0 (by omega)) rfl hx.sX (by decide) rfl (Nat.le_of_ble_eq_true rfl) (RR rfl rfl rfl rfl) (fun z q2 => ?_) (fun z q2 => ?_)
  rotate_left
  · exact g_out hC hex ⟨rfl, Or.inr ⟨⟨hx, OUX.rfl' _ _ _⟩, (by first | exact Or.inl ⟨fl1 (fun h => by omega), rfl⟩ | exact Or.inr (Or.inl ⟨fl2 (by omega) (fun h => by omega), rfl⟩) | exact Or.inr (Or.inr ⟨fl3 (by omega) (by omega) (fun h => by omega), rfl⟩))⟩⟩ gs_rfl ⟨Nat.le_of_ble_eq_true rfl, Nat.le_of_ble_eq_true rfl⟩
  refine gB hC _ _ _ _ _ _ _ qX11_pay_5 rfl ?_
  refine g_getiv hC dX11_pay_7 fX11_139 (hx.1.2.1.ss (by omega) (by omega)) (by decide) rfl 0 rfl (hx.rh.st (by omega) (by omega)).f0 (fun i7 => ?_)
  refine g_if_ne hC 17 dX11_pay_10 rfl (by first | omega | exact cmpZ_in _ _ | exact bI_in _) (fun c10 => ?_) (fun c10 => ?_)
  · refine gB hC _ _ _ _ _ _ _ qX11_pay_17 rfl ?_
    refine g_chkS hC dX11_pay_18 mX11_43 sX11_checkState (kX11_checkState (by first | omega | exact bI_in _)) rfl rfl (Nat.le_of_ble_eq_true rfl) (RR rfl rfl rfl rfl) (fun z q18 => ?_) (fun z q18 => ?_)
    rotate_left
    · exact g_out hC hex ⟨rfl, Or.inr ⟨⟨hx, OUX.rfl' _ _ _⟩, (by first | exact Or.inl ⟨fl1 (fun h => by omega), rfl⟩ | exact Or.inr (Or.inl ⟨fl2 (by omega) (fun h => by omega), rfl⟩) | exact Or.inr (Or.inr ⟨fl3 (by omega) (by omega) (fun h => by omega), rfl⟩))⟩⟩ gs_rfl ⟨Nat.le_of_ble_eq_true rfl, Nat.le_of_ble_eq_true rfl⟩
    exact absurd rfl q18
  · refine gB hC _ _ _ _ _ _ _ qX11_pay_13 rfl ?_
    refine g_chkS hC dX11_pay_18 mX11_43 sX11_checkState (kX11_checkState (by first | omega | exact bI_in _)) rfl rfl (Nat.le_of_ble_eq_true rfl) (RR rfl rfl rfl rfl) (fun z q18 => ?_) (fun z q18 => ?_)
    rotate_left
    · exact g_out hC hex ⟨rfl, Or.inr ⟨⟨hx, OUX.rfl' _ _ _⟩, (by first | exact Or.inl ⟨fl1 (fun h => by omega), rfl⟩ | exact Or.inr (Or.inl ⟨fl2 (by omega) (fun h => by omega), rfl⟩) | exact Or.inr (Or.inr ⟨fl3 (by omega) (by omega) (fun h => by omega), rfl⟩))⟩⟩ gs_rfl ⟨Nat.le_of_ble_eq_true rfl, Nat.le_of_ble_eq_true rfl⟩
    refine gB hC _ _ _ _ _ _ _ qX11_pay_21 rfl ?_
    refine g_getr hC dX11_pay_22 fX11_19 hx.sX (by decide) rfl 1 rfl hx.p1 ?_
    refine gB hC _ _ _ _ _ _ _ qX11_pay_25 rfl ?_
    refine g_getr hC dX11_pay_26 fX11_10 hx.sX (by decide) rfl 0 rfl hx.p0 ?_
    refine g_cV0e hC dX11_pay_29 mX11_47 vX1_keep (kX1_keep hx.sY hx.pY hx.hy hx.rh hI0 (by omega)) rfl hx.sY.1 (by decide) rfl (Nat.le_of_ble_eq_true rfl) (RR rfl rfl rfl rfl) (fun z V29 e29 => ?_)
    have hxk := XR_Y hx hI0 e29.1 e29.2.1 e29.2.2
    have houk := (OUX.rfl' x9 Sh V).yh e29.2.2
    refine gB hC _ _ _ _ _ _ _ qX11_pay_32 rfl ?_
    refine g_getr hC dX11_pay_33 fX11_10 hxk.sX (by decide) rfl 0 rfl hxk.p0 ?_
    refine gB hC _ _ _ _ _ _ _ qX11_pay_36 rfl ?_
    refine g_cV1e hC dX11_pay_37 mX11_144 vX2_takeDeposit (kX2_takeDeposit hxk.rh hI0 (by omega) (by omega)) rfl hxk.1.2.1.sH (by decide) rfl (Nat.le_of_ble_eq_true rfl) (RR rfl rfl rfl rfl) (fun z V37 e37 => ?_)
    refine g_ireturn hC dX11_pay_40 hr ⟨rfl, Or.inl ⟨fk2 (by omega) (by omega), ?_, ?_, ?_⟩⟩ gs_rfl ⟨Nat.le_of_ble_eq_true rfl, Nat.le_of_ble_eq_true rfl⟩
    · rfl
    · exact XR_H hxk e37.1 e37.2
    · exact houk.ho e37.2

theorem kX11_cancel {E l Sh V z} {x9 cc9 : Int} {N : gN0} {P9 : Int → gN0} {s9 : Int} (hx : XR x9 N P9 cc9 Sh V) (hI0 : INV N) (h1 : inI s9) : gM E l yX11_cancel (.code yX11_cancel cX11_cancel 4 (some .int)) (rmk 11 60 600 420) [(2, x9), (0, s9)] Sh V z (gRk (fitC (bI (0 ≤ s9 ∧ s9 ≤ N 5 - 1)) (bI ((0 ≤ s9 ∧ s9 ≤ N 5 - 1) ∧ (sF N s9 0 = 0 ∨ sF N s9 0 = 1) ∧ N 0 < sF N s9 2)) 1) gxI gxS "" (0, rfO N s9) (fun V' => XR x9 (lk (caN N s9)).1 (kpP P9 cc9 N) (min (cc9 + 1) 6) Sh V' ∧ OUX x9 Sh V V') (fun V' => XR x9 N P9 cc9 Sh V' ∧ OUX x9 Sh V V') Sh) := by
  refine gM_at (L0 := [(2, x9), (0, s9), (9, 0), (9, 0)]) rfl rfl rfl ?_
  intro p e s m args below meth c hC hr hex hnm hz
  have hI := hI0.1
  have hsc := hI.1
  unfold iScal at hsc
  refine gB hC _ _ _ _ _ _ _ qX11_cancel_0 rfl ?_
  refine g_chkVo hC dX11_cancel_2 mX11_135 vX11_checkedStay (kX11_checkedStay hx hI0 (by omega)) rfl hx.sX (by decide) rfl (Nat.le_of_ble_eq_true rfl) (RR rfl rfl rfl rfl) (fun z q2 => ?_) (fun z q2 => ?_)
  rotate_left
  · exact g_out hC hex ⟨rfl, Or.inr ⟨⟨hx, OUX.rfl' _ _ _⟩, (by first | exact Or.inl ⟨fl1 (fun h => by omega), rfl⟩ | exact Or.inr (Or.inl ⟨fl2 (by omega) (fun h => by omega), rfl⟩) | exact Or.inr (Or.inr ⟨fl3 (by omega) (by omega) (fun h => by omega), rfl⟩))⟩⟩ gs_rfl ⟨Nat.le_of_ble_eq_true rfl, Nat.le_of_ble_eq_true rfl⟩
  refine gB hC _ _ _ _ _ _ _ qX11_cancel_5 rfl ?_
  refine g_cV1 hC dX11_cancel_7 mX11_148 vX8_isAlive (kX8_isAlive (hx.1.2.1.ss (by omega) (by omega)) (hx.rh.st (by omega) (by omega))) rfl (hx.1.2.1.ss (by omega) (by omega)) (by decide) rfl (Nat.le_of_ble_eq_true rfl) (RR rfl rfl rfl rfl) (fun z => ?_)
  refine g_if_eq hC 31 dX11_cancel_10 rfl (by first | omega | exact cmpZ_in _ _ | exact bI_in _) (fun c10 => ?_) (fun c10 => ?_)
  · have c10 := bI_0.mp c10
    refine gB hC _ _ _ _ _ _ _ qX11_cancel_31 rfl ?_
    refine g_chkS hC dX11_cancel_32 mX11_43 sX11_checkState (kX11_checkState (by first | omega | exact bI_in _)) rfl rfl (Nat.le_of_ble_eq_true rfl) (RR rfl rfl rfl rfl) (fun z q32 => ?_) (fun z q32 => ?_)
    rotate_left
    · exact g_out hC hex ⟨rfl, Or.inr ⟨⟨hx, OUX.rfl' _ _ _⟩, (by first | exact Or.inl ⟨fl1 (fun h => by omega), rfl⟩ | exact Or.inr (Or.inl ⟨fl2 (by omega) (fun h => by omega), rfl⟩) | exact Or.inr (Or.inr ⟨fl3 (by omega) (by omega) (fun h => by omega), rfl⟩))⟩⟩ gs_rfl ⟨Nat.le_of_ble_eq_true rfl, Nat.le_of_ble_eq_true rfl⟩
    exact absurd rfl q32
  · have c10 := bI_n0.mp c10
    refine gB hC _ _ _ _ _ _ _ qX11_cancel_13 rfl ?_
    refine g_getiv hC dX11_cancel_14 fX11_152 (hx.1.2.1.ss (by omega) (by omega)) (by decide) rfl 2 rfl (hx.rh.st (by omega) (by omega)).f2 (fun i14 => ?_)
    refine gB hC _ _ _ _ _ _ _ qX11_cancel_17 rfl ?_
    refine g_getr hC dX11_cancel_18 fX11_10 hx.sX (by decide) rfl 0 rfl hx.p0 ?_
    refine g_getiv hC dX11_cancel_21 fX11_155 hx.1.2.1.sH (by decide) rfl 0 rfl hx.rh.t0 (fun i21 => ?_)
    refine g_icmp_le hC 31 dX11_cancel_24 rfl (by first | omega | exact cmpZ_in _ _ | exact bI_in _) (by first | omega | exact cmpZ_in _ _ | exact bI_in _) (fun c24 => ?_) (fun c24 => ?_)
    · refine gB hC _ _ _ _ _ _ _ qX11_cancel_31 rfl ?_
      refine g_chkS hC dX11_cancel_32 mX11_43 sX11_checkState (kX11_checkState (by first | omega | exact bI_in _)) rfl rfl (Nat.le_of_ble_eq_true rfl) (RR rfl rfl rfl rfl) (fun z q32 => ?_) (fun z q32 => ?_)
      rotate_left
      · exact g_out hC hex ⟨rfl, Or.inr ⟨⟨hx, OUX.rfl' _ _ _⟩, (by first | exact Or.inl ⟨fl1 (fun h => by omega), rfl⟩ | exact Or.inr (Or.inl ⟨fl2 (by omega) (fun h => by omega), rfl⟩) | exact Or.inr (Or.inr ⟨fl3 (by omega) (by omega) (fun h => by omega), rfl⟩))⟩⟩ gs_rfl ⟨Nat.le_of_ble_eq_true rfl, Nat.le_of_ble_eq_true rfl⟩
      exact absurd rfl q32
    · refine gB hC _ _ _ _ _ _ _ qX11_cancel_27 rfl ?_
      refine g_chkS hC dX11_cancel_32 mX11_43 sX11_checkState (kX11_checkState (by first | omega | exact bI_in _)) rfl rfl (Nat.le_of_ble_eq_true rfl) (RR rfl rfl rfl rfl) (fun z q32 => ?_) (fun z q32 => ?_)
      rotate_left
      · exact g_out hC hex ⟨rfl, Or.inr ⟨⟨hx, OUX.rfl' _ _ _⟩, (by first | exact Or.inl ⟨fl1 (fun h => by omega), rfl⟩ | exact Or.inr (Or.inl ⟨fl2 (by omega) (fun h => by omega), rfl⟩) | exact Or.inr (Or.inr ⟨fl3 (by omega) (by omega) (fun h => by omega), rfl⟩))⟩⟩ gs_rfl ⟨Nat.le_of_ble_eq_true rfl, Nat.le_of_ble_eq_true rfl⟩
      refine gB hC _ _ _ _ _ _ _ qX11_cancel_35 rfl ?_
      refine g_getr hC dX11_cancel_36 fX11_19 hx.sX (by decide) rfl 1 rfl hx.p1 ?_
      refine gB hC _ _ _ _ _ _ _ qX11_cancel_39 rfl ?_
      refine g_getr hC dX11_cancel_40 fX11_10 hx.sX (by decide) rfl 0 rfl hx.p0 ?_
      refine g_cV0e hC dX11_cancel_43 mX11_47 vX1_keep (kX1_keep hx.sY hx.pY hx.hy hx.rh hI0 (by omega)) rfl hx.sY.1 (by decide) rfl (Nat.le_of_ble_eq_true rfl) (RR rfl rfl rfl rfl) (fun z V43 e43 => ?_)
      have hxk := XR_Y hx hI0 e43.1 e43.2.1 e43.2.2
      have houk := (OUX.rfl' x9 Sh V).yh e43.2.2
      refine gB hC _ _ _ _ _ _ _ qX11_cancel_46 rfl ?_
      refine g_getr hC dX11_cancel_47 fX11_10 hxk.sX (by decide) rfl 0 rfl hxk.p0 ?_
      refine gB hC _ _ _ _ _ _ _ qX11_cancel_50 rfl ?_
      refine g_cV1e hC dX11_cancel_51 mX11_158 vX2_cancelStay (kX2_cancelStay hxk.rh hI0 (by omega) (by omega)) rfl hxk.1.2.1.sH (by decide) rfl (Nat.le_of_ble_eq_true rfl) (RR rfl rfl rfl rfl) (fun z V51 e51 => ?_)
      have hx2 := XR_H hxk e51.1 e51.2
      have hou2 := houk.ho e51.2
      have hI2 : INV (caN N s9) := caN_inv hI0 (by omega) (by omega) (by omega)
      refine gB hC _ _ _ _ _ _ _ qX11_cancel_54 rfl ?_
      refine g_getr hC dX11_cancel_56 fX11_10 hx2.sX (by decide) rfl 0 rfl hx2.p0 ?_
      refine g_cV1e hC dX11_cancel_59 mX11_69 vX2_lookAtGuests (kX2_lookAtGuests hx2.rh hI2) rfl hx2.1.2.1.sH (by decide) rfl (Nat.le_of_ble_eq_true rfl) (RR rfl rfl rfl rfl) (fun z V59 e59 => ?_)
      refine gB hC _ _ _ _ _ _ _ qX11_cancel_62 rfl ?_
      refine g_ireturn hC dX11_cancel_64 hr ⟨rfl, Or.inl ⟨fk2 (by omega) (by omega), ?_, ?_, ?_⟩⟩ gs_rfl ⟨Nat.le_of_ble_eq_true rfl, Nat.le_of_ble_eq_true rfl⟩
      · rfl
      · exact XR_H hx2 e59.1 e59.2
      · exact hou2.ho e59.2

theorem kX11_longer {E l Sh V z} {x9 cc9 : Int} {N : gN0} {P9 : Int → gN0} {s9 n9 : Int} (hx : XR x9 N P9 cc9 Sh V) (hI0 : INV N) (h1 : inI s9) (h2 : inI n9) : gM E l yX11_longer (.code yX11_longer cX11_longer 4 (some .int)) (rmk 11 60 600 420) [(2, x9), (0, s9), (0, n9)] Sh V z (gRk (fitC (bI (0 ≤ s9 ∧ s9 ≤ N 5 - 1)) (bI ((0 ≤ s9 ∧ s9 ≤ N 5 - 1) ∧ (1 ≤ n9 ∧ n9 ≤ 13) ∧ sF N s9 3 + n9 ≤ 14 ∧ sF N s9 2 + sF N s9 3 - 1 + n9 ≤ N 0 + 365 ∧ sF N s9 2 + sF N s9 3 - 1 + n9 < 36525)) (bI ((0 ≤ s9 ∧ s9 ≤ N 5 - 1) ∧ (sF N s9 0 = 0 ∨ sF N s9 0 = 1)))) gxI gxA gxS (0, if rfs N (sF N s9 1) (sF N s9 2 + sF N s9 3) n9 = -1 then snT N (sF N s9 1) (sF N s9 2 + sF N s9 3) n9.toNat else -1) (fun V' => XR x9 (if rfs N (sF N s9 1) (sF N s9 2 + sF N s9 3) n9 = -1 then loN N s9 n9 else upN N 8 (dateZ (rfs N (sF N s9 1) (sF N s9 2 + sF N s9 3) n9))) (kpP P9 cc9 N) (min (cc9 + 1) 6) Sh V' ∧ OUX x9 Sh V V') (fun V' => XR x9 N P9 cc9 Sh V' ∧ OUX x9 Sh V V') Sh) := by
  refine gM_at (L0 := [(2, x9), (0, s9), (0, n9), (9, 0)]) rfl rfl rfl ?_
  intro p e s m args below meth c hC hr hex hnm hz
  have hI := hI0.1
  have hsc := hI.1
  unfold iScal at hsc
  refine gB hC _ _ _ _ _ _ _ qX11_longer_0 rfl ?_
  refine g_chkVo hC dX11_longer_2 mX11_135 vX11_checkedStay (kX11_checkedStay hx hI0 (by omega)) rfl hx.sX (by decide) rfl (Nat.le_of_ble_eq_true rfl) (RR rfl rfl rfl rfl) (fun z q2 => ?_) (fun z q2 => ?_)
  rotate_left
  · exact g_out hC hex ⟨rfl, Or.inr ⟨⟨hx, OUX.rfl' _ _ _⟩, (by first | exact Or.inl ⟨fl1 (fun h => by omega), rfl⟩ | exact Or.inr (Or.inl ⟨fl2 (by omega) (fun h => by omega), rfl⟩) | exact Or.inr (Or.inr ⟨fl3 (by omega) (by omega) (fun h => by omega), rfl⟩))⟩⟩ gs_rfl ⟨Nat.le_of_ble_eq_true rfl, Nat.le_of_ble_eq_true rfl⟩
  have hso := hI.2.2.2.1 s9 (by omega) (by omega)
  have hs1 := hso.1
  refine gB hC _ _ _ _ _ _ _ qX11_longer_5 rfl ?_
  refine g_chkS hC dX11_longer_10 mX11_34 sX11_checkWithin (kX11_checkWithin (by omega) (by omega) (by omega)) rfl rfl (Nat.le_of_ble_eq_true rfl) (RR rfl rfl rfl rfl) (fun z q10 => ?_) (fun z q10 => ?_)
  rotate_left
  · exact g_out hC hex ⟨rfl, Or.inr ⟨⟨hx, OUX.rfl' _ _ _⟩, (by first | exact Or.inl ⟨fl1 (fun h => by omega), rfl⟩ | exact Or.inr (Or.inl ⟨fl2 (by omega) (fun h => by omega), rfl⟩) | exact Or.inr (Or.inr ⟨fl3 (by omega) (by omega) (fun h => by omega), rfl⟩))⟩⟩ gs_rfl ⟨Nat.le_of_ble_eq_true rfl, Nat.le_of_ble_eq_true rfl⟩
  refine gB hC _ _ _ _ _ _ _ qX11_longer_13 rfl ?_
  refine g_getiv hC dX11_longer_14 fX11_161 (hx.1.2.1.ss (by omega) (by omega)) (by decide) rfl 3 rfl (hx.rh.st (by omega) (by omega)).f3 (fun i14 => ?_)
  refine gB hC _ _ _ _ _ _ _ qX11_longer_17 rfl ?_
  refine g_chkS hC dX11_longer_22 mX11_34 sX11_checkWithin (kX11_checkWithin (by omega) (by omega) (by omega)) rfl rfl (Nat.le_of_ble_eq_true rfl) (RR rfl rfl rfl rfl) (fun z q22 => ?_) (fun z q22 => ?_)
  rotate_left
  · exact g_out hC hex ⟨rfl, Or.inr ⟨⟨hx, OUX.rfl' _ _ _⟩, (by first | exact Or.inl ⟨fl1 (fun h => by omega), rfl⟩ | exact Or.inr (Or.inl ⟨fl2 (by omega) (fun h => by omega), rfl⟩) | exact Or.inr (Or.inr ⟨fl3 (by omega) (by omega) (fun h => by omega), rfl⟩))⟩⟩ gs_rfl ⟨Nat.le_of_ble_eq_true rfl, Nat.le_of_ble_eq_true rfl⟩
  refine gB hC _ _ _ _ _ _ _ qX11_longer_25 rfl ?_
  refine g_getr hC dX11_longer_26 fX11_10 hx.sX (by decide) rfl 0 rfl hx.p0 ?_
  refine gB hC _ _ _ _ _ _ _ qX11_longer_29 rfl ?_
  refine g_cV1i hC dX11_longer_30 mX11_164 vX8_lastNight (kX8_lastNight (hx.1.2.1.ss (by omega) (by omega)) (hx.rh.st (by omega) (by omega)) (hI0.1.2.2.2.1 _ (by omega) (by omega))) rfl (hx.1.2.1.ss (by omega) (by omega)) (by decide) rfl (Nat.le_of_ble_eq_true rfl) (RR rfl rfl rfl rfl) (fun z i30 => ?_)
  refine gB hC _ _ _ _ _ _ _ qX11_longer_33 rfl ?_
  refine g_cV1 hC dX11_longer_35 mX11_167 vX2_isLastNightInReach (kX2_isLastNightInReach hx.rh (by omega) (by omega) (by omega)) rfl hx.1.2.1.sH (by decide) rfl (Nat.le_of_ble_eq_true rfl) (RR rfl rfl rfl rfl) (fun z => ?_)
  refine g_chkS hC dX11_longer_38 mX11_82 sX11_checkArgument (kX11_checkArgument (by first | omega | exact bI_in _)) rfl rfl (Nat.le_of_ble_eq_true rfl) (RR rfl rfl rfl rfl) (fun z q38 => ?_) (fun z q38 => ?_)
  rotate_left
  · have q38 : ¬ _ := fun h => q38 (bI_n0.mpr h)
    exact g_out hC hex ⟨rfl, Or.inr ⟨⟨hx, OUX.rfl' _ _ _⟩, (by first | exact Or.inl ⟨fl1 (fun h => by omega), rfl⟩ | exact Or.inr (Or.inl ⟨fl2 (by omega) (fun h => by omega), rfl⟩) | exact Or.inr (Or.inr ⟨fl3 (by omega) (by omega) (fun h => by omega), rfl⟩))⟩⟩ gs_rfl ⟨Nat.le_of_ble_eq_true rfl, Nat.le_of_ble_eq_true rfl⟩
  have q38 := bI_n0.mp q38
  refine gB hC _ _ _ _ _ _ _ qX11_longer_41 rfl ?_
  refine g_cV1 hC dX11_longer_42 mX11_148 vX8_isAlive (kX8_isAlive (hx.1.2.1.ss (by omega) (by omega)) (hx.rh.st (by omega) (by omega))) rfl (hx.1.2.1.ss (by omega) (by omega)) (by decide) rfl (Nat.le_of_ble_eq_true rfl) (RR rfl rfl rfl rfl) (fun z => ?_)
  refine g_chkS hC dX11_longer_45 mX11_43 sX11_checkState (kX11_checkState (by first | omega | exact bI_in _)) rfl rfl (Nat.le_of_ble_eq_true rfl) (RR rfl rfl rfl rfl) (fun z q45 => ?_) (fun z q45 => ?_)
  rotate_left
  · have q45 : ¬ _ := fun h => q45 (bI_n0.mpr h)
    exact g_out hC hex ⟨rfl, Or.inr ⟨⟨hx, OUX.rfl' _ _ _⟩, (by first | exact Or.inl ⟨fl1 (fun h => by omega), rfl⟩ | exact Or.inr (Or.inl ⟨fl2 (by omega) (fun h => by omega), rfl⟩) | exact Or.inr (Or.inr ⟨fl3 (by omega) (by omega) (fun h => by omega), rfl⟩))⟩⟩ gs_rfl ⟨Nat.le_of_ble_eq_true rfl, Nat.le_of_ble_eq_true rfl⟩
  have q45 := bI_n0.mp q45
  refine gB hC _ _ _ _ _ _ _ qX11_longer_48 rfl ?_
  refine g_getr hC dX11_longer_49 fX11_19 hx.sX (by decide) rfl 1 rfl hx.p1 ?_
  refine gB hC _ _ _ _ _ _ _ qX11_longer_52 rfl ?_
  refine g_getr hC dX11_longer_53 fX11_10 hx.sX (by decide) rfl 0 rfl hx.p0 ?_
  refine g_cV0e hC dX11_longer_56 mX11_47 vX1_keep (kX1_keep hx.sY hx.pY hx.hy hx.rh hI0 (by omega)) rfl hx.sY.1 (by decide) rfl (Nat.le_of_ble_eq_true rfl) (RR rfl rfl rfl rfl) (fun z V56 e56 => ?_)
  have hxk := XR_Y hx hI0 e56.1 e56.2.1 e56.2.2
  have houk := (OUX.rfl' x9 Sh V).yh e56.2.2
  refine gB hC _ _ _ _ _ _ _ qX11_longer_59 rfl ?_
  refine g_getr hC dX11_longer_60 fX11_10 hxk.sX (by decide) rfl 0 rfl hxk.p0 ?_
  refine gB hC _ _ _ _ _ _ _ qX11_longer_63 rfl ?_
  refine g_cV1e hC dX11_longer_65 mX11_170 vX2_lengthen (kX2_lengthen hxk.rh hI0 (by omega) (by omega) (by omega) (by omega) (by omega)) rfl hxk.1.2.1.sH (by decide) rfl (Nat.le_of_ble_eq_true rfl) (RR rfl rfl rfl rfl) (fun z V65 e65 => ?_)
  refine g_ireturn hC dX11_longer_68 hr ⟨rfl, Or.inl ⟨fk3 (by omega) (by omega) (by omega), ?_, ?_, ?_⟩⟩ gs_rfl ⟨Nat.le_of_ble_eq_true rfl, Nat.le_of_ble_eq_true rfl⟩
  · rfl
  · exact XR_H hxk e65.1 e65.2
  · exact houk.ho e65.2

theorem kX11_shorter {E l Sh V z} {x9 cc9 : Int} {N : gN0} {P9 : Int → gN0} {s9 n9 : Int} (hx : XR x9 N P9 cc9 Sh V) (hI0 : INV N) (h1 : inI s9) (h2 : inI n9) : gM E l yX11_shorter (.code yX11_shorter cX11_shorter 5 (some .int)) (rmk 11 60 600 420) [(2, x9), (0, s9), (0, n9)] Sh V z (gRk (fitC (bI (0 ≤ s9 ∧ s9 ≤ N 5 - 1)) (bI ((0 ≤ s9 ∧ s9 ≤ N 5 - 1) ∧ (1 ≤ n9 ∧ n9 ≤ 13) ∧ n9 < sF N s9 3 ∧ N 0 ≤ sF N s9 2 + sF N s9 3 - 1 - n9 + 1)) (bI ((0 ≤ s9 ∧ s9 ≤ N 5 - 1) ∧ (sF N s9 0 = 0 ∨ sF N s9 0 = 1)))) gxI gxA gxS (0, sPr N s9 - sPr (shN N s9 n9) s9) (fun V' => XR x9 (lk (shN N s9 n9)).1 (kpP P9 cc9 N) (min (cc9 + 1) 6) Sh V' ∧ OUX x9 Sh V V') (fun V' => XR x9 N P9 cc9 Sh V' ∧ OUX x9 Sh V V') Sh) := by
  refine gM_at (L0 := [(2, x9), (0, s9), (0, n9), (9, 0), (9, 0)]) rfl rfl rfl ?_
  intro p e s m args below meth c hC hr hex hnm hz
  have hI := hI0.1
  have hsc := hI.1
  unfold iScal at hsc
  refine gB hC _ _ _ _ _ _ _ qX11_shorter_0 rfl ?_
  refine g_chkVo hC dX11_shorter_2 mX11_135 vX11_checkedStay (kX11_checkedStay hx hI0 (by omega)) rfl hx.sX (by decide) rfl (Nat.le_of_ble_eq_true rfl) (RR rfl rfl rfl rfl) (fun z q2 => ?_) (fun z q2 => ?_)
  rotate_left
  · exact g_out hC hex ⟨rfl, Or.inr ⟨⟨hx, OUX.rfl' _ _ _⟩, (by first | exact Or.inl ⟨fl1 (fun h => by omega), rfl⟩ | exact Or.inr (Or.inl ⟨fl2 (by omega) (fun h => by omega), rfl⟩) | exact Or.inr (Or.inr ⟨fl3 (by omega) (by omega) (fun h => by omega), rfl⟩))⟩⟩ gs_rfl ⟨Nat.le_of_ble_eq_true rfl, Nat.le_of_ble_eq_true rfl⟩
  have hso := hI.2.2.2.1 s9 (by omega) (by omega)
  have hs1 := hso.1
  refine gB hC _ _ _ _ _ _ _ qX11_shorter_5 rfl ?_
  refine g_chkS hC dX11_shorter_10 mX11_34 sX11_checkWithin (kX11_checkWithin (by omega) (by omega) (by omega)) rfl rfl (Nat.le_of_ble_eq_true rfl) (RR rfl rfl rfl rfl) (fun z q10 => ?_) (fun z q10 => ?_)
  rotate_left
  · exact g_out hC hex ⟨rfl, Or.inr ⟨⟨hx, OUX.rfl' _ _ _⟩, (by first | exact Or.inl ⟨fl1 (fun h => by omega), rfl⟩ | exact Or.inr (Or.inl ⟨fl2 (by omega) (fun h => by omega), rfl⟩) | exact Or.inr (Or.inr ⟨fl3 (by omega) (by omega) (fun h => by omega), rfl⟩))⟩⟩ gs_rfl ⟨Nat.le_of_ble_eq_true rfl, Nat.le_of_ble_eq_true rfl⟩
  refine gB hC _ _ _ _ _ _ _ qX11_shorter_13 rfl ?_
  refine g_getiv hC dX11_shorter_15 fX11_161 (hx.1.2.1.ss (by omega) (by omega)) (by decide) rfl 3 rfl (hx.rh.st (by omega) (by omega)).f3 (fun i15 => ?_)
  refine g_icmp_ge hC 25 dX11_shorter_18 rfl (by first | omega | exact cmpZ_in _ _ | exact bI_in _) (by first | omega | exact cmpZ_in _ _ | exact bI_in _) (fun c18 => ?_) (fun c18 => ?_)
  · refine gB hC _ _ _ _ _ _ _ qX11_shorter_25 rfl ?_
    refine g_chkS hC dX11_shorter_26 mX11_82 sX11_checkArgument (kX11_checkArgument (by first | omega | exact bI_in _)) rfl rfl (Nat.le_of_ble_eq_true rfl) (RR rfl rfl rfl rfl) (fun z q26 => ?_) (fun z q26 => ?_)
    rotate_left
    · exact g_out hC hex ⟨rfl, Or.inr ⟨⟨hx, OUX.rfl' _ _ _⟩, (by first | exact Or.inl ⟨fl1 (fun h => by omega), rfl⟩ | exact Or.inr (Or.inl ⟨fl2 (by omega) (fun h => by omega), rfl⟩) | exact Or.inr (Or.inr ⟨fl3 (by omega) (by omega) (fun h => by omega), rfl⟩))⟩⟩ gs_rfl ⟨Nat.le_of_ble_eq_true rfl, Nat.le_of_ble_eq_true rfl⟩
    exact absurd rfl q26
  · refine gB hC _ _ _ _ _ _ _ qX11_shorter_21 rfl ?_
    refine g_chkS hC dX11_shorter_26 mX11_82 sX11_checkArgument (kX11_checkArgument (by first | omega | exact bI_in _)) rfl rfl (Nat.le_of_ble_eq_true rfl) (RR rfl rfl rfl rfl) (fun z q26 => ?_) (fun z q26 => ?_)
    rotate_left
    · exact g_out hC hex ⟨rfl, Or.inr ⟨⟨hx, OUX.rfl' _ _ _⟩, (by first | exact Or.inl ⟨fl1 (fun h => by omega), rfl⟩ | exact Or.inr (Or.inl ⟨fl2 (by omega) (fun h => by omega), rfl⟩) | exact Or.inr (Or.inr ⟨fl3 (by omega) (by omega) (fun h => by omega), rfl⟩))⟩⟩ gs_rfl ⟨Nat.le_of_ble_eq_true rfl, Nat.le_of_ble_eq_true rfl⟩
    refine gB hC _ _ _ _ _ _ _ qX11_shorter_29 rfl ?_
    refine g_cV1i hC dX11_shorter_30 mX11_164 vX8_lastNight (kX8_lastNight (hx.1.2.1.ss (by omega) (by omega)) (hx.rh.st (by omega) (by omega)) (hI0.1.2.2.2.1 _ (by omega) (by omega))) rfl (hx.1.2.1.ss (by omega) (by omega)) (by decide) rfl (Nat.le_of_ble_eq_true rfl) (RR rfl rfl rfl rfl) (fun z i30 => ?_)
    refine gB hC _ _ _ _ _ _ _ qX11_shorter_33 rfl ?_
    refine g_getr hC dX11_shorter_38 fX11_10 hx.sX (by decide) rfl 0 rfl hx.p0 ?_
    refine g_getiv hC dX11_shorter_41 fX11_155 hx.1.2.1.sH (by decide) rfl 0 rfl hx.rh.t0 (fun i41 => ?_)
    refine g_icmp_lt hC 51 dX11_shorter_44 rfl (by first | omega | exact cmpZ_in _ _ | exact bI_in _) (by first | omega | exact cmpZ_in _ _ | exact bI_in _) (fun c44 => ?_) (fun c44 => ?_)
    · refine gB hC _ _ _ _ _ _ _ qX11_shorter_51 rfl ?_
      refine g_chkS hC dX11_shorter_52 mX11_82 sX11_checkArgument (kX11_checkArgument (by first | omega | exact bI_in _)) rfl rfl (Nat.le_of_ble_eq_true rfl) (RR rfl rfl rfl rfl) (fun z q52 => ?_) (fun z q52 => ?_)
      rotate_left
      · exact g_out hC hex ⟨rfl, Or.inr ⟨⟨hx, OUX.rfl' _ _ _⟩, (by first | exact Or.inl ⟨fl1 (fun h => by omega), rfl⟩ | exact Or.inr (Or.inl ⟨fl2 (by omega) (fun h => by omega), rfl⟩) | exact Or.inr (Or.inr ⟨fl3 (by omega) (by omega) (fun h => by omega), rfl⟩))⟩⟩ gs_rfl ⟨Nat.le_of_ble_eq_true rfl, Nat.le_of_ble_eq_true rfl⟩
      exact absurd rfl q52
    · refine gB hC _ _ _ _ _ _ _ qX11_shorter_47 rfl ?_
      refine g_chkS hC dX11_shorter_52 mX11_82 sX11_checkArgument (kX11_checkArgument (by first | omega | exact bI_in _)) rfl rfl (Nat.le_of_ble_eq_true rfl) (RR rfl rfl rfl rfl) (fun z q52 => ?_) (fun z q52 => ?_)
      rotate_left
      · exact g_out hC hex ⟨rfl, Or.inr ⟨⟨hx, OUX.rfl' _ _ _⟩, (by first | exact Or.inl ⟨fl1 (fun h => by omega), rfl⟩ | exact Or.inr (Or.inl ⟨fl2 (by omega) (fun h => by omega), rfl⟩) | exact Or.inr (Or.inr ⟨fl3 (by omega) (by omega) (fun h => by omega), rfl⟩))⟩⟩ gs_rfl ⟨Nat.le_of_ble_eq_true rfl, Nat.le_of_ble_eq_true rfl⟩
      refine gB hC _ _ _ _ _ _ _ qX11_shorter_55 rfl ?_
      refine g_cV1 hC dX11_shorter_56 mX11_148 vX8_isAlive (kX8_isAlive (hx.1.2.1.ss (by omega) (by omega)) (hx.rh.st (by omega) (by omega))) rfl (hx.1.2.1.ss (by omega) (by omega)) (by decide) rfl (Nat.le_of_ble_eq_true rfl) (RR rfl rfl rfl rfl) (fun z => ?_)
      refine g_chkS hC dX11_shorter_59 mX11_43 sX11_checkState (kX11_checkState (by first | omega | exact bI_in _)) rfl rfl (Nat.le_of_ble_eq_true rfl) (RR rfl rfl rfl rfl) (fun z q59 => ?_) (fun z q59 => ?_)
      rotate_left
      · have q59 : ¬ _ := fun h => q59 (bI_n0.mpr h)
        exact g_out hC hex ⟨rfl, Or.inr ⟨⟨hx, OUX.rfl' _ _ _⟩, (by first | exact Or.inl ⟨fl1 (fun h => by omega), rfl⟩ | exact Or.inr (Or.inl ⟨fl2 (by omega) (fun h => by omega), rfl⟩) | exact Or.inr (Or.inr ⟨fl3 (by omega) (by omega) (fun h => by omega), rfl⟩))⟩⟩ gs_rfl ⟨Nat.le_of_ble_eq_true rfl, Nat.le_of_ble_eq_true rfl⟩
      have q59 := bI_n0.mp q59
      refine gB hC _ _ _ _ _ _ _ qX11_shorter_62 rfl ?_
      refine g_getr hC dX11_shorter_63 fX11_19 hx.sX (by decide) rfl 1 rfl hx.p1 ?_
      refine gB hC _ _ _ _ _ _ _ qX11_shorter_66 rfl ?_
      refine g_getr hC dX11_shorter_67 fX11_10 hx.sX (by decide) rfl 0 rfl hx.p0 ?_
      refine g_cV0e hC dX11_shorter_70 mX11_47 vX1_keep (kX1_keep hx.sY hx.pY hx.hy hx.rh hI0 (by omega)) rfl hx.sY.1 (by decide) rfl (Nat.le_of_ble_eq_true rfl) (RR rfl rfl rfl rfl) (fun z V70 e70 => ?_)
      have hxk := XR_Y hx hI0 e70.1 e70.2.1 e70.2.2
      have houk := (OUX.rfl' x9 Sh V).yh e70.2.2
      refine gB hC _ _ _ _ _ _ _ qX11_shorter_73 rfl ?_
      refine g_cV1im hC dX11_shorter_75 mX11_174 vX8_dropNights (kX8_dropNights (hxk.1.2.1.ss (by omega) (by omega)) (hxk.1.2.1.sn (by omega) (by omega)) (hxk.rh.2.1.pn (by omega) (by omega)) (hxk.rh.st (by omega) (by omega)) hso (by omega) (by omega)) rfl (hxk.1.2.1.ss (by omega) (by omega)) (by decide) rfl (Nat.le_of_ble_eq_true rfl) (RR rfl rfl rfl rfl) (fun z V75 e75 i75 => ?_)
      have hxs := RH_sn hxk.rh hI0.szO (s := s9) (n := n9) (by omega) (by omega) (by omega) (by omega) e75
      have hoc : OUT (x9 + 1) V70 V75 := by rw [e75]; exact ((OUT.rfl' _ _).up (by omega)).up (by omega)
      have hx2 := XR_H hxk hxs hoc
      have hou2 := houk.ho hoc
      have hI2 : INV (shN N s9 n9) := shN_inv hI0 (by omega) (by omega) (by omega) (by omega)
      have hpe : sPr (shN N s9 n9) s9 = prT N s9 (sF N s9 3 - n9).toNat := by
        unfold sPr
        rw [show sF (shN N s9 n9) s9 3 = sF N s9 3 - n9 from upN_eq _ _ _]
        exact prT_eq _ (fun i i0 i1 => upN_ne (by omega))
      refine gB hC _ _ _ _ _ _ _ qX11_shorter_78 rfl ?_
      refine g_getr hC dX11_shorter_81 fX11_10 hx2.sX (by decide) rfl 0 rfl hx2.p0 ?_
      refine g_cV1e hC dX11_shorter_84 mX11_69 vX2_lookAtGuests (kX2_lookAtGuests hx2.rh hI2) rfl hx2.1.2.1.sH (by decide) rfl (Nat.le_of_ble_eq_true rfl) (RR rfl rfl rfl rfl) (fun z V84 e84 => ?_)
      refine gB hC _ _ _ _ _ _ _ qX11_shorter_87 rfl ?_
      refine g_ireturn hC dX11_shorter_90 hr ⟨rfl, Or.inl ⟨fk3 (by omega) (by omega) (by omega), ?_, ?_, ?_⟩⟩ gs_rfl ⟨Nat.le_of_ble_eq_true rfl, Nat.le_of_ble_eq_true rfl⟩
      · rw [hpe]
      · exact XR_H hx2 e84.1 e84.2
      · exact hou2.ho e84.2

