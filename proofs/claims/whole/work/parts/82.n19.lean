/-! the class: counts and months (rows laid by wip/whole/n82.py) -/
theorem kX11_fd {E l Sh V z} {x F : Int} (hF : F = if 200001 ≤ x ∧ x ≤ 209912 then x * 100 + 1 else -1) (h1 : inI x) : gM E l yX11_firstDateOf (.code yX11_firstDateOf cX11_firstDateOf 2 (some .int)) (rmk 1 0 0 30) [(0, x)] Sh V z (gRi F Sh V) := hF ▸ kX11_firstDateOf h1
theorem fdF {mo : Int} (h1 : inI mo) : ∃ F, F = (if 200001 ≤ mo ∧ mo ≤ 209912 then mo * 100 + 1 else -1) ∧ ((((2000 ≤ mo / 100 ∧ mo / 100 ≤ 2099) ∧ 1 ≤ mo % 100 ∧ mo % 100 ≤ 12) ∧ F = mo * 100 + 1 ∧ dayZ F = yB (mo / 100) + bM (mo / 100) (mo % 100) ∧ 0 ≤ dayZ F) ∨ ((¬ ((2000 ≤ mo / 100 ∧ mo / 100 ≤ 2099) ∧ 1 ≤ mo % 100 ∧ mo % 100 ≤ 12)) ∧ dayZ F = -1)) ∧ inI F := by
  refine ⟨_, rfl, ?_, by split <;> omega⟩
  by_cases h : (2000 ≤ mo / 100 ∧ mo / 100 ≤ 2099) ∧ 1 ≤ mo % 100 ∧ mo % 100 ≤ 12
  · rw [if_pos (by omega)]
    refine Or.inl ⟨h, rfl, mon_day h.1 h.2, ?_⟩
    have := yB_in h.1.1 h.1.2
    have := bM_in (y := mo / 100) h.2.1 h.2.2
    rw [mon_day h.1 h.2]; omega
  · refine Or.inr ⟨h, ?_⟩
    split
    · unfold dayZ
      rw [if_neg]
      intro q
      exact h ⟨by omega, by omega⟩
    · rfl

theorem kX11_greatest {E l Sh V z} {x9 cc9 : Int} {N : gN0} {P9 : Int → gN0} {k9 a9 b9 : Int} (hx : XR x9 N P9 cc9 Sh V) (hI0 : INV N) (h1 : inI k9) (h2 : inI a9) (h3 : inI b9) : gM E l yX11_greatest (.code yX11_greatest cX11_greatest 6 (some .int)) (rmk 11 60 600 420) [(2, x9), (0, k9), (0, a9), (0, b9)] Sh V z (gRk (fitC (bI (0 ≤ k9 ∧ k9 ≤ N 1 - 1)) (bI (dayZ a9 ≠ -1 ∧ dayZ b9 ≠ -1 ∧ 0 ≤ dayZ b9 - dayZ a9 ∧ dayZ b9 - dayZ a9 ≤ 400)) 1) gxI gxA "" (0, grZ N k9 (dayZ a9) (dayZ b9 - dayZ a9 + 1).toNat) (fun V' => XR x9 N P9 cc9 Sh V' ∧ OUX x9 Sh V V') (fun V' => XR x9 N P9 cc9 Sh V' ∧ OUX x9 Sh V V') Sh) := by
  refine gM_at (L0 := [(2, x9), (0, k9), (0, a9), (0, b9), (9, 0), (9, 0)]) rfl rfl rfl ?_
  intro p e s m args below meth c hC hr hex hnm hz
  have hI := hI0.1
  have hsc := hI.1
  unfold iScal at hsc
  have hda := dayZ_in a9
  have hdb := dayZ_in b9
  refine gB hC _ _ _ _ _ _ _ qX11_greatest_0 rfl ?_
  refine g_getr hC dX11_greatest_2 fX11_10 hx.sX (by decide) rfl 0 rfl hx.p0 ?_
  refine g_getiv hC dX11_greatest_5 fX11_39 hx.1.2.1.sH (by decide) rfl 2 rfl hx.rh.t2 (fun i5 => ?_)
  refine g_chkS hC dX11_greatest_8 mX11_51 sX11_checkIndex (kX11_checkIndex (by omega) (by omega)) rfl rfl (Nat.le_of_ble_eq_true rfl) (RR rfl rfl rfl rfl) (fun z q8 => ?_) (fun z q8 => ?_)
  rotate_left
  · exact g_out hC hex ⟨rfl, Or.inr ⟨⟨hx, OUX.rfl' _ _ _⟩, (by first | exact Or.inl ⟨fl1 (fun h => by omega), rfl⟩ | exact Or.inr (Or.inl ⟨fl2 (by omega) (fun h => by omega), rfl⟩) | exact Or.inr (Or.inr ⟨fl3 (by omega) (by omega) (fun h => by omega), rfl⟩))⟩⟩ gs_rfl ⟨Nat.le_of_ble_eq_true rfl, Nat.le_of_ble_eq_true rfl⟩
  refine gB hC _ _ _ _ _ _ _ qX11_greatest_11 rfl ?_
  refine g_chkY hC dX11_greatest_12 mX11_55 sX11_checkedDay (kX11_checkedDay (by omega)) rfl rfl (Nat.le_of_ble_eq_true rfl) (RR rfl rfl rfl rfl) (fun z q12 i12 => ?_) (fun z q12 => ?_)
  rotate_left
  · exact g_out hC hex ⟨rfl, Or.inr ⟨⟨hx, OUX.rfl' _ _ _⟩, (by first | exact Or.inl ⟨fl1 (fun h => by omega), rfl⟩ | exact Or.inr (Or.inl ⟨fl2 (by omega) (fun h => by omega), rfl⟩) | exact Or.inr (Or.inr ⟨fl3 (by omega) (by omega) (fun h => by omega), rfl⟩))⟩⟩ gs_rfl ⟨Nat.le_of_ble_eq_true rfl, Nat.le_of_ble_eq_true rfl⟩
  have hdz12 := dayZ_in a9
  refine gB hC _ _ _ _ _ _ _ qX11_greatest_15 rfl ?_
  refine g_chkY hC dX11_greatest_18 mX11_55 sX11_checkedDay (kX11_checkedDay (by omega)) rfl rfl (Nat.le_of_ble_eq_true rfl) (RR rfl rfl rfl rfl) (fun z q18 i18 => ?_) (fun z q18 => ?_)
  rotate_left
  · exact g_out hC hex ⟨rfl, Or.inr ⟨⟨hx, OUX.rfl' _ _ _⟩, (by first | exact Or.inl ⟨fl1 (fun h => by omega), rfl⟩ | exact Or.inr (Or.inl ⟨fl2 (by omega) (fun h => by omega), rfl⟩) | exact Or.inr (Or.inr ⟨fl3 (by omega) (by omega) (fun h => by omega), rfl⟩))⟩⟩ gs_rfl ⟨Nat.le_of_ble_eq_true rfl, Nat.le_of_ble_eq_true rfl⟩
  have hdz18 := dayZ_in a9
  refine gB hC _ _ _ _ _ _ _ qX11_greatest_21 rfl ?_
  refine g_chkS hC dX11_greatest_32 mX11_34 sX11_checkWithin (kX11_checkWithin (by omega) (by omega) (by omega)) rfl rfl (Nat.le_of_ble_eq_true rfl) (RR rfl rfl rfl rfl) (fun z q32 => ?_) (fun z q32 => ?_)
  rotate_left
  · exact g_out hC hex ⟨rfl, Or.inr ⟨⟨hx, OUX.rfl' _ _ _⟩, (by first | exact Or.inl ⟨fl1 (fun h => by omega), rfl⟩ | exact Or.inr (Or.inl ⟨fl2 (by omega) (fun h => by omega), rfl⟩) | exact Or.inr (Or.inr ⟨fl3 (by omega) (by omega) (fun h => by omega), rfl⟩))⟩⟩ gs_rfl ⟨Nat.le_of_ble_eq_true rfl, Nat.le_of_ble_eq_true rfl⟩
  refine gB hC _ _ _ _ _ _ _ qX11_greatest_35 rfl ?_
  refine g_getr hC dX11_greatest_36 fX11_10 hx.sX (by decide) rfl 0 rfl hx.p0 ?_
  refine g_getr hC dX11_greatest_39 fX11_106 hx.1.2.1.sH (by decide) rfl 11 rfl hx.rh.2.1.p11 ?_
  refine gB hC _ _ _ _ _ _ _ qX11_greatest_42 rfl ?_
  refine g_cV1i hC dX11_greatest_47 mX11_234 vX9_mostOn (kX9_mostOn hx.rh hI (by omega) (by omega) (by omega)) rfl hx.1.2.1.sT (by decide) rfl (Nat.le_of_ble_eq_true rfl) (RR rfl rfl rfl rfl) (fun z i47 => ?_)
  refine g_ireturn hC dX11_greatest_50 hr ⟨rfl, Or.inl ⟨fk2 (by omega) (by omega), ?_, ?_, ?_⟩⟩ gs_rfl ⟨Nat.le_of_ble_eq_true rfl, Nat.le_of_ble_eq_true rfl⟩
  · rw [gr_mo hI (by omega)]
  · exact hx
  · exact OUX.rfl' _ _ _

theorem kX11_monthNights {E l Sh V z} {x9 cc9 : Int} {N : gN0} {P9 : Int → gN0} {m9 : Int} (hx : XR x9 N P9 cc9 Sh V) (hI0 : INV N) (h1 : inI m9) : gM E l yX11_monthNights (.code yX11_monthNights cX11_monthNights 3 (some .int)) (rmk 11 60 600 420) [(2, x9), (0, m9)] Sh V z (gRk (fitC (bI ((2000 ≤ m9 / 100 ∧ m9 / 100 ≤ 2099) ∧ 1 ≤ m9 % 100 ∧ m9 % 100 ≤ 12)) 1 1) gxA "" "" (0, mnT N m9 (N 5).toNat) (fun V' => XR x9 N P9 cc9 Sh V' ∧ OUX x9 Sh V V') (fun V' => XR x9 N P9 cc9 Sh V' ∧ OUX x9 Sh V V') Sh) := by
  refine gM_at (L0 := [(2, x9), (0, m9), (9, 0)]) rfl rfl rfl ?_
  intro p e s m args below meth c hC hr hex hnm hz
  have hI := hI0.1
  have hsc := hI.1
  unfold iScal at hsc
  obtain ⟨F9, hF9, hFd, hFi⟩ := fdF h1
  have hdF := dayZ_in F9
  refine gB hC _ _ _ _ _ _ _ qX11_monthNights_0 rfl ?_
  refine g_cS1i hC dX11_monthNights_1 mX11_285 sX11_firstDateOf (kX11_fd hF9 (by omega)) rfl rfl (Nat.le_of_ble_eq_true rfl) (RR rfl rfl rfl rfl) (fun z i1 => ?_)
  refine g_chkY hC dX11_monthNights_4 mX11_55 sX11_checkedDay (kX11_checkedDay (by omega)) rfl rfl (Nat.le_of_ble_eq_true rfl) (RR rfl rfl rfl rfl) (fun z q4 i4 => ?_) (fun z q4 => ?_)
  rotate_left
  · exact g_out hC hex ⟨rfl, Or.inr ⟨⟨hx, OUX.rfl' _ _ _⟩, (by first | exact Or.inl ⟨fl1 (fun h => by omega), rfl⟩ | exact Or.inr (Or.inl ⟨fl2 (by omega) (fun h => by omega), rfl⟩) | exact Or.inr (Or.inr ⟨fl3 (by omega) (by omega) (fun h => by omega), rfl⟩))⟩⟩ gs_rfl ⟨Nat.le_of_ble_eq_true rfl, Nat.le_of_ble_eq_true rfl⟩
  have hdz4 := dayZ_in F9
  refine gB hC _ _ _ _ _ _ _ qX11_monthNights_7 rfl ?_
  refine g_getr hC dX11_monthNights_9 fX11_10 hx.sX (by decide) rfl 0 rfl hx.p0 ?_
  refine g_getr hC dX11_monthNights_12 fX11_106 hx.1.2.1.sH (by decide) rfl 11 rfl hx.rh.2.1.p11 ?_
  refine gB hC _ _ _ _ _ _ _ qX11_monthNights_15 rfl ?_
  refine g_idiv hC dX11_monthNights_20 (by first | omega | exact cmpZ_in _ _ | exact bI_in _) (by first | omega | exact cmpZ_in _ _ | exact bI_in _) (by omega) (by omega) ?_
  refine gB hC _ _ _ _ _ _ _ qX11_monthNights_21 rfl ?_
  refine g_irem hC dX11_monthNights_24 (by first | omega | exact cmpZ_in _ _ | exact bI_in _) (by first | omega | exact cmpZ_in _ _ | exact bI_in _) (by omega) (by omega) ?_
  refine g_cS1i hC dX11_monthNights_25 mX11_288 sX0_inMonth (kX0_inMonth (by omega) (by omega) (by omega) (by omega)) rfl rfl (Nat.le_of_ble_eq_true rfl) (RR rfl rfl rfl rfl) (fun z i25 => ?_)
  have hbm := bM_in (y := m9 / 100) (m := m9 % 100) (by omega) (by omega)
  have hyb := yB_in (y := m9 / 100) (by omega) (by omega)
  have hlp := lp_01 (m9 / 100)
  refine gB hC _ _ _ _ _ _ _ qX11_monthNights_28 rfl ?_
  refine g_cV1i hC dX11_monthNights_31 mX11_291 vX9_paidNights (kX9_paidNights hx.rh hI (by omega) (by omega) (by omega) (by omega)) rfl hx.1.2.1.sT (by decide) rfl (Nat.le_of_ble_eq_true rfl) (RR rfl rfl rfl rfl) (fun z i31 => ?_)
  refine g_ireturn hC dX11_monthNights_34 hr ⟨rfl, Or.inl ⟨fk1 (by omega), ?_, ?_, ?_⟩⟩ gs_rfl ⟨Nat.le_of_ble_eq_true rfl, Nat.le_of_ble_eq_true rfl⟩
  · have eF : dayZ F9 = yB (m9 / 100) + bM (m9 / 100) (m9 % 100) := by omega
    have hmi : ∀ d, 0 ≤ d → d ≤ 36524 → (dateZ d / 100 = m9 ↔ dayZ F9 ≤ d ∧ d ≤ dayZ F9 + dIM (m9 / 100) (m9 % 100) - 1) := by
      intro d d0 d1; rw [eF]; exact mon_iff (by omega) (by omega) d0 d1
    rw [mnT_pn hI hmi _ (by omega)]
  · exact hx
  · exact OUX.rfl' _ _ _

theorem kX11_monthIncome {E l Sh V z} {x9 cc9 : Int} {N : gN0} {P9 : Int → gN0} {m9 : Int} (hx : XR x9 N P9 cc9 Sh V) (hI0 : INV N) (h1 : inI m9) : gM E l yX11_monthIncome (.code yX11_monthIncome cX11_monthIncome 3 (some .long)) (rmk 11 60 600 420) [(2, x9), (0, m9)] Sh V z (gRk (fitC (bI ((2000 ≤ m9 / 100 ∧ m9 / 100 ≤ 2099) ∧ 1 ≤ m9 % 100 ∧ m9 % 100 ≤ 12)) 1 1) gxA "" "" (1, miT N m9 (N 5).toNat) (fun V' => XR x9 N P9 cc9 Sh V' ∧ OUX x9 Sh V V') (fun V' => XR x9 N P9 cc9 Sh V' ∧ OUX x9 Sh V V') Sh) := by
  refine gM_at (L0 := [(2, x9), (0, m9), (9, 0)]) rfl rfl rfl ?_
  intro p e s m args below meth c hC hr hex hnm hz
  have hI := hI0.1
  have hsc := hI.1
  unfold iScal at hsc
  obtain ⟨F9, hF9, hFd, hFi⟩ := fdF h1
  have hdF := dayZ_in F9
  refine gB hC _ _ _ _ _ _ _ qX11_monthIncome_0 rfl ?_
  refine g_cS1i hC dX11_monthIncome_1 mX11_285 sX11_firstDateOf (kX11_fd hF9 (by omega)) rfl rfl (Nat.le_of_ble_eq_true rfl) (RR rfl rfl rfl rfl) (fun z i1 => ?_)
  refine g_chkY hC dX11_monthIncome_4 mX11_55 sX11_checkedDay (kX11_checkedDay (by omega)) rfl rfl (Nat.le_of_ble_eq_true rfl) (RR rfl rfl rfl rfl) (fun z q4 i4 => ?_) (fun z q4 => ?_)
  rotate_left
  · exact g_out hC hex ⟨rfl, Or.inr ⟨⟨hx, OUX.rfl' _ _ _⟩, (by first | exact Or.inl ⟨fl1 (fun h => by omega), rfl⟩ | exact Or.inr (Or.inl ⟨fl2 (by omega) (fun h => by omega), rfl⟩) | exact Or.inr (Or.inr ⟨fl3 (by omega) (by omega) (fun h => by omega), rfl⟩))⟩⟩ gs_rfl ⟨Nat.le_of_ble_eq_true rfl, Nat.le_of_ble_eq_true rfl⟩
  have hdz4 := dayZ_in F9
  refine gB hC _ _ _ _ _ _ _ qX11_monthIncome_7 rfl ?_
  refine g_getr hC dX11_monthIncome_9 fX11_10 hx.sX (by decide) rfl 0 rfl hx.p0 ?_
  refine g_getr hC dX11_monthIncome_12 fX11_106 hx.1.2.1.sH (by decide) rfl 11 rfl hx.rh.2.1.p11 ?_
  refine gB hC _ _ _ _ _ _ _ qX11_monthIncome_15 rfl ?_
  refine g_idiv hC dX11_monthIncome_20 (by first | omega | exact cmpZ_in _ _ | exact bI_in _) (by first | omega | exact cmpZ_in _ _ | exact bI_in _) (by omega) (by omega) ?_
  refine gB hC _ _ _ _ _ _ _ qX11_monthIncome_21 rfl ?_
  refine g_irem hC dX11_monthIncome_24 (by first | omega | exact cmpZ_in _ _ | exact bI_in _) (by first | omega | exact cmpZ_in _ _ | exact bI_in _) (by omega) (by omega) ?_
  refine g_cS1i hC dX11_monthIncome_25 mX11_288 sX0_inMonth (kX0_inMonth (by omega) (by omega) (by omega) (by omega)) rfl rfl (Nat.le_of_ble_eq_true rfl) (RR rfl rfl rfl rfl) (fun z i25 => ?_)
  have hbm := bM_in (y := m9 / 100) (m := m9 % 100) (by omega) (by omega)
  have hyb := yB_in (y := m9 / 100) (by omega) (by omega)
  have hlp := lp_01 (m9 / 100)
  refine gB hC _ _ _ _ _ _ _ qX11_monthIncome_28 rfl ?_
  refine g_cV1l hC dX11_monthIncome_31 mX11_294 vX9_paidIncome (kX9_paidIncome hx.rh hI (by omega) (by omega)) rfl hx.1.2.1.sT (by decide) rfl (Nat.le_of_ble_eq_true rfl) (RR rfl rfl rfl rfl) (fun z i31 => ?_)
  refine g_lreturn hC dX11_monthIncome_34 hr ⟨rfl, Or.inl ⟨fk1 (by omega), ?_, ?_, ?_⟩⟩ gs_rfl ⟨Nat.le_of_ble_eq_true rfl, Nat.le_of_ble_eq_true rfl⟩
  · have eF : dayZ F9 = yB (m9 / 100) + bM (m9 / 100) (m9 % 100) := by omega
    have hmi : ∀ d, 0 ≤ d → d ≤ 36524 → (dateZ d / 100 = m9 ↔ dayZ F9 ≤ d ∧ d ≤ dayZ F9 + dIM (m9 / 100) (m9 % 100) - 1) := by
      intro d d0 d1; rw [eF]; exact mon_iff (by omega) (by omega) d0 d1
    rw [miT_pi hI hmi _ (by omega)]
  · exact hx
  · exact OUX.rfl' _ _ _
