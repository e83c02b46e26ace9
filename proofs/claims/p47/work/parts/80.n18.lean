/-! the class: what it tells (rows laid by wip/whole/n80.py) -/
theorem kX11_today {E l Sh V z} {x9 cc9 : Int} {N : gN0} {P9 : Int → gN0} (hx : XR x9 N P9 cc9 Sh V) (hI0 : INV N) : gM E l yX11_today (.code yX11_today cX11_today 1 (some .int)) (rmk 11 60 600 420) [(2, x9)] Sh V z (gRe (some (0, dateZ (N 0))) (fun V' => XR x9 N P9 cc9 Sh V' ∧ OUX x9 Sh V V') Sh) := by
  refine gM_at (L0 := [(2, x9)]) rfl rfl rfl ?_
  intro p e s m args below meth c hC hr hex hnm hz
  have hI := hI0.1
  have hsc := hI.1
  unfold iScal at hsc
  refine gB hC _ _ _ _ _ _ _ qX11_today_0 rfl ?_
  refine g_getr hC dX11_today_1 fX11_10 hx.sX (by decide) rfl 0 rfl hx.p0 ?_
  refine g_getiv hC dX11_today_4 fX11_155 hx.1.2.1.sH (by decide) rfl 0 rfl hx.rh.t0 (fun i4 => ?_)
  refine g_cS1i hC dX11_today_7 mX11_181 sX0_dateOf (kX0_dateOf (by omega) (by omega)) rfl rfl (Nat.le_of_ble_eq_true rfl) (RR rfl rfl rfl rfl) (fun z i7 => ?_)
  refine g_ireturn hC dX11_today_10 hr ⟨?_, rfl, ?_, ?_⟩ gs_rfl ⟨Nat.le_of_ble_eq_true rfl, Nat.le_of_ble_eq_true rfl⟩
  · rfl
  · exact hx
  · exact OUX.rfl' _ _ _

theorem kX11_waiting {E l Sh V z} {x9 cc9 : Int} {N : gN0} {P9 : Int → gN0} (hx : XR x9 N P9 cc9 Sh V) (hI0 : INV N) : gM E l yX11_waiting (.code yX11_waiting cX11_waiting 1 (some .int)) (rmk 11 60 600 420) [(2, x9)] Sh V z (gRe (some (0, N 7)) (fun V' => XR x9 N P9 cc9 Sh V' ∧ OUX x9 Sh V V') Sh) := by
  refine gM_at (L0 := [(2, x9)]) rfl rfl rfl ?_
  intro p e s m args below meth c hC hr hex hnm hz
  have hI := hI0.1
  have hsc := hI.1
  unfold iScal at hsc
  refine gB hC _ _ _ _ _ _ _ qX11_waiting_0 rfl ?_
  refine g_getr hC dX11_waiting_1 fX11_10 hx.sX (by decide) rfl 0 rfl hx.p0 ?_
  refine g_getiv hC dX11_waiting_4 fX11_128 hx.1.2.1.sH (by decide) rfl 4 rfl hx.rh.t4 (fun i4 => ?_)
  refine g_ireturn hC dX11_waiting_7 hr ⟨?_, rfl, ?_, ?_⟩ gs_rfl ⟨Nat.le_of_ble_eq_true rfl, Nat.le_of_ble_eq_true rfl⟩
  · rfl
  · exact hx
  · exact OUX.rfl' _ _ _

theorem kX11_refusedNight {E l Sh V z} {x9 cc9 : Int} {N : gN0} {P9 : Int → gN0} (hx : XR x9 N P9 cc9 Sh V) (hI0 : INV N) : gM E l yX11_refusedNight (.code yX11_refusedNight cX11_refusedNight 1 (some .int)) (rmk 11 60 600 420) [(2, x9)] Sh V z (gRe (some (0, N 8)) (fun V' => XR x9 N P9 cc9 Sh V' ∧ OUX x9 Sh V V') Sh) := by
  refine gM_at (L0 := [(2, x9)]) rfl rfl rfl ?_
  intro p e s m args below meth c hC hr hex hnm hz
  have hI := hI0.1
  have hsc := hI.1
  unfold iScal at hsc
  have hr1 := hx.rh.t1
  unfold rfR at hr1
  refine gB hC _ _ _ _ _ _ _ qX11_refusedNight_0 rfl ?_
  refine g_getr hC dX11_refusedNight_1 fX11_10 hx.sX (by decide) rfl 0 rfl hx.p0 ?_
  refine g_geti hC dX11_refusedNight_4 fX11_241 hx.1.2.1.sH (by decide) rfl 1 rfl (fun i4 => ?_)
  refine gB hC _ _ _ _ _ _ _ qX11_refusedNight_7 rfl ?_
  refine g_icmp_ne hC 15 dX11_refusedNight_8 rfl (by first | omega | exact cmpZ_in _ _ | exact bI_in _) (by first | omega | exact cmpZ_in _ _ | exact bI_in _) (fun c8 => ?_) (fun c8 => ?_)
  · refine gB hC _ _ _ _ _ _ _ qX11_refusedNight_15 rfl ?_
    refine g_getr hC dX11_refusedNight_16 fX11_10 hx.sX (by decide) rfl 0 rfl hx.p0 ?_
    refine g_geti hC dX11_refusedNight_19 fX11_241 hx.1.2.1.sH (by decide) rfl 1 rfl (fun i19 => ?_)
    refine g_cS1i hC dX11_refusedNight_22 mX11_181 sX0_dateOf (kX0_dateOf (by omega) (by omega)) rfl rfl (Nat.le_of_ble_eq_true rfl) (RR rfl rfl rfl rfl) (fun z i22 => ?_)
    refine g_ireturn hC dX11_refusedNight_25 hr ⟨?_, rfl, ?_, ?_⟩ gs_rfl ⟨Nat.le_of_ble_eq_true rfl, Nat.le_of_ble_eq_true rfl⟩
    · congr 3
      have hq := hr1.resolve_left (by omega)
      exact hq.2.2.symm
    · exact hx
    · exact OUX.rfl' _ _ _
  · refine gB hC _ _ _ _ _ _ _ qX11_refusedNight_11 rfl ?_
    refine g_ireturn hC dX11_refusedNight_25 hr ⟨?_, rfl, ?_, ?_⟩ gs_rfl ⟨Nat.le_of_ble_eq_true rfl, Nat.le_of_ble_eq_true rfl⟩
    · congr 3; omega
    · exact hx
    · exact OUX.rfl' _ _ _

theorem kX11_checksum {E l Sh V z} {x9 cc9 : Int} {N : gN0} {P9 : Int → gN0} (hx : XR x9 N P9 cc9 Sh V) (hI0 : INV N) : gM E l yX11_checksum (.code yX11_checksum cX11_checksum 1 (some .int)) (rmk 11 60 600 420) [(2, x9)] Sh V z (gRe (some (0, wI (31 * ckZ N (N 5).toNat + dateZ (N 0)))) (fun V' => XR x9 N P9 cc9 Sh V' ∧ OUX x9 Sh V V') Sh) := by
  refine gM_at (L0 := [(2, x9)]) rfl rfl rfl ?_
  intro p e s m args below meth c hC hr hex hnm hz
  have hI := hI0.1
  have hsc := hI.1
  unfold iScal at hsc
  refine gB hC _ _ _ _ _ _ _ qX11_checksum_0 rfl ?_
  refine g_getr hC dX11_checksum_1 fX11_10 hx.sX (by decide) rfl 0 rfl hx.p0 ?_
  refine g_getr hC dX11_checksum_4 fX11_106 hx.1.2.1.sH (by decide) rfl 11 rfl hx.rh.2.1.p11 ?_
  refine gB hC _ _ _ _ _ _ _ qX11_checksum_7 rfl ?_
  refine g_cV1i hC dX11_checksum_9 mX11_302 vX9_mixed (kX9_mixed hx.rh hI0.1) rfl hx.1.2.1.sT (by decide) rfl (Nat.le_of_ble_eq_true rfl) (RR rfl rfl rfl rfl) (fun z i9 => ?_)
  refine gB hC _ _ _ _ _ _ _ qX11_checksum_12 rfl ?_
  refine g_getr hC dX11_checksum_16 fX11_10 hx.sX (by decide) rfl 0 rfl hx.p0 ?_
  refine g_getiv hC dX11_checksum_19 fX11_155 hx.1.2.1.sH (by decide) rfl 0 rfl hx.rh.t0 (fun i19 => ?_)
  refine g_cS1i hC dX11_checksum_22 mX11_181 sX0_dateOf (kX0_dateOf (by omega) (by omega)) rfl rfl (Nat.le_of_ble_eq_true rfl) (RR rfl rfl rfl rfl) (fun z i22 => ?_)
  refine gB hC _ _ _ _ _ _ _ qX11_checksum_25 rfl ?_
  refine g_wrap1 ?_
  have e9 : wI (wI (ckZ N (N 5).toNat) * 31 + dateZ (N 0)) = wI (31 * ckZ N (N 5).toNat + dateZ (N 0)) := by
    unfold wI
    rw [← iI_add, ← iI_mul, iI_of, iI_mul, iI_add, Int.mul_comm]
  rw [e9]
  refine g_ireturn hC dX11_checksum_26 hr ⟨rfl, rfl, hx, OUX.rfl' _ _ _⟩ gs_rfl ⟨Nat.le_of_ble_eq_true rfl, Nat.le_of_ble_eq_true rfl⟩

theorem kX11_dayOfWeek {E l Sh V z} {x9 cc9 : Int} {N : gN0} {P9 : Int → gN0} {d9 : Int} (hx : XR x9 N P9 cc9 Sh V) (hI0 : INV N) (h1 : inI d9) : gM E l yX11_dayOfWeek (.code yX11_dayOfWeek cX11_dayOfWeek 2 (some .int)) (rmk 11 60 600 420) [(2, x9), (0, d9)] Sh V z (gRk (fitC (bI (dayZ d9 ≠ -1)) 1 1) gxA "" "" (0, wdZ (dayZ d9)) (fun V' => XR x9 N P9 cc9 Sh V' ∧ OUX x9 Sh V V') (fun V' => XR x9 N P9 cc9 Sh V' ∧ OUX x9 Sh V V') Sh) := by
  refine gM_at (L0 := [(2, x9), (0, d9)]) rfl rfl rfl ?_
  intro p e s m args below meth c hC hr hex hnm hz
  have hI := hI0.1
  have hsc := hI.1
  unfold iScal at hsc
  refine gB hC _ _ _ _ _ _ _ qX11_dayOfWeek_0 rfl ?_
  refine g_chkY hC dX11_dayOfWeek_1 mX11_55 sX11_checkedDay (kX11_checkedDay (by omega)) rfl rfl (Nat.le_of_ble_eq_true rfl) (RR rfl rfl rfl rfl) (fun z q1 i1 => ?_) (fun z q1 => ?_)
  rotate_left
  · exact g_out hC hex ⟨rfl, Or.inr ⟨⟨hx, OUX.rfl' _ _ _⟩, (by first | exact Or.inl ⟨fl1 (fun h => by omega), rfl⟩ | exact Or.inr (Or.inl ⟨fl2 (by omega) (fun h => by omega), rfl⟩) | exact Or.inr (Or.inr ⟨fl3 (by omega) (by omega) (fun h => by omega), rfl⟩))⟩⟩ gs_rfl ⟨Nat.le_of_ble_eq_true rfl, Nat.le_of_ble_eq_true rfl⟩
  have hdz1 := dayZ_in d9
  refine g_cS1i hC dX11_dayOfWeek_4 mX11_227 sX0_weekdayOf (kX0_weekdayOf (by omega) (by omega)) rfl rfl (Nat.le_of_ble_eq_true rfl) (RR rfl rfl rfl rfl) (fun z i4 => ?_)
  refine g_ireturn hC dX11_dayOfWeek_7 hr ⟨rfl, Or.inl ⟨fk1 (by omega), ?_, ?_, ?_⟩⟩ gs_rfl ⟨Nat.le_of_ble_eq_true rfl, Nat.le_of_ble_eq_true rfl⟩
  · rfl
  · exact hx
  · exact OUX.rfl' _ _ _

theorem kX11_addDays {E l Sh V z} {x9 cc9 : Int} {N : gN0} {P9 : Int → gN0} {d9 n9 : Int} (hx : XR x9 N P9 cc9 Sh V) (hI0 : INV N) (h1 : inI d9) (h2 : inI n9) : gM E l yX11_addDays (.code yX11_addDays cX11_addDays 4 (some .int)) (rmk 11 60 600 420) [(2, x9), (0, d9), (0, n9)] Sh V z (gRk (fitC (bI (dayZ d9 ≠ -1 ∧ (-1000 ≤ n9 ∧ n9 ≤ 1000) ∧ 0 ≤ dayZ d9 + n9 ∧ dayZ d9 + n9 ≤ 36524)) 1 1) gxA "" "" (0, dateZ (dayZ d9 + n9)) (fun V' => XR x9 N P9 cc9 Sh V' ∧ OUX x9 Sh V V') (fun V' => XR x9 N P9 cc9 Sh V' ∧ OUX x9 Sh V V') Sh) := by
  refine gM_at (L0 := [(2, x9), (0, d9), (0, n9), (9, 0)]) rfl rfl rfl ?_
  intro p e s m args below meth c hC hr hex hnm hz
  have hI := hI0.1
  have hsc := hI.1
  unfold iScal at hsc
  refine gB hC _ _ _ _ _ _ _ qX11_addDays_0 rfl ?_
  refine g_chkY hC dX11_addDays_1 mX11_55 sX11_checkedDay (kX11_checkedDay (by omega)) rfl rfl (Nat.le_of_ble_eq_true rfl) (RR rfl rfl rfl rfl) (fun z q1 i1 => ?_) (fun z q1 => ?_)
  rotate_left
  · exact g_out hC hex ⟨rfl, Or.inr ⟨⟨hx, OUX.rfl' _ _ _⟩, (by first | exact Or.inl ⟨fl1 (fun h => by omega), rfl⟩ | exact Or.inr (Or.inl ⟨fl2 (by omega) (fun h => by omega), rfl⟩) | exact Or.inr (Or.inr ⟨fl3 (by omega) (by omega) (fun h => by omega), rfl⟩))⟩⟩ gs_rfl ⟨Nat.le_of_ble_eq_true rfl, Nat.le_of_ble_eq_true rfl⟩
  have hdz1 := dayZ_in d9
  refine gB hC _ _ _ _ _ _ _ qX11_addDays_4 rfl ?_
  refine g_chkS hC dX11_addDays_12 mX11_34 sX11_checkWithin (kX11_checkWithin (by omega) (by omega) (by omega)) rfl rfl (Nat.le_of_ble_eq_true rfl) (RR rfl rfl rfl rfl) (fun z q12 => ?_) (fun z q12 => ?_)
  rotate_left
  · exact g_out hC hex ⟨rfl, Or.inr ⟨⟨hx, OUX.rfl' _ _ _⟩, (by first | exact Or.inl ⟨fl1 (fun h => by omega), rfl⟩ | exact Or.inr (Or.inl ⟨fl2 (by omega) (fun h => by omega), rfl⟩) | exact Or.inr (Or.inr ⟨fl3 (by omega) (by omega) (fun h => by omega), rfl⟩))⟩⟩ gs_rfl ⟨Nat.le_of_ble_eq_true rfl, Nat.le_of_ble_eq_true rfl⟩
  refine gB hC _ _ _ _ _ _ _ qX11_addDays_15 rfl ?_
  refine g_ldc hC 36524 kX11_230 rfl dX11_addDays_19 ?_
  refine g_chkS hC dX11_addDays_21 mX11_34 sX11_checkWithin (kX11_checkWithin (by omega) (by omega) (by omega)) rfl rfl (Nat.le_of_ble_eq_true rfl) (RR rfl rfl rfl rfl) (fun z q21 => ?_) (fun z q21 => ?_)
  rotate_left
  · exact g_out hC hex ⟨rfl, Or.inr ⟨⟨hx, OUX.rfl' _ _ _⟩, (by first | exact Or.inl ⟨fl1 (fun h => by omega), rfl⟩ | exact Or.inr (Or.inl ⟨fl2 (by omega) (fun h => by omega), rfl⟩) | exact Or.inr (Or.inr ⟨fl3 (by omega) (by omega) (fun h => by omega), rfl⟩))⟩⟩ gs_rfl ⟨Nat.le_of_ble_eq_true rfl, Nat.le_of_ble_eq_true rfl⟩
  refine gB hC _ _ _ _ _ _ _ qX11_addDays_24 rfl ?_
  refine g_cS1i hC dX11_addDays_27 mX11_181 sX0_dateOf (kX0_dateOf (by omega) (by omega)) rfl rfl (Nat.le_of_ble_eq_true rfl) (RR rfl rfl rfl rfl) (fun z i27 => ?_)
  refine g_ireturn hC dX11_addDays_30 hr ⟨rfl, Or.inl ⟨fk1 (by omega), ?_, ?_, ?_⟩⟩ gs_rfl ⟨Nat.le_of_ble_eq_true rfl, Nat.le_of_ble_eq_true rfl⟩
  · rfl
  · exact hx
  · exact OUX.rfl' _ _ _

theorem kX11_count {E l Sh V z} {x9 cc9 : Int} {N : gN0} {P9 : Int → gN0} {k9 d9 : Int} (hx : XR x9 N P9 cc9 Sh V) (hI0 : INV N) (h1 : inI k9) (h2 : inI d9) : gM E l yX11_count (.code yX11_count cX11_count 3 (some .int)) (rmk 11 60 600 420) [(2, x9), (0, k9), (0, d9)] Sh V z (gRk (fitC (bI (0 ≤ k9 ∧ k9 ≤ N 1 - 1)) (bI (dayZ d9 ≠ -1)) 1) gxI gxA "" (0, cnt N k9 (dayZ d9)) (fun V' => XR x9 N P9 cc9 Sh V' ∧ OUX x9 Sh V V') (fun V' => XR x9 N P9 cc9 Sh V' ∧ OUX x9 Sh V V') Sh) := by
  refine gM_at (L0 := [(2, x9), (0, k9), (0, d9)]) rfl rfl rfl ?_
  intro p e s m args below meth c hC hr hex hnm hz
  have hI := hI0.1
  have hsc := hI.1
  unfold iScal at hsc
  refine gB hC _ _ _ _ _ _ _ qX11_count_0 rfl ?_
  refine g_getr hC dX11_count_2 fX11_10 hx.sX (by decide) rfl 0 rfl hx.p0 ?_
  refine g_getiv hC dX11_count_5 fX11_39 hx.1.2.1.sH (by decide) rfl 2 rfl hx.rh.t2 (fun i5 => ?_)
  refine g_chkS hC dX11_count_8 mX11_51 sX11_checkIndex (kX11_checkIndex (by omega) (by omega)) rfl rfl (Nat.le_of_ble_eq_true rfl) (RR rfl rfl rfl rfl) (fun z q8 => ?_) (fun z q8 => ?_)
  rotate_left
  · exact g_out hC hex ⟨rfl, Or.inr ⟨⟨hx, OUX.rfl' _ _ _⟩, (by first | exact Or.inl ⟨fl1 (fun h => by omega), rfl⟩ | exact Or.inr (Or.inl ⟨fl2 (by omega) (fun h => by omega), rfl⟩) | exact Or.inr (Or.inr ⟨fl3 (by omega) (by omega) (fun h => by omega), rfl⟩))⟩⟩ gs_rfl ⟨Nat.le_of_ble_eq_true rfl, Nat.le_of_ble_eq_true rfl⟩
  refine gB hC _ _ _ _ _ _ _ qX11_count_11 rfl ?_
  refine g_getr hC dX11_count_12 fX11_10 hx.sX (by decide) rfl 0 rfl hx.p0 ?_
  refine g_getr hC dX11_count_15 fX11_106 hx.1.2.1.sH (by decide) rfl 11 rfl hx.rh.2.1.p11 ?_
  refine gB hC _ _ _ _ _ _ _ qX11_count_18 rfl ?_
  refine g_chkY hC dX11_count_20 mX11_55 sX11_checkedDay (kX11_checkedDay (by omega)) rfl rfl (Nat.le_of_ble_eq_true rfl) (RR rfl rfl rfl rfl) (fun z q20 i20 => ?_) (fun z q20 => ?_)
  rotate_left
  · exact g_out hC hex ⟨rfl, Or.inr ⟨⟨hx, OUX.rfl' _ _ _⟩, (by first | exact Or.inl ⟨fl1 (fun h => by omega), rfl⟩ | exact Or.inr (Or.inl ⟨fl2 (by omega) (fun h => by omega), rfl⟩) | exact Or.inr (Or.inr ⟨fl3 (by omega) (by omega) (fun h => by omega), rfl⟩))⟩⟩ gs_rfl ⟨Nat.le_of_ble_eq_true rfl, Nat.le_of_ble_eq_true rfl⟩
  have hdz20 := dayZ_in d9
  refine g_cV1i hC dX11_count_23 mX11_231 vX9_countOn (kX9_countOn hx.rh hI (by omega) (by omega)) rfl hx.1.2.1.sT (by decide) rfl (Nat.le_of_ble_eq_true rfl) (RR rfl rfl rfl rfl) (fun z i23 => ?_)
  refine g_ireturn hC dX11_count_26 hr ⟨rfl, Or.inl ⟨fk2 (by omega) (by omega), ?_, ?_, ?_⟩⟩ gs_rfl ⟨Nat.le_of_ble_eq_true rfl, Nat.le_of_ble_eq_true rfl⟩
  · rfl
  · exact hx
  · exact OUX.rfl' _ _ _

theorem kX11_priceOf {E l Sh V z} {x9 cc9 : Int} {N : gN0} {P9 : Int → gN0} {k9 d9 : Int} (hx : XR x9 N P9 cc9 Sh V) (hI0 : INV N) (h1 : inI k9) (h2 : inI d9) : gM E l yX11_priceOf (.code yX11_priceOf cX11_priceOf 3 (some .int)) (rmk 11 60 600 420) [(2, x9), (0, k9), (0, d9)] Sh V z (gRk (fitC (bI (0 ≤ k9 ∧ k9 ≤ N 1 - 1)) (bI (dayZ d9 ≠ -1)) 1) gxI gxA "" (0, nPr N k9 (dayZ d9)) (fun V' => XR x9 N P9 cc9 Sh V' ∧ OUX x9 Sh V V') (fun V' => XR x9 N P9 cc9 Sh V' ∧ OUX x9 Sh V V') Sh) := by
  refine gM_at (L0 := [(2, x9), (0, k9), (0, d9)]) rfl rfl rfl ?_
  intro p e s m args below meth c hC hr hex hnm hz
  have hI := hI0.1
  have hsc := hI.1
  unfold iScal at hsc
  refine gB hC _ _ _ _ _ _ _ qX11_priceOf_0 rfl ?_
  refine g_getr hC dX11_priceOf_2 fX11_10 hx.sX (by decide) rfl 0 rfl hx.p0 ?_
  refine g_getiv hC dX11_priceOf_5 fX11_39 hx.1.2.1.sH (by decide) rfl 2 rfl hx.rh.t2 (fun i5 => ?_)
  refine g_chkS hC dX11_priceOf_8 mX11_51 sX11_checkIndex (kX11_checkIndex (by omega) (by omega)) rfl rfl (Nat.le_of_ble_eq_true rfl) (RR rfl rfl rfl rfl) (fun z q8 => ?_) (fun z q8 => ?_)
  rotate_left
  · exact g_out hC hex ⟨rfl, Or.inr ⟨⟨hx, OUX.rfl' _ _ _⟩, (by first | exact Or.inl ⟨fl1 (fun h => by omega), rfl⟩ | exact Or.inr (Or.inl ⟨fl2 (by omega) (fun h => by omega), rfl⟩) | exact Or.inr (Or.inr ⟨fl3 (by omega) (by omega) (fun h => by omega), rfl⟩))⟩⟩ gs_rfl ⟨Nat.le_of_ble_eq_true rfl, Nat.le_of_ble_eq_true rfl⟩
  refine gB hC _ _ _ _ _ _ _ qX11_priceOf_11 rfl ?_
  refine g_getr hC dX11_priceOf_12 fX11_10 hx.sX (by decide) rfl 0 rfl hx.p0 ?_
  refine gB hC _ _ _ _ _ _ _ qX11_priceOf_15 rfl ?_
  refine g_chkY hC dX11_priceOf_17 mX11_55 sX11_checkedDay (kX11_checkedDay (by omega)) rfl rfl (Nat.le_of_ble_eq_true rfl) (RR rfl rfl rfl rfl) (fun z q17 i17 => ?_) (fun z q17 => ?_)
  rotate_left
  · exact g_out hC hex ⟨rfl, Or.inr ⟨⟨hx, OUX.rfl' _ _ _⟩, (by first | exact Or.inl ⟨fl1 (fun h => by omega), rfl⟩ | exact Or.inr (Or.inl ⟨fl2 (by omega) (fun h => by omega), rfl⟩) | exact Or.inr (Or.inr ⟨fl3 (by omega) (by omega) (fun h => by omega), rfl⟩))⟩⟩ gs_rfl ⟨Nat.le_of_ble_eq_true rfl, Nat.le_of_ble_eq_true rfl⟩
  have hdz17 := dayZ_in d9
  refine g_cV1i hC dX11_priceOf_20 mX11_257 vX2_nightPrice (kX2_nightPrice hx.rh hI (by omega) (by omega) (by omega) (by omega)) rfl hx.1.2.1.sH (by decide) rfl (Nat.le_of_ble_eq_true rfl) (RR rfl rfl rfl rfl) (fun z i20 => ?_)
  refine g_ireturn hC dX11_priceOf_23 hr ⟨rfl, Or.inl ⟨fk2 (by omega) (by omega), ?_, ?_, ?_⟩⟩ gs_rfl ⟨Nat.le_of_ble_eq_true rfl, Nat.le_of_ble_eq_true rfl⟩
  · rfl
  · exact hx
  · exact OUX.rfl' _ _ _

theorem kX11_stayAt {E l Sh V z} {x9 cc9 : Int} {N : gN0} {P9 : Int → gN0} {s9 w9 : Int} (hx : XR x9 N P9 cc9 Sh V) (hI0 : INV N) (h1 : inI s9) (h2 : inI w9) : gM E l yX11_stayAt (.code yX11_stayAt cX11_stayAt 4 (some .int)) (rmk 11 60 600 420) [(2, x9), (0, s9), (0, w9)] Sh V z (gRk (fitC (bI (0 ≤ s9 ∧ s9 ≤ N 5 - 1)) (bI (0 ≤ w9 ∧ w9 ≤ 8)) 1) gxI gxA "" (0, stZ N s9 w9) (fun V' => XR x9 N P9 cc9 Sh V' ∧ OUX x9 Sh V V') (fun V' => XR x9 N P9 cc9 Sh V' ∧ OUX x9 Sh V V') Sh) := by
  refine gM_at (L0 := [(2, x9), (0, s9), (0, w9), (9, 0)]) rfl rfl rfl ?_
  intro p e s m args below meth c hC hr hex hnm hz
  have hI := hI0.1
  have hsc := hI.1
  unfold iScal at hsc
  refine gB hC _ _ _ _ _ _ _ qX11_stayAt_0 rfl ?_
  refine g_chkVo hC dX11_stayAt_2 mX11_135 vX11_checkedStay (kX11_checkedStay hx hI0 (by omega)) rfl hx.sX (by decide) rfl (Nat.le_of_ble_eq_true rfl) (RR rfl rfl rfl rfl) (fun z q2 => ?_) (fun z q2 => ?_)
  rotate_left
  · exact g_out hC hex ⟨rfl, Or.inr ⟨⟨hx, OUX.rfl' _ _ _⟩, (by first | exact Or.inl ⟨fl1 (fun h => by omega), rfl⟩ | exact Or.inr (Or.inl ⟨fl2 (by omega) (fun h => by omega), rfl⟩) | exact Or.inr (Or.inr ⟨fl3 (by omega) (by omega) (fun h => by omega), rfl⟩))⟩⟩ gs_rfl ⟨Nat.le_of_ble_eq_true rfl, Nat.le_of_ble_eq_true rfl⟩
  refine gB hC _ _ _ _ _ _ _ qX11_stayAt_5 rfl ?_
  refine g_chkS hC dX11_stayAt_10 mX11_34 sX11_checkWithin (kX11_checkWithin (by omega) (by omega) (by omega)) rfl rfl (Nat.le_of_ble_eq_true rfl) (RR rfl rfl rfl rfl) (fun z q10 => ?_) (fun z q10 => ?_)
  rotate_left
  · exact g_out hC hex ⟨rfl, Or.inr ⟨⟨hx, OUX.rfl' _ _ _⟩, (by first | exact Or.inl ⟨fl1 (fun h => by omega), rfl⟩ | exact Or.inr (Or.inl ⟨fl2 (by omega) (fun h => by omega), rfl⟩) | exact Or.inr (Or.inr ⟨fl3 (by omega) (by omega) (fun h => by omega), rfl⟩))⟩⟩ gs_rfl ⟨Nat.le_of_ble_eq_true rfl, Nat.le_of_ble_eq_true rfl⟩
  refine gB hC _ _ _ _ _ _ _ qX11_stayAt_13 rfl ?_
  refine g_cV1i hC dX11_stayAt_15 mX11_244 vX8_tell (kX8_tell (hx.1.2.1.ss (by omega) (by omega)) (hx.rh.st (by omega) (by omega)) (hI.2.2.2.1 _ (by omega) (by omega)) (by omega) (by omega) (by omega)) rfl (hx.1.2.1.ss (by omega) (by omega)) (by decide) rfl (Nat.le_of_ble_eq_true rfl) (RR rfl rfl rfl rfl) (fun z i15 => ?_)
  refine g_ireturn hC dX11_stayAt_18 hr ⟨rfl, Or.inl ⟨fk2 (by omega) (by omega), ?_, ?_, ?_⟩⟩ gs_rfl ⟨Nat.le_of_ble_eq_true rfl, Nat.le_of_ble_eq_true rfl⟩
  · rfl
  · exact hx
  · exact OUX.rfl' _ _ _

theorem kX11_refund {E l Sh V z} {x9 cc9 : Int} {N : gN0} {P9 : Int → gN0} {s9 : Int} (hx : XR x9 N P9 cc9 Sh V) (hI0 : INV N) (h1 : inI s9) : gM E l yX11_refund (.code yX11_refund cX11_refund 2 (some .int)) (rmk 11 60 600 420) [(2, x9), (0, s9)] Sh V z (gRk (fitC (bI (0 ≤ s9 ∧ s9 ≤ N 5 - 1)) 1 1) gxI "" "" (0, rfO N s9) (fun V' => XR x9 N P9 cc9 Sh V' ∧ OUX x9 Sh V V') (fun V' => XR x9 N P9 cc9 Sh V' ∧ OUX x9 Sh V V') Sh) := by
  refine gM_at (L0 := [(2, x9), (0, s9)]) rfl rfl rfl ?_
  intro p e s m args below meth c hC hr hex hnm hz
  have hI := hI0.1
  have hsc := hI.1
  unfold iScal at hsc
  refine gB hC _ _ _ _ _ _ _ qX11_refund_0 rfl ?_
  refine g_chkVo hC dX11_refund_2 mX11_135 vX11_checkedStay (kX11_checkedStay hx hI0 (by omega)) rfl hx.sX (by decide) rfl (Nat.le_of_ble_eq_true rfl) (RR rfl rfl rfl rfl) (fun z q2 => ?_) (fun z q2 => ?_)
  rotate_left
  · exact g_out hC hex ⟨rfl, Or.inr ⟨⟨hx, OUX.rfl' _ _ _⟩, (by first | exact Or.inl ⟨fl1 (fun h => by omega), rfl⟩ | exact Or.inr (Or.inl ⟨fl2 (by omega) (fun h => by omega), rfl⟩) | exact Or.inr (Or.inr ⟨fl3 (by omega) (by omega) (fun h => by omega), rfl⟩))⟩⟩ gs_rfl ⟨Nat.le_of_ble_eq_true rfl, Nat.le_of_ble_eq_true rfl⟩
  refine gB hC _ _ _ _ _ _ _ qX11_refund_5 rfl ?_
  refine g_getr hC dX11_refund_6 fX11_10 hx.sX (by decide) rfl 0 rfl hx.p0 ?_
  refine g_getiv hC dX11_refund_9 fX11_155 hx.1.2.1.sH (by decide) rfl 0 rfl hx.rh.t0 (fun i9 => ?_)
  refine g_cV1i hC dX11_refund_12 mX11_260 vX8_refundOn (kX8_refundOn (hx.1.2.1.ss (by omega) (by omega)) (hx.rh.st (by omega) (by omega)) (hI.2.2.2.1 _ (by omega) (by omega)) rfl (by omega) (by omega)) rfl (hx.1.2.1.ss (by omega) (by omega)) (by decide) rfl (Nat.le_of_ble_eq_true rfl) (RR rfl rfl rfl rfl) (fun z i12 => ?_)
  refine g_ireturn hC dX11_refund_15 hr ⟨rfl, Or.inl ⟨fk1 (by omega), ?_, ?_, ?_⟩⟩ gs_rfl ⟨Nat.le_of_ble_eq_true rfl, Nat.le_of_ble_eq_true rfl⟩
  · rfl
  · exact hx
  · exact OUX.rfl' _ _ _

theorem kX11_book {E l Sh V z} {x9 cc9 : Int} {N : gN0} {P9 : Int → gN0} {b9 : Int} (hx : XR x9 N P9 cc9 Sh V) (hI0 : INV N) (h1 : inI b9) : gM E l yX11_book (.code yX11_book cX11_book 2 (some .long)) (rmk 11 60 600 420) [(2, x9), (0, b9)] Sh V z (gRk (fitC (bI (0 ≤ b9 ∧ b9 ≤ 3)) 1 1) gxI "" "" (1, N (9 + b9)) (fun V' => XR x9 N P9 cc9 Sh V' ∧ OUX x9 Sh V V') (fun V' => XR x9 N P9 cc9 Sh V' ∧ OUX x9 Sh V V') Sh) := by
  refine gM_at (L0 := [(2, x9), (0, b9)]) rfl rfl rfl ?_
  intro p e s m args below meth c hC hr hex hnm hz
  have hI := hI0.1
  have hsc := hI.1
  unfold iScal at hsc
  refine gB hC _ _ _ _ _ _ _ qX11_book_0 rfl ?_
  refine g_chkS hC dX11_book_2 mX11_51 sX11_checkIndex (kX11_checkIndex (by omega) (by omega)) rfl rfl (Nat.le_of_ble_eq_true rfl) (RR rfl rfl rfl rfl) (fun z q2 => ?_) (fun z q2 => ?_)
  rotate_left
  · exact g_out hC hex ⟨rfl, Or.inr ⟨⟨hx, OUX.rfl' _ _ _⟩, (by first | exact Or.inl ⟨fl1 (fun h => by omega), rfl⟩ | exact Or.inr (Or.inl ⟨fl2 (by omega) (fun h => by omega), rfl⟩) | exact Or.inr (Or.inr ⟨fl3 (by omega) (by omega) (fun h => by omega), rfl⟩))⟩⟩ gs_rfl ⟨Nat.le_of_ble_eq_true rfl, Nat.le_of_ble_eq_true rfl⟩
  refine gB hC _ _ _ _ _ _ _ qX11_book_5 rfl ?_
  refine g_getr hC dX11_book_6 fX11_10 hx.sX (by decide) rfl 0 rfl hx.p0 ?_
  refine g_getr hC dX11_book_9 fX11_263 hx.1.2.1.sH (by decide) rfl 12 rfl hx.rh.2.1.p12 ?_
  refine gB hC _ _ _ _ _ _ _ qX11_book_12 rfl ?_
  refine g_lald hC dX11_book_13 hx.1.2.1.sB (hx.rh.b (by omega) (by omega)) (by omega) (by omega) (by decide) (fun i13 => ?_)
  refine g_lreturn hC dX11_book_14 hr ⟨rfl, Or.inl ⟨fk1 (by omega), ?_, ?_, ?_⟩⟩ gs_rfl ⟨Nat.le_of_ble_eq_true rfl, Nat.le_of_ble_eq_true rfl⟩
  · rfl
  · exact hx
  · exact OUX.rfl' _ _ _

theorem kX11_awaited {E l Sh V z} {x9 cc9 : Int} {N : gN0} {P9 : Int → gN0} {d9 r9 : Int} (hx : XR x9 N P9 cc9 Sh V) (hI0 : INV N) (h1 : inI d9) (h2 : inI r9) : gM E l yX11_awaited (.code yX11_awaited cX11_awaited 3 (some .long)) (rmk 11 60 600 420) [(2, x9), (0, d9), (0, r9)] Sh V z (gRk (fitC (bI ((0 ≤ d9 ∧ d9 ≤ 4) ∧ 0 ≤ r9 ∧ r9 ≤ 5)) 1 1) gxA "" "" (1, incZ N d9.toNat r9.toNat) (fun V' => XR x9 N P9 cc9 Sh V' ∧ OUX x9 Sh V V') (fun V' => XR x9 N P9 cc9 Sh V' ∧ OUX x9 Sh V V') Sh) := by
  refine gM_at (L0 := [(2, x9), (0, d9), (0, r9)]) rfl rfl rfl ?_
  intro p e s m args below meth c hC hr hex hnm hz
  have hI := hI0.1
  have hsc := hI.1
  unfold iScal at hsc
  refine gB hC _ _ _ _ _ _ _ qX11_awaited_0 rfl ?_
  refine g_chkS hC dX11_awaited_3 mX11_34 sX11_checkWithin (kX11_checkWithin (by omega) (by omega) (by omega)) rfl rfl (Nat.le_of_ble_eq_true rfl) (RR rfl rfl rfl rfl) (fun z q3 => ?_) (fun z q3 => ?_)
  rotate_left
  · exact g_out hC hex ⟨rfl, Or.inr ⟨⟨hx, OUX.rfl' _ _ _⟩, (by first | exact Or.inl ⟨fl1 (fun h => by omega), rfl⟩ | exact Or.inr (Or.inl ⟨fl2 (by omega) (fun h => by omega), rfl⟩) | exact Or.inr (Or.inr ⟨fl3 (by omega) (by omega) (fun h => by omega), rfl⟩))⟩⟩ gs_rfl ⟨Nat.le_of_ble_eq_true rfl, Nat.le_of_ble_eq_true rfl⟩
  refine gB hC _ _ _ _ _ _ _ qX11_awaited_6 rfl ?_
  refine g_chkS hC dX11_awaited_9 mX11_34 sX11_checkWithin (kX11_checkWithin (by omega) (by omega) (by omega)) rfl rfl (Nat.le_of_ble_eq_true rfl) (RR rfl rfl rfl rfl) (fun z q9 => ?_) (fun z q9 => ?_)
  rotate_left
  · exact g_out hC hex ⟨rfl, Or.inr ⟨⟨hx, OUX.rfl' _ _ _⟩, (by first | exact Or.inl ⟨fl1 (fun h => by omega), rfl⟩ | exact Or.inr (Or.inl ⟨fl2 (by omega) (fun h => by omega), rfl⟩) | exact Or.inr (Or.inr ⟨fl3 (by omega) (by omega) (fun h => by omega), rfl⟩))⟩⟩ gs_rfl ⟨Nat.le_of_ble_eq_true rfl, Nat.le_of_ble_eq_true rfl⟩
  refine gB hC _ _ _ _ _ _ _ qX11_awaited_12 rfl ?_
  refine g_getr hC dX11_awaited_13 fX11_10 hx.sX (by decide) rfl 0 rfl hx.p0 ?_
  refine g_getr hC dX11_awaited_16 fX11_184 hx.1.2.1.sH (by decide) rfl 13 rfl hx.rh.2.1.p13 ?_
  refine g_lts (fun hlt => ?_)
  refine gB hC _ _ _ _ _ _ _ qX11_awaited_19 rfl ?_
  refine g_callV hC _ dX11_awaited_20 mX11_267 vX4_incomes (kX4_incomes hx.rh hI0 (by omega) (by omega)) rfl hx.1.2.1.sM (by decide) rfl (Nat.le_of_ble_eq_true rfl) (RR rfl rfl rfl rfl) (fun r0 S1 V1 z1 h => ?_) (fun X S1 V1 z1 h => nomatch h.1)
  obtain ⟨h4, rfl, h5, h6⟩ := h
  cases h4
  have ea : V1 z r9 = incZ N d9.toNat r9.toNat := by have := h5 r9.toNat (by omega); rwa [show ((r9.toNat : Nat) : Int) = r9 by omega] at this
  refine gB hC _ _ _ _ _ _ _ qX11_awaited_23 rfl ?_
  refine g_lald hC dX11_awaited_24 (shp_eq _ _ _) ea (by omega) (by omega) (by decide) (fun i24 => ?_)
  refine g_lreturn hC dX11_awaited_25 hr ⟨rfl, Or.inl ⟨fk1 (by omega), ?_, ?_, ?_⟩⟩ (fun a sh ha => ⟨(shp_ne _ _ (fun q => by have := (hlt a sh ha).2; omega)).trans ha, fun j => by rw [h6 a (fun q => by have := (hlt a sh ha).2; omega)]⟩) ⟨Nat.le_of_ble_eq_true rfl, Nat.le_of_ble_eq_true rfl⟩
  · rfl
  · exact hx
  · exact OUX.rfl' _ _ _

