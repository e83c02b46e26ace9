/-! the class: what it tells where nothing is thrown (rows laid by wip/p47/g95.py) -/
theorem kX11_checkIndex0 {E l Sh V z} {n9 s9 : Int} (h0 : 0 ≤ n9) (h1 : n9 < s9) (h2 : s9 ≤ 100000) : gM E l yX11_checkIndex (.code yX11_checkIndex cX11_checkIndex 2 none) (rmk 0 0 0 0) [(0, n9), (0, s9)] Sh V z (gR none Sh V) := by
  refine gM_at (L0 := [(0, n9), (0, s9)]) rfl rfl rfl ?_
  intro p e s m args below meth c hC hr hex hnm hz
  refine gB hC _ _ _ _ _ _ _ qX11_checkIndex_0 rfl ?_
  refine g_if_lt hC 9 dX11_checkIndex_1 rfl (by first | omega | exact cmpZ_in _ _ | exact bI_in _) (fun c1 => ?_) (fun c1 => ?_)
  · exact absurd c1 (by omega) --stop
  · refine gB hC _ _ _ _ _ _ _ qX11_checkIndex_4 rfl ?_
    refine g_icmp_lt hC 20 dX11_checkIndex_6 rfl (by first | omega | exact cmpZ_in _ _ | exact bI_in _) (by first | omega | exact cmpZ_in _ _ | exact bI_in _) (fun c6 => ?_) (fun c6 => ?_)
    · refine g_return hC dX11_checkIndex_20 hr ⟨rfl, rfl, rfl⟩ gs_rfl ⟨Nat.le_of_ble_eq_true rfl, Nat.le_of_ble_eq_true rfl⟩
    · exact absurd c6 (by omega) --stop

theorem kX11_checkArgument0 {E l Sh V z} {v9 : Int} (h0 : v9 = 1) : gM E l yX11_checkArgument (.code yX11_checkArgument cX11_checkArgument 1 none) (rmk 0 0 0 0) [(0, v9)] Sh V z (gR none Sh V) := by
  refine gM_at (L0 := [(0, v9)]) rfl rfl rfl ?_
  intro p e s m args below meth c hC hr hex hnm hz
  refine gB hC _ _ _ _ _ _ _ qX11_checkArgument_0 rfl ?_
  refine g_if_ne hC 15 dX11_checkArgument_1 rfl (by first | omega | exact cmpZ_in _ _ | exact bI_in _) (fun c1 => ?_) (fun c1 => ?_)
  · refine g_return hC dX11_checkArgument_15 hr ⟨rfl, rfl, rfl⟩ gs_rfl ⟨Nat.le_of_ble_eq_true rfl, Nat.le_of_ble_eq_true rfl⟩
  · exact absurd c1 (by omega) --stop

theorem kX11_checkWithin0 {E l Sh V z} {n9 a9 b9 : Int} (h0 : a9 ≤ n9) (h1 : n9 ≤ b9) (h2 : inI n9) (h3 : inI a9) (h4 : inI b9) : gM E l yX11_checkWithin (.code yX11_checkWithin cX11_checkWithin 3 none) (rmk 1 0 0 30) [(0, n9), (0, a9), (0, b9)] Sh V z (gR none Sh V) := by
  refine gM_at (L0 := [(0, n9), (0, a9), (0, b9)]) rfl rfl rfl ?_
  intro p e s m args below meth c hC hr hex hnm hz
  refine gB hC _ _ _ _ _ _ _ qX11_checkWithin_0 rfl ?_
  refine g_icmp_gt hC 14 dX11_checkWithin_2 rfl (by first | omega | exact cmpZ_in _ _ | exact bI_in _) (by first | omega | exact cmpZ_in _ _ | exact bI_in _) (fun c2 => ?_) (fun c2 => ?_)
  · refine gB hC _ _ _ _ _ _ _ qX11_checkWithin_14 rfl ?_
    exfalso; omega
    
  · refine gB hC _ _ _ _ _ _ _ qX11_checkWithin_5 rfl ?_
    refine g_icmp_gt hC 14 dX11_checkWithin_7 rfl (by first | omega | exact cmpZ_in _ _ | exact bI_in _) (by first | omega | exact cmpZ_in _ _ | exact bI_in _) (fun c7 => ?_) (fun c7 => ?_)
    · refine gB hC _ _ _ _ _ _ _ qX11_checkWithin_14 rfl ?_
      exfalso; omega
      
    · refine gB hC _ _ _ _ _ _ _ qX11_checkWithin_10 rfl ?_
      refine g_cS0 hC dX11_checkWithin_15 mX11_82 sX11_checkArgument (kX11_checkArgument0 (by first | rfl | omega | exact bI_t (by omega))) rfl rfl (Nat.le_of_ble_eq_true rfl) (RR rfl rfl rfl rfl) (fun z => ?_)
      refine g_return hC dX11_checkWithin_18 hr ⟨rfl, rfl, rfl⟩ gs_rfl ⟨Nat.le_of_ble_eq_true rfl, Nat.le_of_ble_eq_true rfl⟩

theorem kX11_checkState0 {E l Sh V z} {v9 : Int} (h0 : v9 = 1) : gM E l yX11_checkState (.code yX11_checkState cX11_checkState 1 none) (rmk 0 0 0 0) [(0, v9)] Sh V z (gR none Sh V) := by
  refine gM_at (L0 := [(0, v9)]) rfl rfl rfl ?_
  intro p e s m args below meth c hC hr hex hnm hz
  refine gB hC _ _ _ _ _ _ _ qX11_checkState_0 rfl ?_
  refine g_if_ne hC 15 dX11_checkState_1 rfl (by first | omega | exact cmpZ_in _ _ | exact bI_in _) (fun c1 => ?_) (fun c1 => ?_)
  · refine g_return hC dX11_checkState_15 hr ⟨rfl, rfl, rfl⟩ gs_rfl ⟨Nat.le_of_ble_eq_true rfl, Nat.le_of_ble_eq_true rfl⟩
  · exact absurd c1 (by omega) --stop

theorem kX11_checkedDay0 {E l Sh V z} {d9 : Int} (h0 : inI d9) (h1 : dayZ d9 ≠ -1) : gM E l yX11_checkedDay (.code yX11_checkedDay cX11_checkedDay 2 (some .int)) (rmk 3 0 0 90) [(0, d9)] Sh V z (gRi (dayZ d9) Sh V) := by
  refine gM_at (L0 := [(0, d9), (9, 0)]) rfl rfl rfl ?_
  intro p e s m args below meth c hC hr hex hnm hz
  have hdz := dayZ_in d9
  refine gB hC _ _ _ _ _ _ _ qX11_checkedDay_0 rfl ?_
  refine g_cS1i hC dX11_checkedDay_1 mX11_325 sX0_of (kX0_of (by omega)) rfl rfl (Nat.le_of_ble_eq_true rfl) (RR rfl rfl rfl rfl) (fun z i1 => ?_)
  refine gB hC _ _ _ _ _ _ _ qX11_checkedDay_4 rfl ?_
  refine g_icmp_eq hC 14 dX11_checkedDay_7 rfl (by first | omega | exact cmpZ_in _ _ | exact bI_in _) (by first | omega | exact cmpZ_in _ _ | exact bI_in _) (fun c7 => ?_) (fun c7 => ?_)
  · refine gB hC _ _ _ _ _ _ _ qX11_checkedDay_14 rfl ?_
    exfalso; omega
    
  · refine gB hC _ _ _ _ _ _ _ qX11_checkedDay_10 rfl ?_
    refine g_cS0 hC dX11_checkedDay_15 mX11_82 sX11_checkArgument (kX11_checkArgument0 (by first | rfl | omega | exact bI_t (by omega))) rfl rfl (Nat.le_of_ble_eq_true rfl) (RR rfl rfl rfl rfl) (fun z => ?_)
    refine gB hC _ _ _ _ _ _ _ qX11_checkedDay_18 rfl ?_
    refine g_ireturn hC dX11_checkedDay_19 hr ⟨rfl, rfl, rfl, by omega⟩ gs_rfl ⟨Nat.le_of_ble_eq_true rfl, Nat.le_of_ble_eq_true rfl⟩

theorem kX11_checkedStay0 {E l Sh V z} {x9 cc9 : Int} {N : gN0} {P9 : Int → gN0} {s9 : Int} (hx : XR x9 N P9 cc9 Sh V) (hI0 : INV N) (h0 : 0 ≤ s9) (h1 : s9 < N 5) : gM E l yX11_checkedStay (.code yX11_checkedStay cX11_checkedStay 2 (some (.object "HotelNights$Stay"))) (rmk 2 0 0 60) [(2, x9), (0, s9)] Sh V z (gR (some (2, x9 + 1 + 6 + 2 * s9)) Sh V) := by
  refine gM_at (L0 := [(2, x9), (0, s9)]) rfl rfl rfl ?_
  intro p e s m args below meth c hC hr hex hnm hz
  have hI := hI0.1
  have hsc := hI.1
  unfold iScal at hsc
  refine gB hC _ _ _ _ _ _ _ qX11_checkedStay_0 rfl ?_
  refine g_getr hC dX11_checkedStay_2 fX11_10 hx.sX (by decide) rfl 0 rfl hx.p0 ?_
  refine g_getr hC dX11_checkedStay_5 fX11_106 hx.1.2.1.sH (by decide) rfl 11 rfl hx.rh.2.1.p11 ?_
  refine g_getiv hC dX11_checkedStay_8 fX11_110 hx.1.2.1.sT (by decide) rfl 1 rfl hx.rh.tS (fun i8 => ?_)
  refine g_cS0 hC dX11_checkedStay_11 mX11_51 sX11_checkIndex (kX11_checkIndex0 (by omega) (by omega) (by omega)) rfl rfl (Nat.le_of_ble_eq_true rfl) (RR rfl rfl rfl rfl) (fun z => ?_)
  refine gB hC _ _ _ _ _ _ _ qX11_checkedStay_14 rfl ?_
  refine g_getr hC dX11_checkedStay_15 fX11_10 hx.sX (by decide) rfl 0 rfl hx.p0 ?_
  refine g_getr hC dX11_checkedStay_18 fX11_106 hx.1.2.1.sH (by decide) rfl 11 rfl hx.rh.2.1.p11 ?_
  refine g_getr hC dX11_checkedStay_21 fX11_328 hx.1.2.1.sT (by decide) rfl 0 rfl hx.rh.2.1.pR ?_
  refine gB hC _ _ _ _ _ _ _ qX11_checkedStay_24 rfl ?_
  refine g_aald hC (j := 6) dX11_checkedStay_25 hx.1.2.1.sR (by decide) (hx.rh.2.1.ps (by omega) (by omega)) (by omega) (by omega) (by decide) ?_
  refine g_areturn hC dX11_checkedStay_26 hr (Or.inl ⟨_, rfl⟩) ⟨rfl, rfl, rfl⟩ gs_rfl ⟨Nat.le_of_ble_eq_true rfl, Nat.le_of_ble_eq_true rfl⟩

theorem kX11_stayAt0 {E l Sh V z} {x9 cc9 : Int} {N : gN0} {P9 : Int → gN0} {s9 w9 : Int} (hx : XR x9 N P9 cc9 Sh V) (hI0 : INV N) (h0 : 0 ≤ s9) (h1 : s9 < N 5) (h2 : 0 ≤ w9) (h3 : w9 ≤ 8) : gM E l yX11_stayAt (.code yX11_stayAt cX11_stayAt 4 (some .int)) (rmk 8 0 0 360) [(2, x9), (0, s9), (0, w9)] Sh V z (gRi (stZ N s9 w9) Sh V) := by
  refine gM_at (L0 := [(2, x9), (0, s9), (0, w9), (9, 0)]) rfl rfl rfl ?_
  intro p e s m args below meth c hC hr hex hnm hz
  have hI := hI0.1
  have hsc := hI.1
  unfold iScal at hsc
  have hsi := stZ_in (hI.2.2.2.1 s9 h0 h1) (by omega) w9
  refine gB hC _ _ _ _ _ _ _ qX11_stayAt_0 rfl ?_
  refine g_cV1 hC dX11_stayAt_2 mX11_135 vX11_checkedStay (kX11_checkedStay0 hx hI0 (by omega) (by omega)) rfl hx.sX (by decide) rfl (Nat.le_of_ble_eq_true rfl) (RR rfl rfl rfl rfl) (fun z => ?_)
  refine gB hC _ _ _ _ _ _ _ qX11_stayAt_5 rfl ?_
  refine g_cS0 hC dX11_stayAt_10 mX11_34 sX11_checkWithin (kX11_checkWithin0 (by omega) (by omega) (by omega) (by omega) (by omega)) rfl rfl (Nat.le_of_ble_eq_true rfl) (RR rfl rfl rfl rfl) (fun z => ?_)
  refine gB hC _ _ _ _ _ _ _ qX11_stayAt_13 rfl ?_
  refine g_cV1i hC dX11_stayAt_15 mX11_244 vX8_tell (kX8_tell (hx.1.2.1.ss (by omega) (by omega)) (hx.rh.st (by omega) (by omega)) (hI.2.2.2.1 _ (by omega) (by omega)) (by omega) (by omega) (by omega)) rfl (hx.1.2.1.ss (by omega) (by omega)) (by decide) rfl (Nat.le_of_ble_eq_true rfl) (RR rfl rfl rfl rfl) (fun z i15 => ?_)
  refine g_ireturn hC dX11_stayAt_18 hr ⟨rfl, rfl, rfl, by omega⟩ gs_rfl ⟨Nat.le_of_ble_eq_true rfl, Nat.le_of_ble_eq_true rfl⟩

theorem kX11_refund0 {E l Sh V z} {x9 cc9 : Int} {N : gN0} {P9 : Int → gN0} {s9 : Int} (hx : XR x9 N P9 cc9 Sh V) (hI0 : INV N) (h0 : 0 ≤ s9) (h1 : s9 < N 5) : gM E l yX11_refund (.code yX11_refund cX11_refund 2 (some .int)) (rmk 8 0 0 360) [(2, x9), (0, s9)] Sh V z (gRi (rfO N s9) Sh V) := by
  refine gM_at (L0 := [(2, x9), (0, s9)]) rfl rfl rfl ?_
  intro p e s m args below meth c hC hr hex hnm hz
  have hI := hI0.1
  have hsc := hI.1
  unfold iScal at hsc
  have hsi := rfO_in (hI.2.2.2.1 s9 h0 h1)
  have hso := (hI.2.2.2.1 s9 h0 h1).1
  refine gB hC _ _ _ _ _ _ _ qX11_refund_0 rfl ?_
  refine g_cV1 hC dX11_refund_2 mX11_135 vX11_checkedStay (kX11_checkedStay0 hx hI0 (by omega) (by omega)) rfl hx.sX (by decide) rfl (Nat.le_of_ble_eq_true rfl) (RR rfl rfl rfl rfl) (fun z => ?_)
  refine gB hC _ _ _ _ _ _ _ qX11_refund_5 rfl ?_
  refine g_getr hC dX11_refund_6 fX11_10 hx.sX (by decide) rfl 0 rfl hx.p0 ?_
  refine g_getiv hC dX11_refund_9 fX11_155 hx.1.2.1.sH (by decide) rfl 0 rfl hx.rh.t0 (fun i9 => ?_)
  refine g_cV1i hC dX11_refund_12 mX11_260 vX8_refundOn (kX8_refundOn (hx.1.2.1.ss (by omega) (by omega)) (hx.rh.st (by omega) (by omega)) (hI.2.2.2.1 _ (by omega) (by omega)) rfl (by omega) (by omega)) rfl (hx.1.2.1.ss (by omega) (by omega)) (by decide) rfl (Nat.le_of_ble_eq_true rfl) (RR rfl rfl rfl rfl) (fun z i12 => ?_)
  refine g_ireturn hC dX11_refund_15 hr ⟨rfl, rfl, rfl, by omega⟩ gs_rfl ⟨Nat.le_of_ble_eq_true rfl, Nat.le_of_ble_eq_true rfl⟩

theorem kX11_book0 {E l Sh V z} {x9 cc9 : Int} {N : gN0} {P9 : Int → gN0} {b9 : Int} (hx : XR x9 N P9 cc9 Sh V) (hI0 : INV N) (h0 : 0 ≤ b9) (h1 : b9 < 4) : gM E l yX11_book (.code yX11_book cX11_book 2 (some .long)) (rmk 8 0 0 360) [(2, x9), (0, b9)] Sh V z (gRl (N (9 + b9)) Sh V) := by
  refine gM_at (L0 := [(2, x9), (0, b9)]) rfl rfl rfl ?_
  intro p e s m args below meth c hC hr hex hnm hz
  have hI := hI0.1
  have hsc := hI.1
  unfold iScal at hsc
  refine gB hC _ _ _ _ _ _ _ qX11_book_0 rfl ?_
  refine g_cS0 hC dX11_book_2 mX11_51 sX11_checkIndex (kX11_checkIndex0 (by omega) (by omega) (by omega)) rfl rfl (Nat.le_of_ble_eq_true rfl) (RR rfl rfl rfl rfl) (fun z => ?_)
  refine gB hC _ _ _ _ _ _ _ qX11_book_5 rfl ?_
  refine g_getr hC dX11_book_6 fX11_10 hx.sX (by decide) rfl 0 rfl hx.p0 ?_
  refine g_getr hC dX11_book_9 fX11_263 hx.1.2.1.sH (by decide) rfl 12 rfl hx.rh.2.1.p12 ?_
  refine gB hC _ _ _ _ _ _ _ qX11_book_12 rfl ?_
  refine g_lald hC dX11_book_13 hx.1.2.1.sB (hx.rh.b (by omega) (by omega)) (by omega) (by omega) (by decide) (fun i13 => ?_)
  refine g_lreturn hC dX11_book_14 hr ⟨rfl, rfl, rfl, by assumption⟩ gs_rfl ⟨Nat.le_of_ble_eq_true rfl, Nat.le_of_ble_eq_true rfl⟩

theorem kX11_count0 {E l Sh V z} {x9 cc9 : Int} {N : gN0} {P9 : Int → gN0} {k9 d9 : Int} (hx : XR x9 N P9 cc9 Sh V) (hI0 : INV N) (h0 : 0 ≤ k9) (h1 : k9 < N 1) (h2 : inI d9) (h3 : dayZ d9 ≠ -1) : gM E l yX11_count (.code yX11_count cX11_count 3 (some .int)) (rmk 8 0 0 360) [(2, x9), (0, k9), (0, d9)] Sh V z (gRi (cnt N k9 (dayZ d9)) Sh V) := by
  refine gM_at (L0 := [(2, x9), (0, k9), (0, d9)]) rfl rfl rfl ?_
  intro p e s m args below meth c hC hr hex hnm hz
  have hI := hI0.1
  have hsc := hI.1
  unfold iScal at hsc
  have hdz := dayZ_in d9
  have hcn := cnt_in hI k9 (dayZ d9)
  refine gB hC _ _ _ _ _ _ _ qX11_count_0 rfl ?_
  refine g_getr hC dX11_count_2 fX11_10 hx.sX (by decide) rfl 0 rfl hx.p0 ?_
  refine g_getiv hC dX11_count_5 fX11_39 hx.1.2.1.sH (by decide) rfl 2 rfl hx.rh.t2 (fun i5 => ?_)
  refine g_cS0 hC dX11_count_8 mX11_51 sX11_checkIndex (kX11_checkIndex0 (by omega) (by omega) (by omega)) rfl rfl (Nat.le_of_ble_eq_true rfl) (RR rfl rfl rfl rfl) (fun z => ?_)
  refine gB hC _ _ _ _ _ _ _ qX11_count_11 rfl ?_
  refine g_getr hC dX11_count_12 fX11_10 hx.sX (by decide) rfl 0 rfl hx.p0 ?_
  refine g_getr hC dX11_count_15 fX11_106 hx.1.2.1.sH (by decide) rfl 11 rfl hx.rh.2.1.p11 ?_
  refine gB hC _ _ _ _ _ _ _ qX11_count_18 rfl ?_
  refine g_cS1i hC dX11_count_20 mX11_55 sX11_checkedDay (kX11_checkedDay0 (by omega) (by omega)) rfl rfl (Nat.le_of_ble_eq_true rfl) (RR rfl rfl rfl rfl) (fun z i20 => ?_)
  refine g_cV1i hC dX11_count_23 mX11_231 vX9_countOn (kX9_countOn hx.rh hI (by omega) (by omega)) rfl hx.1.2.1.sT (by decide) rfl (Nat.le_of_ble_eq_true rfl) (RR rfl rfl rfl rfl) (fun z i23 => ?_)
  refine g_ireturn hC dX11_count_26 hr ⟨rfl, rfl, rfl, by omega⟩ gs_rfl ⟨Nat.le_of_ble_eq_true rfl, Nat.le_of_ble_eq_true rfl⟩

theorem kX11_priceOf0 {E l Sh V z} {x9 cc9 : Int} {N : gN0} {P9 : Int → gN0} {k9 d9 : Int} (hx : XR x9 N P9 cc9 Sh V) (hI0 : INV N) (h0 : 0 ≤ k9) (h1 : k9 < N 1) (h2 : inI d9) (h3 : dayZ d9 ≠ -1) : gM E l yX11_priceOf (.code yX11_priceOf cX11_priceOf 3 (some .int)) (rmk 8 0 0 360) [(2, x9), (0, k9), (0, d9)] Sh V z (gRi (nPr N k9 (dayZ d9)) Sh V) := by
  refine gM_at (L0 := [(2, x9), (0, k9), (0, d9)]) rfl rfl rfl ?_
  intro p e s m args below meth c hC hr hex hnm hz
  have hI := hI0.1
  have hsc := hI.1
  unfold iScal at hsc
  have hdz := dayZ_in d9
  have hcn := nPr_in hI h0 h1 (dayZ d9)
  refine gB hC _ _ _ _ _ _ _ qX11_priceOf_0 rfl ?_
  refine g_getr hC dX11_priceOf_2 fX11_10 hx.sX (by decide) rfl 0 rfl hx.p0 ?_
  refine g_getiv hC dX11_priceOf_5 fX11_39 hx.1.2.1.sH (by decide) rfl 2 rfl hx.rh.t2 (fun i5 => ?_)
  refine g_cS0 hC dX11_priceOf_8 mX11_51 sX11_checkIndex (kX11_checkIndex0 (by omega) (by omega) (by omega)) rfl rfl (Nat.le_of_ble_eq_true rfl) (RR rfl rfl rfl rfl) (fun z => ?_)
  refine gB hC _ _ _ _ _ _ _ qX11_priceOf_11 rfl ?_
  refine g_getr hC dX11_priceOf_12 fX11_10 hx.sX (by decide) rfl 0 rfl hx.p0 ?_
  refine gB hC _ _ _ _ _ _ _ qX11_priceOf_15 rfl ?_
  refine g_cS1i hC dX11_priceOf_17 mX11_55 sX11_checkedDay (kX11_checkedDay0 (by omega) (by omega)) rfl rfl (Nat.le_of_ble_eq_true rfl) (RR rfl rfl rfl rfl) (fun z i17 => ?_)
  refine g_cV1i hC dX11_priceOf_20 mX11_257 vX2_nightPrice (kX2_nightPrice hx.rh hI (by omega) (by omega) (by omega) (by omega)) rfl hx.1.2.1.sH (by decide) rfl (Nat.le_of_ble_eq_true rfl) (RR rfl rfl rfl rfl) (fun z i20 => ?_)
  refine g_ireturn hC dX11_priceOf_23 hr ⟨rfl, rfl, rfl, by omega⟩ gs_rfl ⟨Nat.le_of_ble_eq_true rfl, Nat.le_of_ble_eq_true rfl⟩

theorem kX11_needed0 {E l Sh V z} {x9 cc9 : Int} {N : gN0} {P9 : Int → gN0} {k9 : Int} (hx : XR x9 N P9 cc9 Sh V) (hI0 : INV N) (h0 : 0 ≤ k9) (h1 : k9 < N 1) : gM E l yX11_needed (.code yX11_needed cX11_needed 2 (some .int)) (rmk 8 0 0 360) [(2, x9), (0, k9)] Sh V z (gRi (moN N k9 0 36524 (N 5).toNat) Sh V) := by
  refine gM_at (L0 := [(2, x9), (0, k9)]) rfl rfl rfl ?_
  intro p e s m args below meth c hC hr hex hnm hz
  have hI := hI0.1
  have hsc := hI.1
  unfold iScal at hsc
  have hcn := moN_in hI k9 0 36524 (N 5).toNat
  refine gB hC _ _ _ _ _ _ _ qX11_needed_0 rfl ?_
  refine g_getr hC dX11_needed_2 fX11_10 hx.sX (by decide) rfl 0 rfl hx.p0 ?_
  refine g_getiv hC dX11_needed_5 fX11_39 hx.1.2.1.sH (by decide) rfl 2 rfl hx.rh.t2 (fun i5 => ?_)
  refine g_cS0 hC dX11_needed_8 mX11_51 sX11_checkIndex (kX11_checkIndex0 (by omega) (by omega) (by omega)) rfl rfl (Nat.le_of_ble_eq_true rfl) (RR rfl rfl rfl rfl) (fun z => ?_)
  refine gB hC _ _ _ _ _ _ _ qX11_needed_11 rfl ?_
  refine g_getr hC dX11_needed_12 fX11_10 hx.sX (by decide) rfl 0 rfl hx.p0 ?_
  refine g_getr hC dX11_needed_15 fX11_106 hx.1.2.1.sH (by decide) rfl 11 rfl hx.rh.2.1.p11 ?_
  refine gB hC _ _ _ _ _ _ _ qX11_needed_18 rfl ?_
  refine g_cV1i hC dX11_needed_19 mX11_238 vX9_mostOnAnyNight (kX9_mostOnAnyNight hx.rh hI (by omega)) rfl hx.1.2.1.sT (by decide) rfl (Nat.le_of_ble_eq_true rfl) (RR rfl rfl rfl rfl) (fun z i19 => ?_)
  refine g_ireturn hC dX11_needed_22 hr ⟨rfl, rfl, rfl, by omega⟩ gs_rfl ⟨Nat.le_of_ble_eq_true rfl, Nat.le_of_ble_eq_true rfl⟩

theorem kX11_today0 {E l Sh V z} {x9 cc9 : Int} {N : gN0} {P9 : Int → gN0} (hx : XR x9 N P9 cc9 Sh V) (hI0 : INV N) : gM E l yX11_today (.code yX11_today cX11_today 1 (some .int)) (rmk 8 0 0 360) [(2, x9)] Sh V z (gRi (dateZ (N 0)) Sh V) := by
  refine gM_at (L0 := [(2, x9)]) rfl rfl rfl ?_
  intro p e s m args below meth c hC hr hex hnm hz
  have hI := hI0.1
  have hsc := hI.1
  unfold iScal at hsc
  have hdz := dateZ_in (d := N 0) (by omega) (by omega)
  refine gB hC _ _ _ _ _ _ _ qX11_today_0 rfl ?_
  refine g_getr hC dX11_today_1 fX11_10 hx.sX (by decide) rfl 0 rfl hx.p0 ?_
  refine g_getiv hC dX11_today_4 fX11_155 hx.1.2.1.sH (by decide) rfl 0 rfl hx.rh.t0 (fun i4 => ?_)
  refine g_cS1i hC dX11_today_7 mX11_181 sX0_dateOf (kX0_dateOf (by omega) (by omega)) rfl rfl (Nat.le_of_ble_eq_true rfl) (RR rfl rfl rfl rfl) (fun z i7 => ?_)
  refine g_ireturn hC dX11_today_10 hr ⟨rfl, rfl, rfl, by omega⟩ gs_rfl ⟨Nat.le_of_ble_eq_true rfl, Nat.le_of_ble_eq_true rfl⟩

theorem kX11_waiting0 {E l Sh V z} {x9 cc9 : Int} {N : gN0} {P9 : Int → gN0} (hx : XR x9 N P9 cc9 Sh V) (hI0 : INV N) : gM E l yX11_waiting (.code yX11_waiting cX11_waiting 1 (some .int)) (rmk 8 0 0 360) [(2, x9)] Sh V z (gRi (N 7) Sh V) := by
  refine gM_at (L0 := [(2, x9)]) rfl rfl rfl ?_
  intro p e s m args below meth c hC hr hex hnm hz
  have hI := hI0.1
  have hsc := hI.1
  unfold iScal at hsc
  refine gB hC _ _ _ _ _ _ _ qX11_waiting_0 rfl ?_
  refine g_getr hC dX11_waiting_1 fX11_10 hx.sX (by decide) rfl 0 rfl hx.p0 ?_
  refine g_getiv hC dX11_waiting_4 fX11_128 hx.1.2.1.sH (by decide) rfl 4 rfl hx.rh.t4 (fun i4 => ?_)
  refine g_ireturn hC dX11_waiting_7 hr ⟨rfl, rfl, rfl, by omega⟩ gs_rfl ⟨Nat.le_of_ble_eq_true rfl, Nat.le_of_ble_eq_true rfl⟩

theorem kX11_refusedNight0 {E l Sh V z} {x9 cc9 : Int} {N : gN0} {P9 : Int → gN0} (hx : XR x9 N P9 cc9 Sh V) (hI0 : INV N) : gM E l yX11_refusedNight (.code yX11_refusedNight cX11_refusedNight 1 (some .int)) (rmk 8 0 0 360) [(2, x9)] Sh V z (gRi (N 8) Sh V) := by
  refine gM_at (L0 := [(2, x9)]) rfl rfl rfl ?_
  intro p e s m args below meth c hC hr hex hnm hz
  have hI := hI0.1
  have hsc := hI.1
  unfold iScal at hsc
  have hr1 := hx.rh.t1
  unfold rfR at hr1
  refine gB hC _ _ _ _ _ _ _ qX11_refusedNight_0 rfl ?_
  refine g_getr hC dX11_refusedNight_1 fX11_10 hx.sX (by decide) rfl 0 rfl hx.p0 ?_
  refine g_geti hC dX11_refusedNight_4 fX11_241 hx.1.2.1.sH (by decide) rfl 1 rfl (fun i4 => ?_)
  refine gB hC _ _ _ _ _ _ _ qX11_refusedNight_7 rfl ?_
  refine g_icmp_ne hC 15 dX11_refusedNight_8 rfl (by first | omega | exact cmpZ_in _ _ | exact bI_in _) (by first | omega | exact cmpZ_in _ _ | exact bI_in _) (fun c8 => ?_) (fun c8 => ?_)
  · refine gB hC _ _ _ _ _ _ _ qX11_refusedNight_15 rfl ?_
    refine g_getr hC dX11_refusedNight_16 fX11_10 hx.sX (by decide) rfl 0 rfl hx.p0 ?_
    refine g_geti hC dX11_refusedNight_19 fX11_241 hx.1.2.1.sH (by decide) rfl 1 rfl (fun i19 => ?_)
    refine g_cS1i hC dX11_refusedNight_22 mX11_181 sX0_dateOf (kX0_dateOf (by omega) (by omega)) rfl rfl (Nat.le_of_ble_eq_true rfl) (RR rfl rfl rfl rfl) (fun z i22 => ?_)
    refine g_ireturn hC dX11_refusedNight_25 hr ⟨?_, rfl, rfl, ?_⟩ gs_rfl ⟨Nat.le_of_ble_eq_true rfl, Nat.le_of_ble_eq_true rfl⟩
    · congr 3
      have hq := hr1.resolve_left (by omega)
      exact hq.2.2.symm
    · have hq := hr1.resolve_left (by omega)
      rw [hq.2.2]
      assumption
  · refine gB hC _ _ _ _ _ _ _ qX11_refusedNight_11 rfl ?_
    refine g_ireturn hC dX11_refusedNight_25 hr ⟨?_, rfl, rfl, ?_⟩ gs_rfl ⟨Nat.le_of_ble_eq_true rfl, Nat.le_of_ble_eq_true rfl⟩
    · congr 3; omega
    · omega

theorem kX11_checksum0 {E l Sh V z} {x9 cc9 : Int} {N : gN0} {P9 : Int → gN0} (hx : XR x9 N P9 cc9 Sh V) (hI0 : INV N) : gM E l yX11_checksum (.code yX11_checksum cX11_checksum 1 (some .int)) (rmk 8 0 0 360) [(2, x9)] Sh V z (gRi (wI (31 * ckZ N (N 5).toNat + dateZ (N 0))) Sh V) := by
  refine gM_at (L0 := [(2, x9)]) rfl rfl rfl ?_
  intro p e s m args below meth c hC hr hex hnm hz
  have hI := hI0.1
  have hsc := hI.1
  unfold iScal at hsc
  refine gB hC _ _ _ _ _ _ _ qX11_checksum_0 rfl ?_
  refine g_getr hC dX11_checksum_1 fX11_10 hx.sX (by decide) rfl 0 rfl hx.p0 ?_
  refine g_getr hC dX11_checksum_4 fX11_106 hx.1.2.1.sH (by decide) rfl 11 rfl hx.rh.2.1.p11 ?_
  refine gB hC _ _ _ _ _ _ _ qX11_checksum_7 rfl ?_
  refine g_cV1i hC dX11_checksum_9 mX11_302 vX9_mixed (kX9_mixed hx.rh hI0.1) rfl hx.1.2.1.sT (by decide) rfl (Nat.le_of_ble_eq_true rfl) (RR rfl rfl rfl rfl) (fun z i9 => ?_)
  refine gB hC _ _ _ _ _ _ _ qX11_checksum_12 rfl ?_
  refine g_getr hC dX11_checksum_16 fX11_10 hx.sX (by decide) rfl 0 rfl hx.p0 ?_
  refine g_getiv hC dX11_checksum_19 fX11_155 hx.1.2.1.sH (by decide) rfl 0 rfl hx.rh.t0 (fun i19 => ?_)
  refine g_cS1i hC dX11_checksum_22 mX11_181 sX0_dateOf (kX0_dateOf (by omega) (by omega)) rfl rfl (Nat.le_of_ble_eq_true rfl) (RR rfl rfl rfl rfl) (fun z i22 => ?_)
  refine gB hC _ _ _ _ _ _ _ qX11_checksum_25 rfl ?_
  refine g_wrap1 ?_
  have e9 : wI (wI (ckZ N (N 5).toNat) * 31 + dateZ (N 0)) = wI (31 * ckZ N (N 5).toNat + dateZ (N 0)) := by
    unfold wI
    rw [← iI_add, ← iI_mul, iI_of, iI_mul, iI_add, Int.mul_comm]
  rw [e9]
  refine g_ireturn hC dX11_checksum_26 hr ⟨rfl, rfl, rfl, i32_in _⟩ gs_rfl ⟨Nat.le_of_ble_eq_true rfl, Nat.le_of_ble_eq_true rfl⟩

theorem kX11_dayOfWeek0 {E l Sh V z} {x9 cc9 : Int} {N : gN0} {P9 : Int → gN0} {d9 : Int} (hx : XR x9 N P9 cc9 Sh V) (hI0 : INV N) (h2 : inI d9) (h3 : dayZ d9 ≠ -1) : gM E l yX11_dayOfWeek (.code yX11_dayOfWeek cX11_dayOfWeek 2 (some .int)) (rmk 8 0 0 360) [(2, x9), (0, d9)] Sh V z (gRi (wdZ (dayZ d9)) Sh V) := by
  refine gM_at (L0 := [(2, x9), (0, d9)]) rfl rfl rfl ?_
  intro p e s m args below meth c hC hr hex hnm hz
  have hdz := dayZ_in d9
  refine gB hC _ _ _ _ _ _ _ qX11_dayOfWeek_0 rfl ?_
  refine g_cS1i hC dX11_dayOfWeek_1 mX11_55 sX11_checkedDay (kX11_checkedDay0 (by omega) (by omega)) rfl rfl (Nat.le_of_ble_eq_true rfl) (RR rfl rfl rfl rfl) (fun z i1 => ?_)
  refine g_cS1i hC dX11_dayOfWeek_4 mX11_227 sX0_weekdayOf (kX0_weekdayOf (by omega) (by omega)) rfl rfl (Nat.le_of_ble_eq_true rfl) (RR rfl rfl rfl rfl) (fun z i4 => ?_)
  refine g_ireturn hC dX11_dayOfWeek_7 hr ⟨rfl, rfl, rfl, by assumption⟩ gs_rfl ⟨Nat.le_of_ble_eq_true rfl, Nat.le_of_ble_eq_true rfl⟩

theorem kX11_addDays0 {E l Sh V z} {x9 cc9 : Int} {N : gN0} {P9 : Int → gN0} {d9 n9 : Int} (hx : XR x9 N P9 cc9 Sh V) (hI0 : INV N) (h2 : inI d9) (h3 : dayZ d9 ≠ -1) (h4 : -1000 ≤ n9 ∧ n9 ≤ 1000) (h5 : 0 ≤ dayZ d9 + n9) (h6 : dayZ d9 + n9 ≤ 36524) : gM E l yX11_addDays (.code yX11_addDays cX11_addDays 4 (some .int)) (rmk 8 0 0 360) [(2, x9), (0, d9), (0, n9)] Sh V z (gRi (dateZ (dayZ d9 + n9)) Sh V) := by
  refine gM_at (L0 := [(2, x9), (0, d9), (0, n9), (9, 0)]) rfl rfl rfl ?_
  intro p e s m args below meth c hC hr hex hnm hz
  have hdz := dayZ_in d9
  refine gB hC _ _ _ _ _ _ _ qX11_addDays_0 rfl ?_
  refine g_cS1i hC dX11_addDays_1 mX11_55 sX11_checkedDay (kX11_checkedDay0 (by omega) (by omega)) rfl rfl (Nat.le_of_ble_eq_true rfl) (RR rfl rfl rfl rfl) (fun z i1 => ?_)
  refine gB hC _ _ _ _ _ _ _ qX11_addDays_4 rfl ?_
  refine g_cS0 hC dX11_addDays_12 mX11_34 sX11_checkWithin (kX11_checkWithin0 (by omega) (by omega) (by omega) (by omega) (by omega)) rfl rfl (Nat.le_of_ble_eq_true rfl) (RR rfl rfl rfl rfl) (fun z => ?_)
  refine gB hC _ _ _ _ _ _ _ qX11_addDays_15 rfl ?_
  refine g_ldc hC 36524 kX11_230 rfl dX11_addDays_19 ?_
  refine g_cS0 hC dX11_addDays_21 mX11_34 sX11_checkWithin (kX11_checkWithin0 (by omega) (by omega) (by omega) (by omega) (by omega)) rfl rfl (Nat.le_of_ble_eq_true rfl) (RR rfl rfl rfl rfl) (fun z => ?_)
  refine gB hC _ _ _ _ _ _ _ qX11_addDays_24 rfl ?_
  refine g_cS1i hC dX11_addDays_27 mX11_181 sX0_dateOf (kX0_dateOf (by omega) (by omega)) rfl rfl (Nat.le_of_ble_eq_true rfl) (RR rfl rfl rfl rfl) (fun z i27 => ?_)
  refine g_ireturn hC dX11_addDays_30 hr ⟨rfl, rfl, rfl, by assumption⟩ gs_rfl ⟨Nat.le_of_ble_eq_true rfl, Nat.le_of_ble_eq_true rfl⟩

theorem kX11_roomOf0 {E l Sh V z} {x9 cc9 : Int} {N : gN0} {P9 : Int → gN0} {s9 : Int} (hx : XR x9 N P9 cc9 Sh V) (hI0 : INV N) (h0 : 0 ≤ s9) (h1 : s9 < N 5) (h2 : sF N s9 0 = 0 ∨ sF N s9 0 = 1) : gM E l yX11_roomOf (.code yX11_roomOf cX11_roomOf 3 (some .int)) (rmk 8 0 0 360) [(2, x9), (0, s9)] Sh V z (gRe (some (0, (gvT N (sF N s9 1) (kF N (sF N s9 1) 0) (N 5).toNat).1 s9)) (fun V' => XR x9 N P9 cc9 Sh V' ∧ OUX x9 Sh V V') Sh) := by
  refine gM_at (L0 := [(2, x9), (0, s9), (9, 0)]) rfl rfl rfl ?_
  intro p e s m args below meth c hC hr hex hnm hz
  have hI := hI0.1
  have hsc := hI.1
  unfold iScal at hsc
  refine gB hC _ _ _ _ _ _ _ qX11_roomOf_0 rfl ?_
  refine g_cV1 hC dX11_roomOf_2 mX11_135 vX11_checkedStay (kX11_checkedStay0 hx hI0 (by omega) (by omega)) rfl hx.sX (by decide) rfl (Nat.le_of_ble_eq_true rfl) (RR rfl rfl rfl rfl) (fun z => ?_)
  have hso := hI.2.2.2.1 s9 (by omega) (by omega)
  have hs1 := hso.1
  refine gB hC _ _ _ _ _ _ _ qX11_roomOf_5 rfl ?_
  refine g_cV1 hC dX11_roomOf_7 mX11_148 vX8_isAlive (kX8_isAlive (hx.1.2.1.ss (by omega) (by omega)) (hx.rh.st (by omega) (by omega))) rfl (hx.1.2.1.ss (by omega) (by omega)) (by decide) rfl (Nat.le_of_ble_eq_true rfl) (RR rfl rfl rfl rfl) (fun z => ?_)
  refine g_cS0 hC dX11_roomOf_10 mX11_43 sX11_checkState (kX11_checkState0 (by first | rfl | omega | exact bI_t (by omega))) rfl rfl (Nat.le_of_ble_eq_true rfl) (RR rfl rfl rfl rfl) (fun z => ?_)
  refine gB hC _ _ _ _ _ _ _ qX11_roomOf_13 rfl ?_
  refine g_getr hC dX11_roomOf_14 fX11_26 hx.sX (by decide) rfl 2 rfl hx.p2 ?_
  refine gB hC _ _ _ _ _ _ _ qX11_roomOf_17 rfl ?_
  refine g_getr hC dX11_roomOf_18 fX11_10 hx.sX (by decide) rfl 0 rfl hx.p0 ?_
  refine gB hC _ _ _ _ _ _ _ qX11_roomOf_21 rfl ?_
  refine g_getiv hC dX11_roomOf_22 fX11_247 (hx.1.2.1.ss (by omega) (by omega)) (by decide) rfl 1 rfl (hx.rh.st (by omega) (by omega)).f1 (fun i22 => ?_)
  refine g_cV0e hC dX11_roomOf_25 mX11_250 vX5_give (kX5_give hx.sP hx.sO hx.pO hx.sM hx.pM hx.sL hx.pL hx.rh hI0 (Or.inl (by omega)) (by omega) (by omega)) rfl hx.sP (by decide) rfl (Nat.le_of_ble_eq_true rfl) (RR rfl rfl rfl rfl) (fun z V25 e25 => ?_)
  have hx2 := XR_P hx hI0 e25.2.1 e25.2.2
  have hou2 := (OUX.rfl' x9 Sh V).pl e25.2.2
  obtain ⟨⟨m, hsz, hsr, hrv, hw01, hwi⟩, _, _⟩ := e25
  obtain ⟨j9, j0, j1, ej⟩ := hsr.2.2.1 s9 (by omega) (by omega) ⟨by omega, rfl⟩
  have ev := hrv j9 j0 j1
  rw [ej] at ev
  refine gB hC _ _ _ _ _ _ _ qX11_roomOf_28 rfl ?_
  refine g_getr hC dX11_roomOf_29 fX11_26 hx2.sX (by decide) rfl 2 rfl hx2.p2 ?_
  refine g_getr hC dX11_roomOf_32 fX11_254 hx2.sP (by decide) rfl 2 rfl hx2.pM ?_
  refine gB hC _ _ _ _ _ _ _ qX11_roomOf_35 rfl ?_
  refine g_iald hC dX11_roomOf_36 hx2.sM ev (by omega) (by omega) (by decide) (fun i36 => ?_)
  refine g_ireturn hC dX11_roomOf_37 hr ⟨rfl, rfl, ?_, ?_⟩ gs_rfl ⟨Nat.le_of_ble_eq_true rfl, Nat.le_of_ble_eq_true rfl⟩
  · exact hx2
  · exact hou2
