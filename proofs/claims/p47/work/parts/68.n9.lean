/-! the class: books, a day (rows laid by wip/whole/n68.py) -/
theorem whS_end {k : Int} : ∀ (q : Nat) (N : gN0), cnt N k (N 0) ≤ kF N k 0 → whS k q N = N := by
  intro q N h
  cases q with
  | zero => rfl
  | succ q => unfold whS; rw [if_neg (by omega)]

theorem RH_today {h : Int} {N : gN0} {Sh : gSh} {V V' : gV} (H : RH h N Sh V) (hz : szO N) (e : V' = up V h 0 (N 0 + 1)) : RH h (od0 N) Sh V' := by
  subst e
  unfold od0
  have ej : ∀ j, j ≠ 0 → up V h 0 (N 0 + 1) h j = V h j := fun j hj => up_ne _ _ (Or.inr hj)
  have eN : ∀ j, j ≠ 0 → upN N 0 (N 0 + 1) j = N j := fun j hj => upN_ne hj
  refine RH_H H hz (fun j hj => eN j (by omega)) (eN 1 (by decide)) (eN 2 (by decide)) (eN 5 (by decide)) (eN 7 (by decide)) (fun a ha => up_row _ _ _ ha) (fun j x _ => ej j (by omega)) ?_ ?_ ?_ ?_ ?_ ?_ ?_ ?_
  · rw [up_eq, upN_eq]
  · rw [ej 1 (by decide), eN 8 (by decide)]; exact H.t1
  · rw [ej 2 (by decide), eN 1 (by decide)]; exact H.t2
  · rw [ej 3 (by decide), eN 2 (by decide)]; exact H.t3
  · rw [ej 4 (by decide), eN 7 (by decide)]; exact H.t4
  · rw [ej 5 (by decide), eN 6 (by decide)]; exact H.t5
  · rw [ej 6 (by decide), eN 3 (by decide)]; exact H.t6
  · rw [ej 7 (by decide), eN 4 (by decide)]; exact H.t7

theorem kX2_takeDeposit {E l Sh V z} {h9 s9 : Int} {N : gN0} (hm : RH h9 N Sh V) (hI0 : INV N) (h0 : 0 ≤ s9) (h1 : s9 < N 5) : gM E l yX2_takeDeposit (.code yX2_takeDeposit cX2_takeDeposit 2 (some .int)) (rmk 1 0 0 40) [(2, h9), (2, h9 + 6 + 2 * s9)] Sh V z (gRe (some (0, dpO N s9)) (fun V' => RH h9 (payN N s9) Sh V' ∧ OUT h9 V V') Sh) := by
  refine gM_at (L0 := [(2, h9), (2, h9 + 6 + 2 * s9)]) rfl rfl rfl ?_
  intro p e s m args below meth c hC hr hex hnm hz
  have hI := hI0.1
  have hsc := hI.1
  unfold iScal at hsc
  have hso := hI.2.2.2.1 s9 h0 h1
  have hs1 := hso.1
  have hpr := sPr_in hso
  have htx := sTx_in hso
  have hph := Phi_in hI
  have hbo := hI0.2.1
  unfold bOk at hbo
  have hb0 : N (9 + 0) = N 9 := rfl
  have hb1 : N (9 + 1) = N 10 := rfl
  have hb2 : N (9 + 2) = N 11 := rfl
  have hb3 : N (9 + 3) = N 12 := rfl
  have hdp : dpO N s9 = (sPr N s9 * 20 + 50) / 100 := rfl
  refine gB hC _ _ _ _ _ _ _ qX2_takeDeposit_0 rfl ?_
  refine g_puti hC dX2_takeDeposit_2 fX2_217 (hm.1.ss (by omega) (by omega)) (by decide) rfl (fun _ h => by cases h; rfl) 0 rfl (by first | omega | exact cmpZ_in _ _ | exact bI_in _) (fun V2 e2 => ?_)
  refine gB hC _ _ _ _ _ _ _ qX2_takeDeposit_5 rfl ?_
  refine g_getiv hC dX2_takeDeposit_7 fX2_206 (hm.1.ss (by omega) (by omega)) (by decide) rfl 7 rfl ((congrFun (congrFun e2 _) _).trans ((up_ne _ _ (by omega)).trans (hm.st (by omega) (by omega)).f7)) (fun i7 => ?_)
  refine gB hC _ _ _ _ _ _ _ qX2_takeDeposit_10 rfl ?_
  refine g_cSN1i (host := "HotelNights") hC dX2_takeDeposit_12 (by decide) sX11_percentOf (kX11_percentOf (by omega) (by omega) (by omega) (by omega) (by omega)) rfl rfl (Nat.le_of_ble_eq_true rfl) (RR rfl rfl rfl rfl) (fun z i12 => ?_)
  rw [← hdp]
  refine g_puti hC dX2_takeDeposit_15 fX2_220 (hm.1.ss (by omega) (by omega)) (by decide) rfl (fun _ h => by cases h; rfl) 8 rfl (by first | omega | exact cmpZ_in _ _ | exact bI_in _) (fun V15 e15 => ?_)
  refine gB hC _ _ _ _ _ _ _ qX2_takeDeposit_18 rfl ?_
  refine g_getr hC dX2_takeDeposit_19 fX2_45 hm.1.sH (by decide) rfl 12 rfl ((congrFun (congrFun e15 _) _).trans ((up_ne _ _ (by omega)).trans ((congrFun (congrFun e2 _) _).trans ((up_ne _ _ (by omega)).trans hm.2.1.p12)))) ?_
  refine gB hC _ _ _ _ _ _ _ qX2_takeDeposit_22 rfl ?_
  refine g_lald hC dX2_takeDeposit_24 hm.1.sB ((congrFun (congrFun e15 _) _).trans ((up_ne _ _ (by omega)).trans ((congrFun (congrFun e2 _) _).trans ((up_ne _ _ (by omega)).trans (hm.b (by omega) (by omega)))))) (by omega) (by omega) (by decide) (fun i24 => ?_)
  refine gB hC _ _ _ _ _ _ _ qX2_takeDeposit_25 rfl ?_
  refine g_getiv hC dX2_takeDeposit_26 fX2_220 (hm.1.ss (by omega) (by omega)) (by decide) rfl 8 rfl ((congrFun (congrFun e15 _) _).trans (up_eq _ _ _ _)) (fun i26 => ?_)
  refine g_i2l hC dX2_takeDeposit_29 (by first | omega | exact cmpZ_in _ _ | exact bI_in _) ?_
  refine gB hC _ _ _ _ _ _ _ qX2_takeDeposit_30 rfl ?_
  refine g_lst hC dX2_takeDeposit_31 hm.1.sB (by omega) (by omega) (by decide) (by first | omega | exact cmpZ_in _ _ | exact bI_in _) (fun V31 e31 => ?_)
  refine gB hC _ _ _ _ _ _ _ qX2_takeDeposit_32 rfl ?_
  refine g_getr hC dX2_takeDeposit_33 fX2_45 hm.1.sH (by decide) rfl 12 rfl ((congrFun (congrFun e31 _) _).trans ((up_ne _ _ (by omega)).trans ((congrFun (congrFun e15 _) _).trans ((up_ne _ _ (by omega)).trans ((congrFun (congrFun e2 _) _).trans ((up_ne _ _ (by omega)).trans hm.2.1.p12)))))) ?_
  refine gB hC _ _ _ _ _ _ _ qX2_takeDeposit_36 rfl ?_
  refine g_lald hC dX2_takeDeposit_38 hm.1.sB ((congrFun (congrFun e31 _) _).trans ((up_ne _ _ (by omega)).trans ((congrFun (congrFun e15 _) _).trans ((up_ne _ _ (by omega)).trans ((congrFun (congrFun e2 _) _).trans ((up_ne _ _ (by omega)).trans (hm.b (by omega) (by omega)))))))) (by omega) (by omega) (by decide) (fun i38 => ?_)
  refine gB hC _ _ _ _ _ _ _ qX2_takeDeposit_39 rfl ?_
  refine g_getiv hC dX2_takeDeposit_40 fX2_220 (hm.1.ss (by omega) (by omega)) (by decide) rfl 8 rfl ((congrFun (congrFun e31 _) _).trans ((up_ne _ _ (by omega)).trans ((congrFun (congrFun e15 _) _).trans (up_eq _ _ _ _)))) (fun i40 => ?_)
  refine g_i2l hC dX2_takeDeposit_43 (by first | omega | exact cmpZ_in _ _ | exact bI_in _) ?_
  refine gB hC _ _ _ _ _ _ _ qX2_takeDeposit_44 rfl ?_
  refine g_lst hC dX2_takeDeposit_45 hm.1.sB (by omega) (by omega) (by decide) (by first | omega | exact cmpZ_in _ _ | exact bI_in _) (fun V45 e45 => ?_)
  refine gB hC _ _ _ _ _ _ _ qX2_takeDeposit_46 rfl ?_
  refine g_getiv hC dX2_takeDeposit_47 fX2_220 (hm.1.ss (by omega) (by omega)) (by decide) rfl 8 rfl ((congrFun (congrFun e45 _) _).trans ((up_ne _ _ (by omega)).trans ((congrFun (congrFun e31 _) _).trans ((up_ne _ _ (by omega)).trans ((congrFun (congrFun e15 _) _).trans (up_eq _ _ _ _)))))) (fun i47 => ?_)
  refine g_ireturn hC dX2_takeDeposit_50 hr ⟨rfl, rfl, ?_, ?_⟩ gs_rfl ⟨Nat.le_of_ble_eq_true rfl, Nat.le_of_ble_eq_true rfl⟩
  · refine RH_bk (s := s9) hm hI0.szO h0 h1 (payN_ag' N) (payN_w N h0) (fun a q1 q2 => by rw [e45, up_row _ _ _ q2, e31, up_row _ _ _ q2, e15, up_row _ _ _ q1, e2, up_row _ _ _ q1]) (fun j j0 j8 => by rw [e45, up_ne _ _ (by omega), e31, up_ne _ _ (by omega), e15, up_ne _ _ (by omega), e2, up_ne _ _ (by omega)]) ?_ ?_ ?_ ?_ ?_ ?_
    · rw [e45, up_ne _ _ (by omega), e31, up_ne _ _ (by omega), e15, up_ne _ _ (by omega), e2, up_eq, payN_0 N h0]
    · rw [e45, up_ne _ _ (by omega), e31, up_ne _ _ (by omega), e15, up_eq, payN_6 N h0]
    · rw [e45, up_ne _ _ (by omega), e31, up_eq, payN_b0 N h0]; rfl
    · rw [e45, up_eq, payN_b1 N h0]; rfl
    · rw [e45, up_ne _ _ (by omega), e31, up_ne _ _ (by omega), e15, up_ne _ _ (by omega), e2, up_ne _ _ (by omega), hm.b (i := 2) (by decide) (by decide), payN_b2 N h0]; rfl
    · rw [e45, up_ne _ _ (by omega), e31, up_ne _ _ (by omega), e15, up_ne _ _ (by omega), e2, up_ne _ _ (by omega), hm.b (i := 3) (by decide) (by decide), payN_b3 N h0]; rfl
  · intro a ha
    rw [e45, up_row _ _ _ (by omega), e31, up_row _ _ _ (by omega), e15, up_row _ _ _ (by omega), e2, up_row _ _ _ (by omega)]

theorem kX2_cancelStay {E l Sh V z} {h9 s9 : Int} {N : gN0} (hm : RH h9 N Sh V) (hI0 : INV N) (h0 : 0 ≤ s9) (h1 : s9 < N 5) : gM E l yX2_cancelStay (.code yX2_cancelStay cX2_cancelStay 3 (some .int)) (rmk 2 0 0 60) [(2, h9), (2, h9 + 6 + 2 * s9)] Sh V z (gRe (some (0, rfO N s9)) (fun V' => RH h9 (caN N s9) Sh V' ∧ OUT h9 V V') Sh) := by
  refine gM_at (L0 := [(2, h9), (2, h9 + 6 + 2 * s9), (9, 0)]) rfl rfl rfl ?_
  intro p e s m args below meth c hC hr hex hnm hz
  have hI := hI0.1
  have hsc := hI.1
  unfold iScal at hsc
  have hso := hI.2.2.2.1 s9 h0 h1
  have hs1 := hso.1
  have hpr := sPr_in hso
  have htx := sTx_in hso
  have hph := Phi_in hI
  have hbo := hI0.2.1
  unfold bOk at hbo
  have hb0 : N (9 + 0) = N 9 := rfl
  have hb1 : N (9 + 1) = N 10 := rfl
  have hb2 : N (9 + 2) = N 11 := rfl
  have hb3 : N (9 + 3) = N 12 := rfl
  have hrf := rfO_in hso
  refine gB hC _ _ _ _ _ _ _ qX2_cancelStay_0 rfl ?_
  refine g_getiv hC dX2_cancelStay_2 fX2_11 hm.1.sH (by decide) rfl 0 rfl hm.t0 (fun i2 => ?_)
  refine g_cV1i hC dX2_cancelStay_5 mX2_223 vX8_refundOn (kX8_refundOn (hm.1.ss h0 (by omega)) (hm.st h0 h1) hso rfl (by omega) (by omega)) rfl (hm.1.ss (by omega) (by omega)) (by decide) rfl (Nat.le_of_ble_eq_true rfl) (RR rfl rfl rfl rfl) (fun z i5 => ?_)
  refine gB hC _ _ _ _ _ _ _ qX2_cancelStay_8 rfl ?_
  refine g_getiv hC dX2_cancelStay_10 fX2_217 (hm.1.ss (by omega) (by omega)) (by decide) rfl 0 rfl (hm.st (by omega) (by omega)).f0 (fun i10 => ?_)
  refine gB hC _ _ _ _ _ _ _ qX2_cancelStay_13 rfl ?_
  refine g_icmp_ne hC 58 dX2_cancelStay_14 rfl (by first | omega | exact cmpZ_in _ _ | exact bI_in _) (by first | omega | exact cmpZ_in _ _ | exact bI_in _) (fun c14 => ?_) (fun c14 => ?_)
  · refine gB hC _ _ _ _ _ _ _ qX2_cancelStay_58 rfl ?_
    refine g_puti hC dX2_cancelStay_60 fX2_217 (hm.1.ss (by omega) (by omega)) (by decide) rfl (fun _ h => by cases h; rfl) 0 rfl (by first | omega | exact cmpZ_in _ _ | exact bI_in _) (fun V60 e60 => ?_)
    refine gB hC _ _ _ _ _ _ _ qX2_cancelStay_63 rfl ?_
    refine g_ireturn hC dX2_cancelStay_64 hr ⟨rfl, rfl, ?_, ?_⟩ gs_rfl ⟨Nat.le_of_ble_eq_true rfl, Nat.le_of_ble_eq_true rfl⟩
    · rw [caN_n (by omega)]
      exact RH_st hm hI0.szO h0 h1 e60
    · rw [e60]; exact (OUT.rfl' _ _).up (by omega)
  · refine gB hC _ _ _ _ _ _ _ qX2_cancelStay_17 rfl ?_
    refine g_getr hC dX2_cancelStay_18 fX2_45 hm.1.sH (by decide) rfl 12 rfl hm.2.1.p12 ?_
    refine gB hC _ _ _ _ _ _ _ qX2_cancelStay_21 rfl ?_
    refine g_lald hC dX2_cancelStay_23 hm.1.sB (hm.b (by omega) (by omega)) (by omega) (by omega) (by decide) (fun i23 => ?_)
    refine gB hC _ _ _ _ _ _ _ qX2_cancelStay_24 rfl ?_
    refine g_getiv hC dX2_cancelStay_25 fX2_220 (hm.1.ss (by omega) (by omega)) (by decide) rfl 8 rfl (hm.st (by omega) (by omega)).f8 (fun i25 => ?_)
    refine g_i2l hC dX2_cancelStay_28 (by first | omega | exact cmpZ_in _ _ | exact bI_in _) ?_
    refine gB hC _ _ _ _ _ _ _ qX2_cancelStay_29 rfl ?_
    refine g_lst hC dX2_cancelStay_30 hm.1.sB (by omega) (by omega) (by decide) (by first | omega | exact cmpZ_in _ _ | exact bI_in _) (fun V30 e30 => ?_)
    refine gB hC _ _ _ _ _ _ _ qX2_cancelStay_31 rfl ?_
    refine g_getr hC dX2_cancelStay_32 fX2_45 hm.1.sH (by decide) rfl 12 rfl ((congrFun (congrFun e30 _) _).trans ((up_ne _ _ (by omega)).trans hm.2.1.p12)) ?_
    refine gB hC _ _ _ _ _ _ _ qX2_cancelStay_35 rfl ?_
    refine g_lald hC dX2_cancelStay_37 hm.1.sB ((congrFun (congrFun e30 _) _).trans ((up_ne _ _ (by omega)).trans (hm.b (by omega) (by omega)))) (by omega) (by omega) (by decide) (fun i37 => ?_)
    refine gB hC _ _ _ _ _ _ _ qX2_cancelStay_38 rfl ?_
    refine g_i2l hC dX2_cancelStay_39 (by first | omega | exact cmpZ_in _ _ | exact bI_in _) ?_
    refine gB hC _ _ _ _ _ _ _ qX2_cancelStay_40 rfl ?_
    refine g_lst hC dX2_cancelStay_41 hm.1.sB (by omega) (by omega) (by decide) (by first | omega | exact cmpZ_in _ _ | exact bI_in _) (fun V41 e41 => ?_)
    refine gB hC _ _ _ _ _ _ _ qX2_cancelStay_42 rfl ?_
    refine g_getr hC dX2_cancelStay_43 fX2_45 hm.1.sH (by decide) rfl 12 rfl ((congrFun (congrFun e41 _) _).trans ((up_ne _ _ (by omega)).trans ((congrFun (congrFun e30 _) _).trans ((up_ne _ _ (by omega)).trans hm.2.1.p12)))) ?_
    refine gB hC _ _ _ _ _ _ _ qX2_cancelStay_46 rfl ?_
    refine g_lald hC dX2_cancelStay_48 hm.1.sB ((congrFun (congrFun e41 _) _).trans ((up_ne _ _ (by omega)).trans ((congrFun (congrFun e30 _) _).trans ((up_ne _ _ (by omega)).trans (hm.b (by omega) (by omega)))))) (by omega) (by omega) (by decide) (fun i48 => ?_)
    refine gB hC _ _ _ _ _ _ _ qX2_cancelStay_49 rfl ?_
    refine g_getiv hC dX2_cancelStay_50 fX2_220 (hm.1.ss (by omega) (by omega)) (by decide) rfl 8 rfl ((congrFun (congrFun e41 _) _).trans ((up_ne _ _ (by omega)).trans ((congrFun (congrFun e30 _) _).trans ((up_ne _ _ (by omega)).trans (hm.st (by omega) (by omega)).f8)))) (fun i50 => ?_)
    refine gB hC _ _ _ _ _ _ _ qX2_cancelStay_53 rfl ?_
    refine g_i2l hC dX2_cancelStay_55 (by first | omega | exact cmpZ_in _ _ | exact bI_in _) ?_
    refine gB hC _ _ _ _ _ _ _ qX2_cancelStay_56 rfl ?_
    refine g_lst hC dX2_cancelStay_57 hm.1.sB (by omega) (by omega) (by decide) (by first | omega | exact cmpZ_in _ _ | exact bI_in _) (fun V57 e57 => ?_)
    refine gB hC _ _ _ _ _ _ _ qX2_cancelStay_58 rfl ?_
    refine g_puti hC dX2_cancelStay_60 fX2_217 (hm.1.ss (by omega) (by omega)) (by decide) rfl (fun _ h => by cases h; rfl) 0 rfl (by first | omega | exact cmpZ_in _ _ | exact bI_in _) (fun V60 e60 => ?_)
    refine gB hC _ _ _ _ _ _ _ qX2_cancelStay_63 rfl ?_
    refine g_ireturn hC dX2_cancelStay_64 hr ⟨rfl, rfl, ?_, ?_⟩ gs_rfl ⟨Nat.le_of_ble_eq_true rfl, Nat.le_of_ble_eq_true rfl⟩
    · rw [caN_p (by omega)]
      refine RH_bk (s := s9) hm hI0.szO h0 h1 (caP_ag' N) (caP_w N h0) (fun a q1 q2 => by rw [e60, up_row _ _ _ q1, e57, up_row _ _ _ q2, e41, up_row _ _ _ q2, e30, up_row _ _ _ q2]) (fun j j0 j8 => by rw [e60, up_ne _ _ (by omega), e57, up_ne _ _ (by omega), e41, up_ne _ _ (by omega), e30, up_ne _ _ (by omega)]) ?_ ?_ ?_ ?_ ?_ ?_
      · rw [e60, up_eq, caP_0 N h0]
      · rw [e60, up_ne _ _ (by omega), e57, up_ne _ _ (by omega), e41, up_ne _ _ (by omega), e30, up_ne _ _ (by omega), (hm.st h0 h1).f8, caP_6 N h0]
      · rw [e60, up_ne _ _ (by omega), e57, up_ne _ _ (by omega), e41, up_eq, caP_b0 N h0]; rfl
      · rw [e60, up_ne _ _ (by omega), e57, up_ne _ _ (by omega), e41, up_ne _ _ (by omega), e30, up_eq, caP_b1 N h0]; rfl
      · rw [e60, up_ne _ _ (by omega), e57, up_eq, caP_b2 N h0]; rfl
      · rw [e60, up_ne _ _ (by omega), e57, up_ne _ _ (by omega), e41, up_ne _ _ (by omega), e30, up_ne _ _ (by omega), hm.b (i := 3) (by decide) (by decide), caP_b3 N h0]; rfl
    · intro a ha
      rw [e60, up_row _ _ _ (by omega), e57, up_row _ _ _ (by omega), e41, up_row _ _ _ (by omega), e30, up_row _ _ _ (by omega)]

theorem kX2_endStay {E l Sh V z} {h9 s9 : Int} {N : gN0} (hm : RH h9 N Sh V) (hI0 : INV N) (h0 : 0 ≤ s9) (h1 : s9 < N 5) : gM E l yX2_endStay (.code yX2_endStay cX2_endStay 4 none) (rmk 2 0 0 60) [(2, h9), (2, h9 + 6 + 2 * s9)] Sh V z (gRe none (fun V' => RH h9 (enN N s9) Sh V' ∧ OUT h9 V V') Sh) := by
  refine gM_at (L0 := [(2, h9), (2, h9 + 6 + 2 * s9), (9, 0), (9, 0)]) rfl rfl rfl ?_
  intro p e s m args below meth c hC hr hex hnm hz
  have hI := hI0.1
  have hsc := hI.1
  unfold iScal at hsc
  have hso := hI.2.2.2.1 s9 h0 h1
  have hs1 := hso.1
  have hpr := sPr_in hso
  have htx := sTx_in hso
  have hph := Phi_in hI
  have hbo := hI0.2.1
  unfold bOk at hbo
  have hb0 : N (9 + 0) = N 9 := rfl
  have hb1 : N (9 + 1) = N 10 := rfl
  have hb2 : N (9 + 2) = N 11 := rfl
  have hb3 : N (9 + 3) = N 12 := rfl
  refine gB hC _ _ _ _ _ _ _ qX2_endStay_0 rfl ?_
  refine g_cV1i hC dX2_endStay_1 mX2_226 vX8_taxOfAll (kX8_taxOfAll (hm.1.ss h0 (by omega)) (hm.st h0 h1) hso) rfl (hm.1.ss (by omega) (by omega)) (by decide) rfl (Nat.le_of_ble_eq_true rfl) (RR rfl rfl rfl rfl) (fun z i1 => ?_)
  refine g_i2l hC dX2_endStay_4 (by first | omega | exact cmpZ_in _ _ | exact bI_in _) ?_
  refine gB hC _ _ _ _ _ _ _ qX2_endStay_5 rfl ?_
  refine g_getr hC dX2_endStay_7 fX2_45 hm.1.sH (by decide) rfl 12 rfl hm.2.1.p12 ?_
  refine gB hC _ _ _ _ _ _ _ qX2_endStay_10 rfl ?_
  refine g_lald hC dX2_endStay_12 hm.1.sB (hm.b (by omega) (by omega)) (by omega) (by omega) (by decide) (fun i12 => ?_)
  refine gB hC _ _ _ _ _ _ _ qX2_endStay_13 rfl ?_
  refine g_getiv hC dX2_endStay_14 fX2_220 (hm.1.ss (by omega) (by omega)) (by decide) rfl 8 rfl (hm.st (by omega) (by omega)).f8 (fun i14 => ?_)
  refine g_i2l hC dX2_endStay_17 (by first | omega | exact cmpZ_in _ _ | exact bI_in _) ?_
  refine gB hC _ _ _ _ _ _ _ qX2_endStay_18 rfl ?_
  refine g_lst hC dX2_endStay_19 hm.1.sB (by omega) (by omega) (by decide) (by first | omega | exact cmpZ_in _ _ | exact bI_in _) (fun V19 e19 => ?_)
  refine gB hC _ _ _ _ _ _ _ qX2_endStay_20 rfl ?_
  refine g_getr hC dX2_endStay_21 fX2_45 hm.1.sH (by decide) rfl 12 rfl ((congrFun (congrFun e19 _) _).trans ((up_ne _ _ (by omega)).trans hm.2.1.p12)) ?_
  refine gB hC _ _ _ _ _ _ _ qX2_endStay_24 rfl ?_
  refine g_lald hC dX2_endStay_26 hm.1.sB ((congrFun (congrFun e19 _) _).trans ((up_ne _ _ (by omega)).trans (hm.b (by omega) (by omega)))) (by omega) (by omega) (by decide) (fun i26 => ?_)
  refine gB hC _ _ _ _ _ _ _ qX2_endStay_27 rfl ?_
  refine g_getiv hC dX2_endStay_28 fX2_206 (hm.1.ss (by omega) (by omega)) (by decide) rfl 7 rfl ((congrFun (congrFun e19 _) _).trans ((up_ne _ _ (by omega)).trans (hm.st (by omega) (by omega)).f7)) (fun i28 => ?_)
  refine g_i2l hC dX2_endStay_31 (by first | omega | exact cmpZ_in _ _ | exact bI_in _) ?_
  refine gB hC _ _ _ _ _ _ _ qX2_endStay_32 rfl ?_
  refine g_getiv hC dX2_endStay_35 fX2_220 (hm.1.ss (by omega) (by omega)) (by decide) rfl 8 rfl ((congrFun (congrFun e19 _) _).trans ((up_ne _ _ (by omega)).trans (hm.st (by omega) (by omega)).f8)) (fun i35 => ?_)
  refine g_i2l hC dX2_endStay_38 (by first | omega | exact cmpZ_in _ _ | exact bI_in _) ?_
  refine gB hC _ _ _ _ _ _ _ qX2_endStay_39 rfl ?_
  refine g_lst hC dX2_endStay_41 hm.1.sB (by omega) (by omega) (by decide) (by first | omega | exact cmpZ_in _ _ | exact bI_in _) (fun V41 e41 => ?_)
  refine gB hC _ _ _ _ _ _ _ qX2_endStay_42 rfl ?_
  refine g_getr hC dX2_endStay_43 fX2_45 hm.1.sH (by decide) rfl 12 rfl ((congrFun (congrFun e41 _) _).trans ((up_ne _ _ (by omega)).trans ((congrFun (congrFun e19 _) _).trans ((up_ne _ _ (by omega)).trans hm.2.1.p12)))) ?_
  refine gB hC _ _ _ _ _ _ _ qX2_endStay_46 rfl ?_
  refine g_lald hC dX2_endStay_48 hm.1.sB ((congrFun (congrFun e41 _) _).trans ((up_ne _ _ (by omega)).trans ((congrFun (congrFun e19 _) _).trans ((up_ne _ _ (by omega)).trans (hm.b (by omega) (by omega)))))) (by omega) (by omega) (by decide) (fun i48 => ?_)
  refine gB hC _ _ _ _ _ _ _ qX2_endStay_49 rfl ?_
  refine g_getiv hC dX2_endStay_50 fX2_206 (hm.1.ss (by omega) (by omega)) (by decide) rfl 7 rfl ((congrFun (congrFun e41 _) _).trans ((up_ne _ _ (by omega)).trans ((congrFun (congrFun e19 _) _).trans ((up_ne _ _ (by omega)).trans (hm.st (by omega) (by omega)).f7)))) (fun i50 => ?_)
  refine g_i2l hC dX2_endStay_53 (by first | omega | exact cmpZ_in _ _ | exact bI_in _) ?_
  refine gB hC _ _ _ _ _ _ _ qX2_endStay_54 rfl ?_
  refine g_lst hC dX2_endStay_55 hm.1.sB (by omega) (by omega) (by decide) (by first | omega | exact cmpZ_in _ _ | exact bI_in _) (fun V55 e55 => ?_)
  refine gB hC _ _ _ _ _ _ _ qX2_endStay_56 rfl ?_
  refine g_getr hC dX2_endStay_57 fX2_45 hm.1.sH (by decide) rfl 12 rfl ((congrFun (congrFun e55 _) _).trans ((up_ne _ _ (by omega)).trans ((congrFun (congrFun e41 _) _).trans ((up_ne _ _ (by omega)).trans ((congrFun (congrFun e19 _) _).trans ((up_ne _ _ (by omega)).trans hm.2.1.p12)))))) ?_
  refine gB hC _ _ _ _ _ _ _ qX2_endStay_60 rfl ?_
  refine g_lald hC dX2_endStay_62 hm.1.sB ((congrFun (congrFun e55 _) _).trans ((up_ne _ _ (by omega)).trans ((congrFun (congrFun e41 _) _).trans ((up_ne _ _ (by omega)).trans ((congrFun (congrFun e19 _) _).trans ((up_ne _ _ (by omega)).trans (hm.b (by omega) (by omega)))))))) (by omega) (by omega) (by decide) (fun i62 => ?_)
  refine gB hC _ _ _ _ _ _ _ qX2_endStay_63 rfl ?_
  refine g_lst hC dX2_endStay_65 hm.1.sB (by omega) (by omega) (by decide) (by first | omega | exact cmpZ_in _ _ | exact bI_in _) (fun V65 e65 => ?_)
  refine gB hC _ _ _ _ _ _ _ qX2_endStay_66 rfl ?_
  refine g_puti hC dX2_endStay_68 fX2_217 (hm.1.ss (by omega) (by omega)) (by decide) rfl (fun _ h => by cases h; rfl) 0 rfl (by first | omega | exact cmpZ_in _ _ | exact bI_in _) (fun V68 e68 => ?_)
  refine g_return hC dX2_endStay_71 hr ⟨rfl, rfl, ?_, ?_⟩ gs_rfl ⟨Nat.le_of_ble_eq_true rfl, Nat.le_of_ble_eq_true rfl⟩
  · refine RH_bk (s := s9) hm hI0.szO h0 h1 (enN_ag' N) (enN_w N h0) (fun a q1 q2 => by rw [e68, up_row _ _ _ q1, e65, up_row _ _ _ q2, e55, up_row _ _ _ q2, e41, up_row _ _ _ q2, e19, up_row _ _ _ q2]) (fun j j0 j8 => by rw [e68, up_ne _ _ (by omega), e65, up_ne _ _ (by omega), e55, up_ne _ _ (by omega), e41, up_ne _ _ (by omega), e19, up_ne _ _ (by omega)]) ?_ ?_ ?_ ?_ ?_ ?_
    · rw [e68, up_eq, enN_0 N h0]
    · rw [e68, up_ne _ _ (by omega), e65, up_ne _ _ (by omega), e55, up_ne _ _ (by omega), e41, up_ne _ _ (by omega), e19, up_ne _ _ (by omega), (hm.st h0 h1).f8, enN_6 N h0]
    · rw [e68, up_ne _ _ (by omega), e65, up_ne _ _ (by omega), e55, up_ne _ _ (by omega), e41, up_eq, enN_b0 N h0]; rfl
    · rw [e68, up_ne _ _ (by omega), e65, up_ne _ _ (by omega), e55, up_ne _ _ (by omega), e41, up_ne _ _ (by omega), e19, up_eq, enN_b1 N h0]; rfl
    · rw [e68, up_ne _ _ (by omega), e65, up_ne _ _ (by omega), e55, up_eq, enN_b2 N h0]; rfl
    · rw [e68, up_ne _ _ (by omega), e65, up_eq, enN_b3 N h0]; rfl
  · intro a ha
    rw [e68, up_row _ _ _ (by omega), e65, up_row _ _ _ (by omega), e55, up_row _ _ _ (by omega), e41, up_row _ _ _ (by omega), e19, up_row _ _ _ (by omega)]

theorem kX2_sendAway {E l Sh V z} {h9 s9 : Int} {N : gN0} (hm : RH h9 N Sh V) (hI0 : INV N) (h0 : 0 ≤ s9) (h1 : s9 < N 5) : gM E l yX2_sendAway (.code yX2_sendAway cX2_sendAway 2 none) (rmk 0 0 0 0) [(2, h9), (2, h9 + 6 + 2 * s9)] Sh V z (gRe none (fun V' => RH h9 (sdN N s9) Sh V' ∧ OUT h9 V V') Sh) := by
  refine gM_at (L0 := [(2, h9), (2, h9 + 6 + 2 * s9)]) rfl rfl rfl ?_
  intro p e s m args below meth c hC hr hex hnm hz
  have hI := hI0.1
  have hsc := hI.1
  unfold iScal at hsc
  have hso := hI.2.2.2.1 s9 h0 h1
  have hs1 := hso.1
  have hpr := sPr_in hso
  have htx := sTx_in hso
  have hph := Phi_in hI
  have hbo := hI0.2.1
  unfold bOk at hbo
  have hb0 : N (9 + 0) = N 9 := rfl
  have hb1 : N (9 + 1) = N 10 := rfl
  have hb2 : N (9 + 2) = N 11 := rfl
  have hb3 : N (9 + 3) = N 12 := rfl
  refine gB hC _ _ _ _ _ _ _ qX2_sendAway_0 rfl ?_
  refine g_getr hC dX2_sendAway_1 fX2_45 hm.1.sH (by decide) rfl 12 rfl hm.2.1.p12 ?_
  refine gB hC _ _ _ _ _ _ _ qX2_sendAway_4 rfl ?_
  refine g_lald hC dX2_sendAway_6 hm.1.sB (hm.b (by omega) (by omega)) (by omega) (by omega) (by decide) (fun i6 => ?_)
  refine gB hC _ _ _ _ _ _ _ qX2_sendAway_7 rfl ?_
  refine g_getiv hC dX2_sendAway_8 fX2_220 (hm.1.ss (by omega) (by omega)) (by decide) rfl 8 rfl (hm.st (by omega) (by omega)).f8 (fun i8 => ?_)
  refine g_i2l hC dX2_sendAway_11 (by first | omega | exact cmpZ_in _ _ | exact bI_in _) ?_
  refine gB hC _ _ _ _ _ _ _ qX2_sendAway_12 rfl ?_
  refine g_lst hC dX2_sendAway_13 hm.1.sB (by omega) (by omega) (by decide) (by first | omega | exact cmpZ_in _ _ | exact bI_in _) (fun V13 e13 => ?_)
  refine gB hC _ _ _ _ _ _ _ qX2_sendAway_14 rfl ?_
  refine g_getr hC dX2_sendAway_15 fX2_45 hm.1.sH (by decide) rfl 12 rfl ((congrFun (congrFun e13 _) _).trans ((up_ne _ _ (by omega)).trans hm.2.1.p12)) ?_
  refine gB hC _ _ _ _ _ _ _ qX2_sendAway_18 rfl ?_
  refine g_lald hC dX2_sendAway_20 hm.1.sB ((congrFun (congrFun e13 _) _).trans ((up_ne _ _ (by omega)).trans (hm.b (by omega) (by omega)))) (by omega) (by omega) (by decide) (fun i20 => ?_)
  refine gB hC _ _ _ _ _ _ _ qX2_sendAway_21 rfl ?_
  refine g_getiv hC dX2_sendAway_22 fX2_220 (hm.1.ss (by omega) (by omega)) (by decide) rfl 8 rfl ((congrFun (congrFun e13 _) _).trans ((up_ne _ _ (by omega)).trans (hm.st (by omega) (by omega)).f8)) (fun i22 => ?_)
  refine g_i2l hC dX2_sendAway_25 (by first | omega | exact cmpZ_in _ _ | exact bI_in _) ?_
  refine gB hC _ _ _ _ _ _ _ qX2_sendAway_26 rfl ?_
  refine g_lst hC dX2_sendAway_27 hm.1.sB (by omega) (by omega) (by decide) (by first | omega | exact cmpZ_in _ _ | exact bI_in _) (fun V27 e27 => ?_)
  refine gB hC _ _ _ _ _ _ _ qX2_sendAway_28 rfl ?_
  refine g_puti hC dX2_sendAway_30 fX2_217 (hm.1.ss (by omega) (by omega)) (by decide) rfl (fun _ h => by cases h; rfl) 0 rfl (by first | omega | exact cmpZ_in _ _ | exact bI_in _) (fun V30 e30 => ?_)
  refine g_return hC dX2_sendAway_33 hr ⟨rfl, rfl, ?_, ?_⟩ gs_rfl ⟨Nat.le_of_ble_eq_true rfl, Nat.le_of_ble_eq_true rfl⟩
  · refine RH_bk (s := s9) hm hI0.szO h0 h1 (sdN_ag' N) (sdN_w N h0) (fun a q1 q2 => by rw [e30, up_row _ _ _ q1, e27, up_row _ _ _ q2, e13, up_row _ _ _ q2]) (fun j j0 j8 => by rw [e30, up_ne _ _ (by omega), e27, up_ne _ _ (by omega), e13, up_ne _ _ (by omega)]) ?_ ?_ ?_ ?_ ?_ ?_
    · rw [e30, up_eq, sdN_0 N h0]
    · rw [e30, up_ne _ _ (by omega), e27, up_ne _ _ (by omega), e13, up_ne _ _ (by omega), (hm.st h0 h1).f8, sdN_6 N h0]
    · rw [e30, up_ne _ _ (by omega), e27, up_eq, sdN_b0 N h0]; rfl
    · rw [e30, up_ne _ _ (by omega), e27, up_ne _ _ (by omega), e13, up_eq, sdN_b1 N h0]; rfl
    · rw [e30, up_ne _ _ (by omega), e27, up_ne _ _ (by omega), e13, up_ne _ _ (by omega), hm.b (i := 2) (by decide) (by decide), sdN_b2 N h0]; rfl
    · rw [e30, up_ne _ _ (by omega), e27, up_ne _ _ (by omega), e13, up_ne _ _ (by omega), hm.b (i := 3) (by decide) (by decide), sdN_b3 N h0]; rfl
  · intro a ha
    rw [e30, up_row _ _ _ (by omega), e27, up_row _ _ _ (by omega), e13, up_row _ _ _ (by omega)]

theorem kX2_sendAwayBeyondRooms {E l Sh V z} {h9 k9 : Int} {N : gN0} (hm : RH h9 N Sh V) (hI0 : INV N) (h0 : 0 ≤ k9) (h1 : k9 < N 1) : gM E l yX2_sendAwayBeyondRooms (.code yX2_sendAwayBeyondRooms cX2_sendAwayBeyondRooms 5 none) (rmk 2 0 0 70) [(2, h9), (0, k9)] Sh V z (gRe none (fun V' => RH h9 (whS k9 61 N) Sh V' ∧ OUT h9 V V') Sh) := by
  refine gM_at (L0 := [(2, h9), (0, k9), (9, 0), (9, 0), (9, 0)]) rfl rfl rfl ?_
  intro p e s m args below meth c hC hr hex hnm hz
  have hI := hI0.1
  have hsc := hI.1
  unfold iScal at hsc
  have hk := hI.2.1 k9 h0 h1
  unfold kOk at hk
  have hcn := cnt_in hI k9 (N 0)
  refine gB hC _ _ _ _ _ _ _ qX2_sendAwayBeyondRooms_0 rfl ?_
  refine g_getr hC dX2_sendAwayBeyondRooms_1 fX2_41 hm.1.sH (by decide) rfl 11 rfl hm.2.1.p11 ?_
  refine gB hC _ _ _ _ _ _ _ qX2_sendAwayBeyondRooms_4 rfl ?_
  refine g_getiv hC dX2_sendAwayBeyondRooms_6 fX2_11 hm.1.sH (by decide) rfl 0 rfl hm.t0 (fun i6 => ?_)
  refine g_cV1i hC dX2_sendAwayBeyondRooms_9 mX2_119 vX9_countOn (kX9_countOn hm hI (by omega) (by omega)) rfl hm.1.sT (by decide) rfl (Nat.le_of_ble_eq_true rfl) (RR rfl rfl rfl rfl) (fun z i9 => ?_)
  refine gB hC _ _ _ _ _ _ _ qX2_sendAwayBeyondRooms_12 rfl ?_
  refine g_getr hC dX2_sendAwayBeyondRooms_13 fX2_22 hm.1.sH (by decide) rfl 8 rfl hm.2.1.p8 ?_
  refine gB hC _ _ _ _ _ _ _ qX2_sendAwayBeyondRooms_16 rfl ?_
  refine g_aald hC (j := 4) dX2_sendAwayBeyondRooms_17 hm.1.sK (by decide) (hm.2.1.pk (by omega) (by omega)) (by omega) (by omega) (by decide) ?_
  refine g_getiv hC dX2_sendAwayBeyondRooms_18 fX2_157 (hm.1.sk (by omega) (by omega)) (by decide) rfl 0 rfl (hm.k0 (by omega) (by omega)) (fun i18 => ?_)
  refine gB hC _ _ _ _ _ _ _ qX2_sendAwayBeyondRooms_21 rfl ?_
  refine g_loop (fun x : gV × gN0 × Nat × aV => RH h9 x.2.1 Sh x.1 ∧ OUT h9 V x.1 ∧ INV x.2.1 ∧ AgK N x.2.1 ∧ cnt x.2.1 k9 (x.2.1 0) = cnt N k9 (N 0) - x.2.2.1 ∧ whS k9 (61 - x.2.2.1) x.2.1 = whS k9 61 N ∧ (x.2.2.1 = 0 ∨ (x.2.2.1 : Int) ≤ cnt N k9 (N 0) - kF N k9 0)) (fun x => (cnt N k9 (N 0) - kF N k9 0 - x.2.2.1).toNat) 25 (fun x => [(2, h9), (0, k9), (0, cnt N k9 (N 0) - kF N k9 0), (0, (x.2.2.1 : Int)), x.2.2.2]) (fun x => x.1) (V, N, 0, (9, 0)) ⟨hm, OUT.rfl' _ _, hI0, AgK.rfl' N, by show cnt N k9 (N 0) = cnt N k9 (N 0) - ((0 : Nat) : Int); omega, rfl, Or.inl rfl⟩ ?_
  rintro ⟨V1, M, i, a4⟩ z ⟨hm1, ho1, hI1, hag, hcm, hwh, hi9⟩ ih
  dsimp only at hm1 ho1 hI1 hag hcm hwh hi9 ih ⊢
  have em0 : M 0 = N 0 := hag 0 (by omega)
  have em1 : M 1 = N 1 := hag 1 (by omega)
  have em5 : M 5 = N 5 := hag 5 (by omega)
  have emk : kF M k9 0 = kF N k9 0 := hag _ (by omega)
  refine gB hC _ _ _ _ _ _ _ qX2_sendAwayBeyondRooms_25 rfl ?_
  refine g_icmp_ge hC 70 dX2_sendAwayBeyondRooms_27 rfl (by first | omega | exact cmpZ_in _ _ | exact bI_in _) (by first | omega | exact cmpZ_in _ _ | exact bI_in _) (fun c27 => ?_) (fun c27 => ?_)
  · refine g_return hC dX2_sendAwayBeyondRooms_70 hr ⟨rfl, rfl, ?_, ?_⟩ gs_rfl ⟨Nat.le_of_ble_eq_true rfl, Nat.le_of_ble_eq_true rfl⟩
    · have e9 := whS_end (61 - i) M (k := k9) (by omega)
      rw [← hwh, e9]; exact hm1
    · exact ho1
  · have hst := sd_step hI1 h0 (by omega) (show kF M k9 0 < cnt M k9 (M 0) by omega)
    refine gB hC _ _ _ _ _ _ _ qX2_sendAwayBeyondRooms_30 rfl ?_
    refine g_getr hC dX2_sendAwayBeyondRooms_31 fX2_41 hm.1.sH (by decide) rfl 11 rfl hm1.2.1.p11 ?_
    refine gB hC _ _ _ _ _ _ _ qX2_sendAwayBeyondRooms_34 rfl ?_
    refine g_getiv hC dX2_sendAwayBeyondRooms_36 fX2_11 hm.1.sH (by decide) rfl 0 rfl hm1.t0 (fun i36 => ?_)
    refine g_cV1i hC dX2_sendAwayBeyondRooms_39 mX2_243 vX9_latestComer (kX9_latestComer hm1 hI1.1 (by omega) (by omega)) rfl hm.1.sT (by decide) rfl (Nat.le_of_ble_eq_true rfl) (RR rfl rfl rfl rfl) (fun z i39 => ?_)
    refine gB hC _ _ _ _ _ _ _ qX2_sendAwayBeyondRooms_42 rfl ?_
    refine g_icmp_eq hC 64 dX2_sendAwayBeyondRooms_47 rfl (by first | omega | exact cmpZ_in _ _ | exact bI_in _) (by first | omega | exact cmpZ_in _ _ | exact bI_in _) (fun c47 => ?_) (fun c47 => ?_)
    · exfalso; omega --stop
    · refine gB hC _ _ _ _ _ _ _ qX2_sendAwayBeyondRooms_50 rfl ?_
      refine g_getr hC dX2_sendAwayBeyondRooms_52 fX2_41 hm.1.sH (by decide) rfl 11 rfl hm1.2.1.p11 ?_
      refine g_getr hC dX2_sendAwayBeyondRooms_55 fX2_193 hm.1.sT (by decide) rfl 0 rfl hm1.2.1.pR ?_
      refine gB hC _ _ _ _ _ _ _ qX2_sendAwayBeyondRooms_58 rfl ?_
      refine g_aald hC (j := 6) dX2_sendAwayBeyondRooms_60 hm.1.sR (by decide) (hm1.2.1.ps (by omega) (by omega)) (by omega) (by omega) (by decide) ?_
      refine g_cV0e hC dX2_sendAwayBeyondRooms_61 mX2_246 vX2_sendAway (kX2_sendAway hm1 hI1 hst.1 hst.2.1) rfl hm.1.sH (by decide) rfl (Nat.le_of_ble_eq_true rfl) (RR rfl rfl rfl rfl) (fun z V61 e61 => ?_)
      refine gB hC _ _ _ _ _ _ _ qX2_sendAwayBeyondRooms_64 rfl ?_
      have hsd : whS k9 (61 - i) M = whS k9 (61 - (i + 1)) (sdN M (snS M k9 (M 0) (M 5).toNat)) := by
        rw [show 61 - i = (61 - (i + 1)) + 1 by omega, whS, if_pos (by omega)]
      refine ih (_, sdN M (snS M k9 (M 0) (M 5).toNat), i + 1, _) _ ⟨e61.1, ho1.tr e61.2, hst.2.2.1, hag.tr hst.2.2.2.1, by show _ = cnt N k9 (N 0) - ((i + 1 : Nat) : Int); rw [hst.2.2.2.2]; omega, by rw [← hsd]; exact hwh, Or.inr (by show ((i + 1 : Nat) : Int) ≤ _; omega)⟩ (by show (cnt N k9 (N 0) - kF N k9 0 - ((i + 1 : Nat) : Int)).toNat < (cnt N k9 (N 0) - kF N k9 0 - i).toNat; omega)

theorem kX2_passDay {E l Sh V z} {h9 : Int} {N : gN0} (hm : RH h9 N Sh V) (hI0 : INV N) (ht9 : N 0 + 1 ≤ 36524) : gM E l yX2_passDay (.code yX2_passDay cX2_passDay 3 none) (rmk 3 0 0 110) [(2, h9)] Sh V z (gRe none (fun V' => RH h9 (od3 N) Sh V' ∧ OUT h9 V V') Sh) := by
  refine gM_at (L0 := [(2, h9), (9, 0), (9, 0)]) rfl rfl rfl ?_
  intro p e s m args below meth c hC hr hex hnm hz
  have hI := hI0.1
  have hsc := hI.1
  unfold iScal at hsc
  have hoa := od_all hI0 ht9
  refine gB hC _ _ _ _ _ _ _ qX2_passDay_0 rfl ?_
  refine g_getiv hC dX2_passDay_2 fX2_11 hm.1.sH (by decide) rfl 0 rfl hm.t0 (fun i2 => ?_)
  refine gB hC _ _ _ _ _ _ _ qX2_passDay_5 rfl ?_
  refine g_puti hC dX2_passDay_7 fX2_11 hm.1.sH (by decide) rfl (fun _ h => by cases h; rfl) 0 rfl (by first | omega | exact cmpZ_in _ _ | exact bI_in _) (fun V7 e7 => ?_)
  have hm0 : RH h9 (od0 N) Sh V7 := RH_today hm hI0.szO e7
  have ho0 : OUT h9 V V7 := by rw [e7]; exact (OUT.rfl' _ _).up (by omega)
  have d0 : od0 N 0 = N 0 + 1 := upN_eq _ _ _
  have d5 : od0 N 5 = N 5 := upN_ne (by decide)
  have d1 : od0 N 1 = N 1 := upN_ne (by decide)
  refine gB hC _ _ _ _ _ _ _ qX2_passDay_10 rfl ?_
  refine g_loop (fun x : gV × Nat × aV => RH h9 (odE (od0 N) x.2.1) Sh x.1 ∧ OUT h9 V x.1 ∧ (x.2.1 : Int) ≤ N 5) (fun x => (N 5 - x.2.1).toNat) 12 (fun x => [(2, h9), (0, (x.2.1 : Int)), x.2.2]) (fun x => x.1) (V7, 0, (9, 0)) ⟨hm0, ho0, by show (0 : Int) ≤ N 5; omega⟩ ?_
  rintro ⟨V1, t, a2⟩ z ⟨hm1, ho1, ht⟩ ih
  dsimp only at hm1 ho1 ht ih ⊢
  have hlg := odE_inv hoa.1 t (by omega)
  have hI1 := hlg.1
  have x5 : odE (od0 N) t 5 = N 5 := (hlg.2 5 (by omega)).trans d5
  have x0 : odE (od0 N) t 0 = N 0 + 1 := (hlg.2 0 (by omega)).trans d0
  refine gB hC _ _ _ _ _ _ _ qX2_passDay_12 rfl ?_
  refine g_getr hC dX2_passDay_14 fX2_41 hm.1.sH (by decide) rfl 11 rfl hm1.2.1.p11 ?_
  refine g_getiv hC dX2_passDay_17 fX2_187 hm.1.sT (by decide) rfl 1 rfl hm1.tS (fun i17 => ?_)
  refine g_icmp_ge hC 63 dX2_passDay_20 rfl (by first | omega | exact cmpZ_in _ _ | exact bI_in _) (by first | omega | exact cmpZ_in _ _ | exact bI_in _) (fun c20 => ?_) (fun c20 => ?_)
  · have e9 : t = (N 5).toNat := by omega
    subst e9
    refine gB hC _ _ _ _ _ _ _ qX2_passDay_63 rfl ?_
    refine g_getr hC dX2_passDay_64 fX2_41 hm.1.sH (by decide) rfl 11 rfl hm1.2.1.p11 ?_
    refine gB hC _ _ _ _ _ _ _ qX2_passDay_67 rfl ?_
    refine g_getiv hC dX2_passDay_68 fX2_11 hm.1.sH (by decide) rfl 0 rfl hm1.t0 (fun i68 => ?_)
    refine g_cV0e hC dX2_passDay_71 mX2_237 vX9_cancelHeldLate (kX9_cancelHeldLate (N := od1 N) (show RH h9 (od1 N) Sh V1 from hm1) hoa.2.1.1 (show odE (od0 N) (N 5).toNat 0 = od1 N 0 from rfl)) rfl hm.1.sT (by decide) rfl (Nat.le_of_ble_eq_true rfl) (RR rfl rfl rfl rfl) (fun z V71 e71 => ?_)
    rw [show od1 N 5 = N 5 from x5] at e71
    refine gB hC _ _ _ _ _ _ _ qX2_passDay_74 rfl ?_
    refine g_loop (fun x : gV × Nat × aV => RH h9 (kdT (od2 N) x.2.1) Sh x.1 ∧ OUT h9 V x.1 ∧ (x.2.1 : Int) ≤ N 1) (fun x => (N 1 - x.2.1).toNat) 76 (fun x => [(2, h9), (0, (x.2.1 : Int)), x.2.2]) (fun x => x.1) (V71, 0, a2) ⟨e71.1, ho1.tr e71.2, by show (0 : Int) ≤ N 1; omega⟩ ?_
    rintro ⟨V2, t2, b2⟩ z ⟨hm2, ho2, ht2⟩ ih2
    dsimp only at hm2 ho2 ht2 ih2 ⊢
    have y1 : od2 N 1 = N 1 := (hoa.2.2.1.2 1 (by omega)).trans d1
    have hlk := kdT_inv hoa.2.2.1.1 t2 (by omega)
    have z1 : kdT (od2 N) t2 1 = N 1 := (hlk.2 1 (by omega)).trans y1
    refine gB hC _ _ _ _ _ _ _ qX2_passDay_76 rfl ?_
    refine g_getiv hC dX2_passDay_78 fX2_68 hm.1.sH (by decide) rfl 2 rfl hm2.t2 (fun i78 => ?_)
    refine g_icmp_ge hC 95 dX2_passDay_81 rfl (by first | omega | exact cmpZ_in _ _ | exact bI_in _) (by first | omega | exact cmpZ_in _ _ | exact bI_in _) (fun c81 => ?_) (fun c81 => ?_)
    · refine g_return hC dX2_passDay_95 hr ⟨rfl, rfl, ?_, ?_⟩ gs_rfl ⟨Nat.le_of_ble_eq_true rfl, Nat.le_of_ble_eq_true rfl⟩
      · have e9 : t2 = (N 1).toNat := by omega
        rw [e9] at hm2
        unfold od3
        exact hm2
      · exact ho2
    · refine gB hC _ _ _ _ _ _ _ qX2_passDay_84 rfl ?_
      refine g_cV0e hC dX2_passDay_86 mX2_240 vX2_sendAwayBeyondRooms (kX2_sendAwayBeyondRooms hm2 hlk.1 (by omega) (by omega)) rfl hm.1.sH (by decide) rfl (Nat.le_of_ble_eq_true rfl) (RR rfl rfl rfl rfl) (fun z V86 e86 => ?_)
      refine gB hC _ _ _ _ _ _ _ qX2_passDay_89 rfl ?_
      exact ih2 (_, t2 + 1, _) _ ⟨e86.1, ho2.tr e86.2, by show ((t2 + 1 : Nat) : Int) ≤ N 1; omega⟩ (by show (N 1 - ((t2 + 1 : Nat) : Int)).toNat < (N 1 - t2).toNat; omega)
  · refine gB hC _ _ _ _ _ _ _ qX2_passDay_23 rfl ?_
    refine g_getr hC dX2_passDay_24 fX2_41 hm.1.sH (by decide) rfl 11 rfl hm1.2.1.p11 ?_
    refine g_getr hC dX2_passDay_27 fX2_193 hm.1.sT (by decide) rfl 0 rfl hm1.2.1.pR ?_
    refine gB hC _ _ _ _ _ _ _ qX2_passDay_30 rfl ?_
    refine g_aald hC (j := 6) dX2_passDay_31 hm.1.sR (by decide) (hm1.2.1.ps (by omega) (by omega)) (by omega) (by omega) (by decide) ?_
    refine gB hC _ _ _ _ _ _ _ qX2_passDay_32 rfl ?_
    refine g_getiv hC dX2_passDay_34 fX2_217 (hm.1.ss (by omega) (by omega)) (by decide) rfl 0 rfl (hm1.st (by omega) (by omega)).f0 (fun i34 => ?_)
    refine gB hC _ _ _ _ _ _ _ qX2_passDay_37 rfl ?_
    refine g_icmp_ne hC 57 dX2_passDay_38 rfl (by first | omega | exact cmpZ_in _ _ | exact bI_in _) (by first | omega | exact cmpZ_in _ _ | exact bI_in _) (fun c38 => ?_) (fun c38 => ?_)
    · refine gB hC _ _ _ _ _ _ _ qX2_passDay_57 rfl ?_
      refine ih (_, t + 1, _) _ ⟨?_, ho1, by show ((t + 1 : Nat) : Int) ≤ N 5; omega⟩ (by show (N 5 - ((t + 1 : Nat) : Int)).toNat < (N 5 - t).toNat; omega)
      rw [odE, if_neg (by omega)]; exact hm1
    · refine gB hC _ _ _ _ _ _ _ qX2_passDay_41 rfl ?_
      refine g_cV1i hC dX2_passDay_42 mX2_230 vX8_lastNight (kX8_lastNight (hm.1.ss (by omega) (by omega)) (hm1.st (by omega) (by omega)) (hI1.1.2.2.2.1 _ (by omega) (by omega))) rfl (hm.1.ss (by omega) (by omega)) (by decide) rfl (Nat.le_of_ble_eq_true rfl) (RR rfl rfl rfl rfl) (fun z i42 => ?_)
      refine gB hC _ _ _ _ _ _ _ qX2_passDay_45 rfl ?_
      refine g_getiv hC dX2_passDay_46 fX2_11 hm.1.sH (by decide) rfl 0 rfl hm1.t0 (fun i46 => ?_)
      refine g_icmp_ge hC 57 dX2_passDay_49 rfl (by first | omega | exact cmpZ_in _ _ | exact bI_in _) (by first | omega | exact cmpZ_in _ _ | exact bI_in _) (fun c49 => ?_) (fun c49 => ?_)
      · refine gB hC _ _ _ _ _ _ _ qX2_passDay_57 rfl ?_
        refine ih (_, t + 1, _) _ ⟨?_, ho1, by show ((t + 1 : Nat) : Int) ≤ N 5; omega⟩ (by show (N 5 - ((t + 1 : Nat) : Int)).toNat < (N 5 - t).toNat; omega)
        rw [odE, if_neg (by omega)]; exact hm1
      · refine gB hC _ _ _ _ _ _ _ qX2_passDay_52 rfl ?_
        refine g_cV0e hC dX2_passDay_54 mX2_233 vX2_endStay (kX2_endStay hm1 hI1 (by omega) (by omega)) rfl hm.1.sH (by decide) rfl (Nat.le_of_ble_eq_true rfl) (RR rfl rfl rfl rfl) (fun z V54 e54 => ?_)
        refine gB hC _ _ _ _ _ _ _ qX2_passDay_57 rfl ?_
        refine ih (_, t + 1, _) _ ⟨?_, ho1.tr e54.2, by show ((t + 1 : Nat) : Int) ≤ N 5; omega⟩ (by show (N 5 - ((t + 1 : Nat) : Int)).toNat < (N 5 - t).toNat; omega)
        rw [odE, if_pos ⟨by omega, by omega⟩]; exact e54.1

