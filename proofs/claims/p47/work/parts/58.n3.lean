/-! the class: a stay (rows laid by wip/whole/n57.py) -/
theorem kX8_isAlive {E l Sh V z} {a9 s9 : Int} {N : gN0} (z1 : Sh a9 = some (7, 0)) (hS : stR a9 s9 N V) : gM E l yX8_isAlive (.code yX8_isAlive cX8_isAlive 1 (some .boolean)) (rmk 0 0 0 0) [(2, a9)] Sh V z (gR (some (0, bI (sF N s9 0 = 0 ∨ sF N s9 0 = 1))) Sh V) := by
  refine gM_at (L0 := [(2, a9)]) rfl rfl rfl ?_
  intro p e s m args below meth c hC hr hex hnm hz
  refine gB hC _ _ _ _ _ _ _ qX8_isAlive_0 rfl ?_
  refine g_getiv hC dX8_isAlive_1 fX8_15 z1 (by decide) rfl 0 rfl hS.f0 (fun i1 => ?_)
  refine g_if_eq hC 15 dX8_isAlive_4 rfl (by first | omega | exact cmpZ_in _ _ | exact bI_in _) (fun c4 => ?_) (fun c4 => ?_)
  · refine gB hC _ _ _ _ _ _ _ qX8_isAlive_15 rfl ?_
    refine g_zreturn hC dX8_isAlive_20 hr ?_ ⟨?_, rfl, rfl⟩ gs_rfl ⟨Nat.le_of_ble_eq_true rfl, Nat.le_of_ble_eq_true rfl⟩
    · first | exact Or.inl rfl | exact Or.inr rfl | exact bI_01 _
    first | (rw [bI_f (by omega)]; done) | (rw [bI_t (by omega)]; done)
  · refine gB hC _ _ _ _ _ _ _ qX8_isAlive_7 rfl ?_
    refine g_getiv hC dX8_isAlive_8 fX8_15 z1 (by decide) rfl 0 rfl hS.f0 (fun i8 => ?_)
    refine gB hC _ _ _ _ _ _ _ qX8_isAlive_11 rfl ?_
    refine g_icmp_ne hC 19 dX8_isAlive_12 rfl (by first | omega | exact cmpZ_in _ _ | exact bI_in _) (by first | omega | exact cmpZ_in _ _ | exact bI_in _) (fun c12 => ?_) (fun c12 => ?_)
    · refine gB hC _ _ _ _ _ _ _ qX8_isAlive_19 rfl ?_
      refine g_zreturn hC dX8_isAlive_20 hr ?_ ⟨?_, rfl, rfl⟩ gs_rfl ⟨Nat.le_of_ble_eq_true rfl, Nat.le_of_ble_eq_true rfl⟩
      · first | exact Or.inl rfl | exact Or.inr rfl | exact bI_01 _
      first | (rw [bI_f (by omega)]; done) | (rw [bI_t (by omega)]; done)
    · refine gB hC _ _ _ _ _ _ _ qX8_isAlive_15 rfl ?_
      refine g_zreturn hC dX8_isAlive_20 hr ?_ ⟨?_, rfl, rfl⟩ gs_rfl ⟨Nat.le_of_ble_eq_true rfl, Nat.le_of_ble_eq_true rfl⟩
      · first | exact Or.inl rfl | exact Or.inr rfl | exact bI_01 _
      first | (rw [bI_f (by omega)]; done) | (rw [bI_t (by omega)]; done)

theorem kX8_lastNight {E l Sh V z} {a9 s9 : Int} {N : gN0} (z1 : Sh a9 = some (7, 0)) (hS : stR a9 s9 N V) (ho : sOk N s9) : gM E l yX8_lastNight (.code yX8_lastNight cX8_lastNight 1 (some .int)) (rmk 0 0 0 0) [(2, a9)] Sh V z (gRi (sF N s9 2 + sF N s9 3 - 1) Sh V) := by
  refine gM_at (L0 := [(2, a9)]) rfl rfl rfl ?_
  intro p e s m args below meth c hC hr hex hnm hz
  have ho1 := ho.1
  refine gB hC _ _ _ _ _ _ _ qX8_lastNight_0 rfl ?_
  refine g_getiv hC dX8_lastNight_1 fX8_28 z1 (by decide) rfl 2 rfl hS.f2 (fun i1 => ?_)
  refine gB hC _ _ _ _ _ _ _ qX8_lastNight_4 rfl ?_
  refine g_getiv hC dX8_lastNight_5 fX8_29 z1 (by decide) rfl 3 rfl hS.f3 (fun i5 => ?_)
  refine gB hC _ _ _ _ _ _ _ qX8_lastNight_8 rfl ?_
  refine g_ireturn hC dX8_lastNight_11 hr ⟨rfl, rfl, rfl, by omega⟩ gs_rfl ⟨Nat.le_of_ble_eq_true rfl, Nat.le_of_ble_eq_true rfl⟩

theorem kX8_hasNight {E l Sh V z} {a9 s9 d : Int} {N : gN0} (z1 : Sh a9 = some (7, 0)) (hS : stR a9 s9 N V) (ho : sOk N s9) (h1 : inI d) : gM E l yX8_hasNight (.code yX8_hasNight cX8_hasNight 2 (some .boolean)) (rmk 0 0 0 0) [(2, a9), (0, d)] Sh V z (gR (some (0, bI (sF N s9 2 ≤ d ∧ d ≤ sF N s9 2 + sF N s9 3 - 1))) Sh V) := by
  refine gM_at (L0 := [(2, a9), (0, d)]) rfl rfl rfl ?_
  intro p e s m args below meth c hC hr hex hnm hz
  have ho1 := ho.1
  refine gB hC _ _ _ _ _ _ _ qX8_hasNight_0 rfl ?_
  refine g_getiv hC dX8_hasNight_1 fX8_28 z1 (by decide) rfl 2 rfl hS.f2 (fun i1 => ?_)
  refine gB hC _ _ _ _ _ _ _ qX8_hasNight_4 rfl ?_
  refine g_icmp_gt hC 25 dX8_hasNight_5 rfl (by first | omega | exact cmpZ_in _ _ | exact bI_in _) (by first | omega | exact cmpZ_in _ _ | exact bI_in _) (fun c5 => ?_) (fun c5 => ?_)
  · refine gB hC _ _ _ _ _ _ _ qX8_hasNight_25 rfl ?_
    refine g_zreturn hC dX8_hasNight_26 hr ?_ ⟨?_, rfl, rfl⟩ gs_rfl ⟨Nat.le_of_ble_eq_true rfl, Nat.le_of_ble_eq_true rfl⟩
    · first | exact Or.inl rfl | exact Or.inr rfl | exact bI_01 _
    first | (rw [bI_f (by omega)]; done) | (rw [bI_t (by omega)]; done)
  · refine gB hC _ _ _ _ _ _ _ qX8_hasNight_8 rfl ?_
    refine g_getiv hC dX8_hasNight_10 fX8_28 z1 (by decide) rfl 2 rfl hS.f2 (fun i10 => ?_)
    refine gB hC _ _ _ _ _ _ _ qX8_hasNight_13 rfl ?_
    refine g_getiv hC dX8_hasNight_14 fX8_29 z1 (by decide) rfl 3 rfl hS.f3 (fun i14 => ?_)
    refine gB hC _ _ _ _ _ _ _ qX8_hasNight_17 rfl ?_
    refine g_icmp_ge hC 25 dX8_hasNight_18 rfl (by first | omega | exact cmpZ_in _ _ | exact bI_in _) (by first | omega | exact cmpZ_in _ _ | exact bI_in _) (fun c18 => ?_) (fun c18 => ?_)
    · refine gB hC _ _ _ _ _ _ _ qX8_hasNight_25 rfl ?_
      refine g_zreturn hC dX8_hasNight_26 hr ?_ ⟨?_, rfl, rfl⟩ gs_rfl ⟨Nat.le_of_ble_eq_true rfl, Nat.le_of_ble_eq_true rfl⟩
      · first | exact Or.inl rfl | exact Or.inr rfl | exact bI_01 _
      first | (rw [bI_f (by omega)]; done) | (rw [bI_t (by omega)]; done)
    · refine gB hC _ _ _ _ _ _ _ qX8_hasNight_21 rfl ?_
      refine g_zreturn hC dX8_hasNight_26 hr ?_ ⟨?_, rfl, rfl⟩ gs_rfl ⟨Nat.le_of_ble_eq_true rfl, Nat.le_of_ble_eq_true rfl⟩
      · first | exact Or.inl rfl | exact Or.inr rfl | exact bI_01 _
      first | (rw [bI_f (by omega)]; done) | (rw [bI_t (by omega)]; done)

theorem kX8_addNight {E l Sh V z} {a9 n9 p9 x9 : Int} (z1 : Sh a9 = some (7, 0)) (z2 : Sh (a9 + 1) = some (100, 14)) (z3 : V a9 11 = a9 + 1) (h3 : V a9 3 = n9) (h7 : V a9 7 = p9) (h0 : 0 ≤ n9) (h1 : n9 < 14) (h2 : inI x9) (h4 : inI (p9 + x9)) : gM E l yX8_addNight (.code yX8_addNight cX8_addNight 2 none) (rmk 0 0 0 0) [(2, a9), (0, x9)] Sh V z (gR none Sh (up (up (up V (a9 + 1) n9 x9) a9 3 (n9 + 1)) a9 7 (p9 + x9))) := by
  refine gM_at (L0 := [(2, a9), (0, x9)]) rfl rfl rfl ?_
  intro p e s m args below meth c hC hr hex hnm hz
  refine gB hC _ _ _ _ _ _ _ qX8_addNight_0 rfl ?_
  refine g_getiv hC dX8_addNight_1 fX8_29 z1 (by decide) rfl 3 rfl h3 (fun i1 => ?_)
  refine gB hC _ _ _ _ _ _ _ qX8_addNight_4 rfl ?_
  refine g_icmp_ge hC 39 dX8_addNight_6 rfl (by first | omega | exact cmpZ_in _ _ | exact bI_in _) (by first | omega | exact cmpZ_in _ _ | exact bI_in _) (fun c6 => ?_) (fun c6 => ?_)
  · refine g_return hC dX8_addNight_39 hr ⟨rfl, rfl, ?_⟩ gs_rfl ⟨Nat.le_of_ble_eq_true rfl, Nat.le_of_ble_eq_true rfl⟩
    first | (exfalso; omega) | rw [e36, e26, e18]
  · refine gB hC _ _ _ _ _ _ _ qX8_addNight_9 rfl ?_
    refine g_getr hC dX8_addNight_10 fX8_9 z1 (by decide) rfl 11 rfl z3 ?_
    refine gB hC _ _ _ _ _ _ _ qX8_addNight_13 rfl ?_
    refine g_getiv hC dX8_addNight_14 fX8_29 z1 (by decide) rfl 3 rfl h3 (fun i14 => ?_)
    refine gB hC _ _ _ _ _ _ _ qX8_addNight_17 rfl ?_
    refine g_ast hC dX8_addNight_18 z2 (by omega) (by omega) (by decide) (by first | omega | exact cmpZ_in _ _ | exact bI_in _) (fun V18 e18 => ?_)
    refine gB hC _ _ _ _ _ _ _ qX8_addNight_19 rfl ?_
    refine g_getiv hC dX8_addNight_21 fX8_29 z1 (by decide) rfl 3 rfl ((congrFun (congrFun e18 _) _).trans ((up_ne _ _ (by omega)).trans h3)) (fun i21 => ?_)
    refine gB hC _ _ _ _ _ _ _ qX8_addNight_24 rfl ?_
    refine g_puti hC dX8_addNight_26 fX8_29 z1 (by decide) rfl (fun _ h => by cases h; rfl) 3 rfl (by first | omega | exact cmpZ_in _ _ | exact bI_in _) (fun V26 e26 => ?_)
    refine gB hC _ _ _ _ _ _ _ qX8_addNight_29 rfl ?_
    refine g_getiv hC dX8_addNight_31 fX8_43 z1 (by decide) rfl 7 rfl ((congrFun (congrFun e26 _) _).trans ((up_ne _ _ (by omega)).trans ((congrFun (congrFun e18 _) _).trans ((up_ne _ _ (by omega)).trans h7)))) (fun i31 => ?_)
    refine gB hC _ _ _ _ _ _ _ qX8_addNight_34 rfl ?_
    refine g_puti hC dX8_addNight_36 fX8_43 z1 (by decide) rfl (fun _ h => by cases h; rfl) 7 rfl (by first | omega | exact cmpZ_in _ _ | exact bI_in _) (fun V36 e36 => ?_)
    refine g_return hC dX8_addNight_39 hr ⟨rfl, rfl, ?_⟩ gs_rfl ⟨Nat.le_of_ble_eq_true rfl, Nat.le_of_ble_eq_true rfl⟩
    first | (exfalso; omega) | rw [e36, e26, e18]

theorem kX8_taxOfAll {E l Sh V z} {a9 s9 : Int} {N : gN0} (z1 : Sh a9 = some (7, 0)) (hS : stR a9 s9 N V) (ho : sOk N s9) : gM E l yX8_taxOfAll (.code yX8_taxOfAll cX8_taxOfAll 1 (some .int)) (rmk 1 0 0 30) [(2, a9)] Sh V z (gRi (sTx N s9) Sh V) := by
  refine gM_at (L0 := [(2, a9)]) rfl rfl rfl ?_
  intro p e s m args below meth c hC hr hex hnm hz
  have ho1 := ho.1
  have htx0 := sTx_in ho
  have htx := sTx_in ho
  unfold sTx at htx
  have m1 := mul_in (a := sF N s9 4) (b := sF N s9 7) (A := 4) (B := 1000) (by omega) (by omega) (by omega) (by omega)
  have m2 := mul_in (a := sF N s9 5) (b := (sF N s9 7 + 1) / 2) (A := 4) (B := 500) (by omega) (by omega) (by omega) (by omega)
  refine gB hC _ _ _ _ _ _ _ qX8_taxOfAll_0 rfl ?_
  refine g_getiv hC dX8_taxOfAll_1 fX8_29 z1 (by decide) rfl 3 rfl hS.f3 (fun i1 => ?_)
  refine gB hC _ _ _ _ _ _ _ qX8_taxOfAll_4 rfl ?_
  refine g_getiv hC dX8_taxOfAll_5 fX8_35 z1 (by decide) rfl 4 rfl hS.f4 (fun i5 => ?_)
  refine gB hC _ _ _ _ _ _ _ qX8_taxOfAll_8 rfl ?_
  refine g_getiv hC dX8_taxOfAll_9 fX8_40 z1 (by decide) rfl 6 rfl hS.f6 (fun i9 => ?_)
  refine gB hC _ _ _ _ _ _ _ qX8_taxOfAll_12 rfl ?_
  refine g_getiv hC dX8_taxOfAll_14 fX8_39 z1 (by decide) rfl 5 rfl hS.f5 (fun i14 => ?_)
  refine gB hC _ _ _ _ _ _ _ qX8_taxOfAll_17 rfl ?_
  refine g_getiv hC dX8_taxOfAll_18 fX8_40 z1 (by decide) rfl 6 rfl hS.f6 (fun i18 => ?_)
  refine g_cSN1i (host := "HotelNights") hC dX8_taxOfAll_21 (by decide) sX11_halfOf (kX11_halfOf (by omega) (by omega)) rfl rfl (Nat.le_of_ble_eq_true rfl) (RR rfl rfl rfl rfl) (fun z i21 => ?_)
  refine gB hC _ _ _ _ _ _ _ qX8_taxOfAll_24 rfl ?_
  refine g_ireturn hC dX8_taxOfAll_27 hr ⟨rfl, rfl, rfl, by omega⟩ gs_rfl ⟨Nat.le_of_ble_eq_true rfl, Nat.le_of_ble_eq_true rfl⟩

theorem kX8_refundOn {E l Sh V z} {a9 s9 t9 : Int} {N : gN0} (z1 : Sh a9 = some (7, 0)) (hS : stR a9 s9 N V) (ho : sOk N s9) (ht : t9 = N 0) (h0 : 0 ≤ N 0) (h1 : N 0 ≤ 36524) : gM E l yX8_refundOn (.code yX8_refundOn cX8_refundOn 2 (some .int)) (rmk 1 0 0 30) [(2, a9), (0, t9)] Sh V z (gRi (rfO N s9) Sh V) := by
  refine gM_at (L0 := [(2, a9), (0, t9)]) rfl rfl rfl ?_
  intro p e s m args below meth c hC hr hex hnm hz
  subst ht
  have ho1 := ho.1
  have hrf := rfO_in ho
  refine gB hC _ _ _ _ _ _ _ qX8_refundOn_0 rfl ?_
  refine g_getiv hC dX8_refundOn_1 fX8_15 z1 (by decide) rfl 0 rfl hS.f0 (fun i1 => ?_)
  refine gB hC _ _ _ _ _ _ _ qX8_refundOn_4 rfl ?_
  refine g_icmp_ne hC 18 dX8_refundOn_5 rfl (by first | omega | exact cmpZ_in _ _ | exact bI_in _) (by first | omega | exact cmpZ_in _ _ | exact bI_in _) (fun c5 => ?_) (fun c5 => ?_)
  · refine gB hC _ _ _ _ _ _ _ qX8_refundOn_18 rfl ?_
    refine g_ireturn hC dX8_refundOn_19 hr ⟨?_, rfl, rfl, by omega⟩ gs_rfl ⟨Nat.le_of_ble_eq_true rfl, Nat.le_of_ble_eq_true rfl⟩
    unfold rfO
    first | (rw [if_pos (by omega)]; done) | (rw [if_neg (by omega), if_pos (by omega)]; done) | (rw [if_neg (by omega), if_neg (by omega)]; done)
  · refine gB hC _ _ _ _ _ _ _ qX8_refundOn_8 rfl ?_
    refine g_getiv hC dX8_refundOn_9 fX8_28 z1 (by decide) rfl 2 rfl hS.f2 (fun i9 => ?_)
    refine gB hC _ _ _ _ _ _ _ qX8_refundOn_12 rfl ?_
    refine g_icmp_ge hC 20 dX8_refundOn_15 rfl (by first | omega | exact cmpZ_in _ _ | exact bI_in _) (by first | omega | exact cmpZ_in _ _ | exact bI_in _) (fun c15 => ?_) (fun c15 => ?_)
    · refine gB hC _ _ _ _ _ _ _ qX8_refundOn_20 rfl ?_
      refine g_getiv hC dX8_refundOn_21 fX8_28 z1 (by decide) rfl 2 rfl hS.f2 (fun i21 => ?_)
      refine gB hC _ _ _ _ _ _ _ qX8_refundOn_24 rfl ?_
      refine g_icmp_lt hC 38 dX8_refundOn_28 rfl (by first | omega | exact cmpZ_in _ _ | exact bI_in _) (by first | omega | exact cmpZ_in _ _ | exact bI_in _) (fun c28 => ?_) (fun c28 => ?_)
      · refine gB hC _ _ _ _ _ _ _ qX8_refundOn_38 rfl ?_
        refine g_getiv hC dX8_refundOn_39 fX8_46 z1 (by decide) rfl 8 rfl hS.f8 (fun i39 => ?_)
        refine g_cSN1i (host := "HotelNights") hC dX8_refundOn_42 (by decide) sX11_halfOf (kX11_halfOf (by omega) (by omega)) rfl rfl (Nat.le_of_ble_eq_true rfl) (RR rfl rfl rfl rfl) (fun z i42 => ?_)
        refine g_ireturn hC dX8_refundOn_45 hr ⟨?_, rfl, rfl, by omega⟩ gs_rfl ⟨Nat.le_of_ble_eq_true rfl, Nat.le_of_ble_eq_true rfl⟩
        unfold rfO
        first | (rw [if_pos (by omega)]; done) | (rw [if_neg (by omega), if_pos (by omega)]; done) | (rw [if_neg (by omega), if_neg (by omega)]; done)
      · refine gB hC _ _ _ _ _ _ _ qX8_refundOn_31 rfl ?_
        refine g_getiv hC dX8_refundOn_32 fX8_46 z1 (by decide) rfl 8 rfl hS.f8 (fun i32 => ?_)
        refine gB hC _ _ _ _ _ _ _ qX8_refundOn_35 rfl ?_
        refine g_ireturn hC dX8_refundOn_45 hr ⟨?_, rfl, rfl, by omega⟩ gs_rfl ⟨Nat.le_of_ble_eq_true rfl, Nat.le_of_ble_eq_true rfl⟩
        unfold rfO
        first | (rw [if_pos (by omega)]; done) | (rw [if_neg (by omega), if_pos (by omega)]; done) | (rw [if_neg (by omega), if_neg (by omega)]; done)
    · refine gB hC _ _ _ _ _ _ _ qX8_refundOn_18 rfl ?_
      refine g_ireturn hC dX8_refundOn_19 hr ⟨?_, rfl, rfl, by omega⟩ gs_rfl ⟨Nat.le_of_ble_eq_true rfl, Nat.le_of_ble_eq_true rfl⟩
      unfold rfO
      first | (rw [if_pos (by omega)]; done) | (rw [if_neg (by omega), if_pos (by omega)]; done) | (rw [if_neg (by omega), if_neg (by omega)]; done)

theorem kX8_begin {E l Sh V z} {a9 w9 t9 g9 r9 : Int} (z1 : Sh a9 = some (7, 0)) (w1 : Sh w9 = some (9, 0)) (hne : w9 ≠ a9) (h0 : inI t9) (h1 : inI g9) (h2 : inI r9) : gM E l yX8_begin (.code yX8_begin cX8_begin 5 none) (rmk 0 0 0 0) [(2, a9), (2, w9), (0, t9), (0, g9), (0, r9)] Sh V z (gR none Sh (rwV V a9 (rowL [0, V w9 0, V w9 1, 0, V w9 3, V w9 4, r9, 0, 0, g9, t9]) 11)) := by
  refine gM_at (L0 := [(2, a9), (2, w9), (0, t9), (0, g9), (0, r9)]) rfl rfl rfl ?_
  intro p e s m args below meth c hC hr hex hnm hz
  refine gB hC _ _ _ _ _ _ _ qX8_begin_0 rfl ?_
  refine g_puti hC dX8_begin_2 fX8_15 z1 (by decide) rfl (fun _ h => by cases h; rfl) 0 rfl (by first | omega | exact cmpZ_in _ _ | exact bI_in _) (fun V2 e2 => ?_)
  refine gB hC _ _ _ _ _ _ _ qX8_begin_5 rfl ?_
  refine g_getiv hC dX8_begin_7 fX8_19 w1 (by decide) rfl 0 rfl ((congrFun (congrFun e2 _) _).trans ((up_ne _ _ (by omega)).trans rfl)) (fun i7 => ?_)
  refine g_puti hC dX8_begin_10 fX8_24 z1 (by decide) rfl (fun _ h => by cases h; rfl) 1 rfl (by first | omega | exact cmpZ_in _ _ | exact bI_in _) (fun V10 e10 => ?_)
  refine gB hC _ _ _ _ _ _ _ qX8_begin_13 rfl ?_
  refine g_getiv hC dX8_begin_15 fX8_25 w1 (by decide) rfl 1 rfl ((congrFun (congrFun e10 _) _).trans ((up_ne _ _ (by omega)).trans ((congrFun (congrFun e2 _) _).trans ((up_ne _ _ (by omega)).trans rfl)))) (fun i15 => ?_)
  refine g_puti hC dX8_begin_18 fX8_28 z1 (by decide) rfl (fun _ h => by cases h; rfl) 2 rfl (by first | omega | exact cmpZ_in _ _ | exact bI_in _) (fun V18 e18 => ?_)
  refine gB hC _ _ _ _ _ _ _ qX8_begin_21 rfl ?_
  refine g_puti hC dX8_begin_23 fX8_29 z1 (by decide) rfl (fun _ h => by cases h; rfl) 3 rfl (by first | omega | exact cmpZ_in _ _ | exact bI_in _) (fun V23 e23 => ?_)
  refine gB hC _ _ _ _ _ _ _ qX8_begin_26 rfl ?_
  refine g_getiv hC dX8_begin_28 fX8_32 w1 (by decide) rfl 3 rfl ((congrFun (congrFun e23 _) _).trans ((up_ne _ _ (by omega)).trans ((congrFun (congrFun e18 _) _).trans ((up_ne _ _ (by omega)).trans ((congrFun (congrFun e10 _) _).trans ((up_ne _ _ (by omega)).trans ((congrFun (congrFun e2 _) _).trans ((up_ne _ _ (by omega)).trans rfl)))))))) (fun i28 => ?_)
  refine g_puti hC dX8_begin_31 fX8_35 z1 (by decide) rfl (fun _ h => by cases h; rfl) 4 rfl (by first | omega | exact cmpZ_in _ _ | exact bI_in _) (fun V31 e31 => ?_)
  refine gB hC _ _ _ _ _ _ _ qX8_begin_34 rfl ?_
  refine g_getiv hC dX8_begin_36 fX8_36 w1 (by decide) rfl 4 rfl ((congrFun (congrFun e31 _) _).trans ((up_ne _ _ (by omega)).trans ((congrFun (congrFun e23 _) _).trans ((up_ne _ _ (by omega)).trans ((congrFun (congrFun e18 _) _).trans ((up_ne _ _ (by omega)).trans ((congrFun (congrFun e10 _) _).trans ((up_ne _ _ (by omega)).trans ((congrFun (congrFun e2 _) _).trans ((up_ne _ _ (by omega)).trans rfl)))))))))) (fun i36 => ?_)
  refine g_puti hC dX8_begin_39 fX8_39 z1 (by decide) rfl (fun _ h => by cases h; rfl) 5 rfl (by first | omega | exact cmpZ_in _ _ | exact bI_in _) (fun V39 e39 => ?_)
  refine gB hC _ _ _ _ _ _ _ qX8_begin_42 rfl ?_
  refine g_puti hC dX8_begin_45 fX8_40 z1 (by decide) rfl (fun _ h => by cases h; rfl) 6 rfl (by first | omega | exact cmpZ_in _ _ | exact bI_in _) (fun V45 e45 => ?_)
  refine gB hC _ _ _ _ _ _ _ qX8_begin_48 rfl ?_
  refine g_puti hC dX8_begin_50 fX8_43 z1 (by decide) rfl (fun _ h => by cases h; rfl) 7 rfl (by first | omega | exact cmpZ_in _ _ | exact bI_in _) (fun V50 e50 => ?_)
  refine gB hC _ _ _ _ _ _ _ qX8_begin_53 rfl ?_
  refine g_puti hC dX8_begin_55 fX8_46 z1 (by decide) rfl (fun _ h => by cases h; rfl) 8 rfl (by first | omega | exact cmpZ_in _ _ | exact bI_in _) (fun V55 e55 => ?_)
  refine gB hC _ _ _ _ _ _ _ qX8_begin_58 rfl ?_
  refine g_puti hC dX8_begin_60 fX8_49 z1 (by decide) rfl (fun _ h => by cases h; rfl) 9 rfl (by first | omega | exact cmpZ_in _ _ | exact bI_in _) (fun V60 e60 => ?_)
  refine gB hC _ _ _ _ _ _ _ qX8_begin_63 rfl ?_
  refine g_puti hC dX8_begin_65 fX8_52 z1 (by decide) rfl (fun _ h => by cases h; rfl) 10 rfl (by first | omega | exact cmpZ_in _ _ | exact bI_in _) (fun V65 e65 => ?_)
  refine g_return hC dX8_begin_68 hr ⟨rfl, rfl, ?_⟩ gs_rfl ⟨Nat.le_of_ble_eq_true rfl, Nat.le_of_ble_eq_true rfl⟩
  rw [e65, e60, e55, e50, e45, e39, e31, e23, e18, e10, e2]; exact upS_rw V a9 [0, V w9 0, V w9 1, 0, V w9 3, V w9 4, r9, 0, 0, g9, t9] rfl

theorem kX8_copyFrom {E l Sh V z} {a9 o9 : Int} (z1 : Sh a9 = some (7, 0)) (z2 : Sh (a9 + 1) = some (100, 14)) (z3 : V a9 11 = a9 + 1) (y1 : Sh o9 = some (7, 0)) (y2 : Sh (o9 + 1) = some (100, 14)) (y3 : V o9 11 = o9 + 1) (hne : o9 + 1 < a9 ∨ a9 + 1 < o9) : gM E l yX8_copyFrom (.code yX8_copyFrom cX8_copyFrom 2 none) (rmk 1 0 0 40) [(2, a9), (2, o9)] Sh V z (gR none Sh (rwV (rwV V a9 (V o9) 11) (a9 + 1) (V (o9 + 1)) 14)) := by
  refine gM_at (L0 := [(2, a9), (2, o9)]) rfl rfl rfl ?_
  intro p e s m args below meth c hC hr hex hnm hz
  refine gB hC _ _ _ _ _ _ _ qX8_copyFrom_0 rfl ?_
  refine g_getiv hC dX8_copyFrom_2 fX8_15 y1 (by decide) rfl 0 rfl rfl (fun i2 => ?_)
  refine g_puti hC dX8_copyFrom_5 fX8_15 z1 (by decide) rfl (fun _ h => by cases h; rfl) 0 rfl (by first | omega | exact cmpZ_in _ _ | exact bI_in _) (fun V5 e5 => ?_)
  refine gB hC _ _ _ _ _ _ _ qX8_copyFrom_8 rfl ?_
  refine g_getiv hC dX8_copyFrom_10 fX8_24 y1 (by decide) rfl 1 rfl ((congrFun (congrFun e5 _) _).trans ((up_ne _ _ (by omega)).trans rfl)) (fun i10 => ?_)
  refine g_puti hC dX8_copyFrom_13 fX8_24 z1 (by decide) rfl (fun _ h => by cases h; rfl) 1 rfl (by first | omega | exact cmpZ_in _ _ | exact bI_in _) (fun V13 e13 => ?_)
  refine gB hC _ _ _ _ _ _ _ qX8_copyFrom_16 rfl ?_
  refine g_getiv hC dX8_copyFrom_18 fX8_28 y1 (by decide) rfl 2 rfl ((congrFun (congrFun e13 _) _).trans ((up_ne _ _ (by omega)).trans ((congrFun (congrFun e5 _) _).trans ((up_ne _ _ (by omega)).trans rfl)))) (fun i18 => ?_)
  refine g_puti hC dX8_copyFrom_21 fX8_28 z1 (by decide) rfl (fun _ h => by cases h; rfl) 2 rfl (by first | omega | exact cmpZ_in _ _ | exact bI_in _) (fun V21 e21 => ?_)
  refine gB hC _ _ _ _ _ _ _ qX8_copyFrom_24 rfl ?_
  refine g_getiv hC dX8_copyFrom_26 fX8_29 y1 (by decide) rfl 3 rfl ((congrFun (congrFun e21 _) _).trans ((up_ne _ _ (by omega)).trans ((congrFun (congrFun e13 _) _).trans ((up_ne _ _ (by omega)).trans ((congrFun (congrFun e5 _) _).trans ((up_ne _ _ (by omega)).trans rfl)))))) (fun i26 => ?_)
  refine g_puti hC dX8_copyFrom_29 fX8_29 z1 (by decide) rfl (fun _ h => by cases h; rfl) 3 rfl (by first | omega | exact cmpZ_in _ _ | exact bI_in _) (fun V29 e29 => ?_)
  refine gB hC _ _ _ _ _ _ _ qX8_copyFrom_32 rfl ?_
  refine g_getiv hC dX8_copyFrom_34 fX8_35 y1 (by decide) rfl 4 rfl ((congrFun (congrFun e29 _) _).trans ((up_ne _ _ (by omega)).trans ((congrFun (congrFun e21 _) _).trans ((up_ne _ _ (by omega)).trans ((congrFun (congrFun e13 _) _).trans ((up_ne _ _ (by omega)).trans ((congrFun (congrFun e5 _) _).trans ((up_ne _ _ (by omega)).trans rfl)))))))) (fun i34 => ?_)
  refine g_puti hC dX8_copyFrom_37 fX8_35 z1 (by decide) rfl (fun _ h => by cases h; rfl) 4 rfl (by first | omega | exact cmpZ_in _ _ | exact bI_in _) (fun V37 e37 => ?_)
  refine gB hC _ _ _ _ _ _ _ qX8_copyFrom_40 rfl ?_
  refine g_getiv hC dX8_copyFrom_42 fX8_39 y1 (by decide) rfl 5 rfl ((congrFun (congrFun e37 _) _).trans ((up_ne _ _ (by omega)).trans ((congrFun (congrFun e29 _) _).trans ((up_ne _ _ (by omega)).trans ((congrFun (congrFun e21 _) _).trans ((up_ne _ _ (by omega)).trans ((congrFun (congrFun e13 _) _).trans ((up_ne _ _ (by omega)).trans ((congrFun (congrFun e5 _) _).trans ((up_ne _ _ (by omega)).trans rfl)))))))))) (fun i42 => ?_)
  refine g_puti hC dX8_copyFrom_45 fX8_39 z1 (by decide) rfl (fun _ h => by cases h; rfl) 5 rfl (by first | omega | exact cmpZ_in _ _ | exact bI_in _) (fun V45 e45 => ?_)
  refine gB hC _ _ _ _ _ _ _ qX8_copyFrom_48 rfl ?_
  refine g_getiv hC dX8_copyFrom_50 fX8_40 y1 (by decide) rfl 6 rfl ((congrFun (congrFun e45 _) _).trans ((up_ne _ _ (by omega)).trans ((congrFun (congrFun e37 _) _).trans ((up_ne _ _ (by omega)).trans ((congrFun (congrFun e29 _) _).trans ((up_ne _ _ (by omega)).trans ((congrFun (congrFun e21 _) _).trans ((up_ne _ _ (by omega)).trans ((congrFun (congrFun e13 _) _).trans ((up_ne _ _ (by omega)).trans ((congrFun (congrFun e5 _) _).trans ((up_ne _ _ (by omega)).trans rfl)))))))))))) (fun i50 => ?_)
  refine g_puti hC dX8_copyFrom_53 fX8_40 z1 (by decide) rfl (fun _ h => by cases h; rfl) 6 rfl (by first | omega | exact cmpZ_in _ _ | exact bI_in _) (fun V53 e53 => ?_)
  refine gB hC _ _ _ _ _ _ _ qX8_copyFrom_56 rfl ?_
  refine g_getiv hC dX8_copyFrom_58 fX8_43 y1 (by decide) rfl 7 rfl ((congrFun (congrFun e53 _) _).trans ((up_ne _ _ (by omega)).trans ((congrFun (congrFun e45 _) _).trans ((up_ne _ _ (by omega)).trans ((congrFun (congrFun e37 _) _).trans ((up_ne _ _ (by omega)).trans ((congrFun (congrFun e29 _) _).trans ((up_ne _ _ (by omega)).trans ((congrFun (congrFun e21 _) _).trans ((up_ne _ _ (by omega)).trans ((congrFun (congrFun e13 _) _).trans ((up_ne _ _ (by omega)).trans ((congrFun (congrFun e5 _) _).trans ((up_ne _ _ (by omega)).trans rfl)))))))))))))) (fun i58 => ?_)
  refine g_puti hC dX8_copyFrom_61 fX8_43 z1 (by decide) rfl (fun _ h => by cases h; rfl) 7 rfl (by first | omega | exact cmpZ_in _ _ | exact bI_in _) (fun V61 e61 => ?_)
  refine gB hC _ _ _ _ _ _ _ qX8_copyFrom_64 rfl ?_
  refine g_getiv hC dX8_copyFrom_66 fX8_46 y1 (by decide) rfl 8 rfl ((congrFun (congrFun e61 _) _).trans ((up_ne _ _ (by omega)).trans ((congrFun (congrFun e53 _) _).trans ((up_ne _ _ (by omega)).trans ((congrFun (congrFun e45 _) _).trans ((up_ne _ _ (by omega)).trans ((congrFun (congrFun e37 _) _).trans ((up_ne _ _ (by omega)).trans ((congrFun (congrFun e29 _) _).trans ((up_ne _ _ (by omega)).trans ((congrFun (congrFun e21 _) _).trans ((up_ne _ _ (by omega)).trans ((congrFun (congrFun e13 _) _).trans ((up_ne _ _ (by omega)).trans ((congrFun (congrFun e5 _) _).trans ((up_ne _ _ (by omega)).trans rfl)))))))))))))))) (fun i66 => ?_)
  refine g_puti hC dX8_copyFrom_69 fX8_46 z1 (by decide) rfl (fun _ h => by cases h; rfl) 8 rfl (by first | omega | exact cmpZ_in _ _ | exact bI_in _) (fun V69 e69 => ?_)
  refine gB hC _ _ _ _ _ _ _ qX8_copyFrom_72 rfl ?_
  refine g_getiv hC dX8_copyFrom_74 fX8_49 y1 (by decide) rfl 9 rfl ((congrFun (congrFun e69 _) _).trans ((up_ne _ _ (by omega)).trans ((congrFun (congrFun e61 _) _).trans ((up_ne _ _ (by omega)).trans ((congrFun (congrFun e53 _) _).trans ((up_ne _ _ (by omega)).trans ((congrFun (congrFun e45 _) _).trans ((up_ne _ _ (by omega)).trans ((congrFun (congrFun e37 _) _).trans ((up_ne _ _ (by omega)).trans ((congrFun (congrFun e29 _) _).trans ((up_ne _ _ (by omega)).trans ((congrFun (congrFun e21 _) _).trans ((up_ne _ _ (by omega)).trans ((congrFun (congrFun e13 _) _).trans ((up_ne _ _ (by omega)).trans ((congrFun (congrFun e5 _) _).trans ((up_ne _ _ (by omega)).trans rfl)))))))))))))))))) (fun i74 => ?_)
  refine g_puti hC dX8_copyFrom_77 fX8_49 z1 (by decide) rfl (fun _ h => by cases h; rfl) 9 rfl (by first | omega | exact cmpZ_in _ _ | exact bI_in _) (fun V77 e77 => ?_)
  refine gB hC _ _ _ _ _ _ _ qX8_copyFrom_80 rfl ?_
  refine g_getiv hC dX8_copyFrom_82 fX8_52 y1 (by decide) rfl 10 rfl ((congrFun (congrFun e77 _) _).trans ((up_ne _ _ (by omega)).trans ((congrFun (congrFun e69 _) _).trans ((up_ne _ _ (by omega)).trans ((congrFun (congrFun e61 _) _).trans ((up_ne _ _ (by omega)).trans ((congrFun (congrFun e53 _) _).trans ((up_ne _ _ (by omega)).trans ((congrFun (congrFun e45 _) _).trans ((up_ne _ _ (by omega)).trans ((congrFun (congrFun e37 _) _).trans ((up_ne _ _ (by omega)).trans ((congrFun (congrFun e29 _) _).trans ((up_ne _ _ (by omega)).trans ((congrFun (congrFun e21 _) _).trans ((up_ne _ _ (by omega)).trans ((congrFun (congrFun e13 _) _).trans ((up_ne _ _ (by omega)).trans ((congrFun (congrFun e5 _) _).trans ((up_ne _ _ (by omega)).trans rfl)))))))))))))))))))) (fun i82 => ?_)
  refine g_puti hC dX8_copyFrom_85 fX8_52 z1 (by decide) rfl (fun _ h => by cases h; rfl) 10 rfl (by first | omega | exact cmpZ_in _ _ | exact bI_in _) (fun V85 e85 => ?_)
  refine gB hC _ _ _ _ _ _ _ qX8_copyFrom_88 rfl ?_
  refine g_getr hC dX8_copyFrom_89 fX8_9 y1 (by decide) rfl 11 rfl ((congrFun (congrFun e85 _) _).trans ((up_ne _ _ (by omega)).trans ((congrFun (congrFun e77 _) _).trans ((up_ne _ _ (by omega)).trans ((congrFun (congrFun e69 _) _).trans ((up_ne _ _ (by omega)).trans ((congrFun (congrFun e61 _) _).trans ((up_ne _ _ (by omega)).trans ((congrFun (congrFun e53 _) _).trans ((up_ne _ _ (by omega)).trans ((congrFun (congrFun e45 _) _).trans ((up_ne _ _ (by omega)).trans ((congrFun (congrFun e37 _) _).trans ((up_ne _ _ (by omega)).trans ((congrFun (congrFun e29 _) _).trans ((up_ne _ _ (by omega)).trans ((congrFun (congrFun e21 _) _).trans ((up_ne _ _ (by omega)).trans ((congrFun (congrFun e13 _) _).trans ((up_ne _ _ (by omega)).trans ((congrFun (congrFun e5 _) _).trans ((up_ne _ _ (by omega)).trans y3)))))))))))))))))))))) ?_
  refine gB hC _ _ _ _ _ _ _ qX8_copyFrom_92 rfl ?_
  refine g_getr hC dX8_copyFrom_94 fX8_9 z1 (by decide) rfl 11 rfl ((congrFun (congrFun e85 _) _).trans ((up_ne _ _ (by omega)).trans ((congrFun (congrFun e77 _) _).trans ((up_ne _ _ (by omega)).trans ((congrFun (congrFun e69 _) _).trans ((up_ne _ _ (by omega)).trans ((congrFun (congrFun e61 _) _).trans ((up_ne _ _ (by omega)).trans ((congrFun (congrFun e53 _) _).trans ((up_ne _ _ (by omega)).trans ((congrFun (congrFun e45 _) _).trans ((up_ne _ _ (by omega)).trans ((congrFun (congrFun e37 _) _).trans ((up_ne _ _ (by omega)).trans ((congrFun (congrFun e29 _) _).trans ((up_ne _ _ (by omega)).trans ((congrFun (congrFun e21 _) _).trans ((up_ne _ _ (by omega)).trans ((congrFun (congrFun e13 _) _).trans ((up_ne _ _ (by omega)).trans ((congrFun (congrFun e5 _) _).trans ((up_ne _ _ (by omega)).trans z3)))))))))))))))))))))) ?_
  refine gB hC _ _ _ _ _ _ _ qX8_copyFrom_97 rfl ?_
  refine g_copy_int hC dX8_copyFrom_100 mX8_55 gCpN gCpS gCpI y2 z2 ⟨by decide, by decide⟩ (by decide) (by decide) (by decide) (by decide) (by decide) ⟨Nat.le_of_ble_eq_true rfl, Nat.le_of_ble_eq_true rfl⟩ ?_
  refine g_return hC dX8_copyFrom_103 hr ⟨rfl, rfl, ?_⟩ gs_rfl ⟨Nat.le_of_ble_eq_true rfl, Nat.le_of_ble_eq_true rfl⟩
  have e9 : V85 = rwV V a9 (V o9) 11 := by
    rw [e85, e77, e69, e61, e53, e45, e37, e29, e21, e13, e5]
    refine (upS_rw V a9 [V o9 0, V o9 1, V o9 2, V o9 3, V o9 4, V o9 5, V o9 6, V o9 7, V o9 8, V o9 9, V o9 10] (n := 11) rfl).trans (rwV_congr (fun j j0 j1 => ?_))
    obtain rfl | rfl | rfl | rfl | rfl | rfl | rfl | rfl | rfl | rfl | rfl : j = 0 ∨ j = 1 ∨ j = 2 ∨ j = 3 ∨ j = 4 ∨ j = 5 ∨ j = 6 ∨ j = 7 ∨ j = 8 ∨ j = 9 ∨ j = 10 := by omega
    all_goals rfl
  rw [cpV_rw, e9]
  have e8 : rwV V a9 (V o9) 11 (o9 + 1) = V (o9 + 1) := rwV_ne (by omega)
  rw [e8]

theorem kX8_dropNights {E l Sh V z} {a9 s9 x9 : Int} {N : gN0} (z1 : Sh a9 = some (7, 0)) (z2 : Sh (a9 + 1) = some (100, 14)) (z3 : V a9 11 = a9 + 1) (hS : stR a9 s9 N V) (ho : sOk N s9) (h0 : 0 ≤ x9) (h1 : x9 < sF N s9 3) : gM E l yX8_dropNights (.code yX8_dropNights cX8_dropNights 4 (some .int)) (rmk 0 0 0 0) [(2, a9), (0, x9)] Sh V z (gRi (sPr N s9 - prT N s9 (sF N s9 3 - x9).toNat) Sh (up (up V a9 3 (sF N s9 3 - x9)) a9 7 (prT N s9 (sF N s9 3 - x9).toNat))) := by
  refine gM_at (L0 := [(2, a9), (0, x9), (9, 0), (9, 0)]) rfl rfl rfl ?_
  intro p e s m args below meth c hC hr hex hnm hz
  have ho1 := ho.1
  have hpr := sPr_in ho
  have hpt := prT_in ho (sF N s9 3 - x9).toNat (by omega)
  refine gB hC _ _ _ _ _ _ _ qX8_dropNights_0 rfl ?_
  have hV0 : V = up V a9 3 (sF N s9 3 - ((0 : Nat) : Int)) := by
    funext b j
    unfold up
    by_cases hb : b = a9 ∧ j = 3
    · rw [if_pos hb, hb.1, hb.2, hS.f3]; omega
    · rw [if_neg hb]
  refine g_loop (fun x : gV × Int × Nat => x.1 = up V a9 3 (sF N s9 3 - (x.2.2 : Int)) ∧ x.2.1 = sPr N s9 - prT N s9 (sF N s9 3 - x.2.2).toNat ∧ (x.2.2 : Int) ≤ x9) (fun x => (x9 - x.2.2).toNat) 4 (fun x => [(2, a9), (0, x9), (0, x.2.1), (0, (x.2.2 : Int))]) (fun x => x.1) (V, 0, 0) ⟨hV0, by show 0 = sPr N s9 - prT N s9 (sF N s9 3 - ((0 : Nat) : Int)).toNat; rw [show sF N s9 3 - ((0 : Nat) : Int) = sF N s9 3 by omega]; show 0 = sPr N s9 - sPr N s9; omega, by show (0 : Int) ≤ x9; omega⟩ ?_
  rintro ⟨V1, sum, t⟩ z ⟨hV1, hsum, ht⟩ ih
  dsimp only at hV1 hsum ht ih ⊢
  subst hV1
  have hit := prT_in ho (sF N s9 3 - t).toNat (by omega)
  refine gB hC _ _ _ _ _ _ _ qX8_dropNights_4 rfl ?_
  refine g_icmp_ge hC 44 dX8_dropNights_6 rfl (by first | omega | exact cmpZ_in _ _ | exact bI_in _) (by first | omega | exact cmpZ_in _ _ | exact bI_in _) (fun c6 => ?_) (fun c6 => ?_)
  · refine gB hC _ _ _ _ _ _ _ qX8_dropNights_44 rfl ?_
    refine g_getiv hC dX8_dropNights_46 fX8_43 z1 (by decide) rfl 7 rfl ((up_ne _ _ (by omega)).trans hS.f7) (fun i46 => ?_)
    refine gB hC _ _ _ _ _ _ _ qX8_dropNights_49 rfl ?_
    refine g_puti hC dX8_dropNights_51 fX8_43 z1 (by decide) rfl (fun _ h => by cases h; rfl) 7 rfl (by first | omega | exact cmpZ_in _ _ | exact bI_in _) (fun V51 e51 => ?_)
    refine gB hC _ _ _ _ _ _ _ qX8_dropNights_54 rfl ?_
    refine g_ireturn hC dX8_dropNights_55 hr ⟨?_, rfl, ?_, by omega⟩ gs_rfl ⟨Nat.le_of_ble_eq_true rfl, Nat.le_of_ble_eq_true rfl⟩
    · have e : (t : Int) = x9 := by omega
      rw [hsum, e]
    · have e : (t : Int) = x9 := by omega
      have e2 : sPr N s9 - sum = prT N s9 (sF N s9 3 - x9).toNat := by rw [hsum, e]; omega
      rw [e51, e2, e]
  · refine gB hC _ _ _ _ _ _ _ qX8_dropNights_9 rfl ?_
    refine g_getiv hC dX8_dropNights_10 fX8_29 z1 (by decide) rfl 3 rfl (up_eq _ _ _ _) (fun i10 => ?_)
    refine g_if_le hC 44 dX8_dropNights_13 rfl (by first | omega | exact cmpZ_in _ _ | exact bI_in _) (fun c13 => ?_) (fun c13 => ?_)
    · exfalso; omega --stop
    · refine gB hC _ _ _ _ _ _ _ qX8_dropNights_16 rfl ?_
      refine g_getiv hC dX8_dropNights_18 fX8_29 z1 (by decide) rfl 3 rfl (up_eq _ _ _ _) (fun i18 => ?_)
      refine gB hC _ _ _ _ _ _ _ qX8_dropNights_21 rfl ?_
      refine g_puti hC dX8_dropNights_23 fX8_29 z1 (by decide) rfl (fun _ h => by cases h; rfl) 3 rfl (by first | omega | exact cmpZ_in _ _ | exact bI_in _) (fun V23 e23 => ?_)
      refine gB hC _ _ _ _ _ _ _ qX8_dropNights_26 rfl ?_
      refine g_getr hC dX8_dropNights_28 fX8_9 z1 (by decide) rfl 11 rfl ((congrFun (congrFun e23 _) _).trans ((up_ne _ _ (by omega)).trans ((up_ne _ _ (by omega)).trans z3))) ?_
      refine gB hC _ _ _ _ _ _ _ qX8_dropNights_31 rfl ?_
      refine g_getiv hC dX8_dropNights_32 fX8_29 z1 (by decide) rfl 3 rfl ((congrFun (congrFun e23 _) _).trans (up_eq _ _ _ _)) (fun i32 => ?_)
      refine g_iald hC dX8_dropNights_35 z2 ((congrFun (congrFun e23 _) _).trans ((up_ne _ _ (by omega)).trans ((up_ne _ _ (by omega)).trans (hS.2 _ (by omega) (by omega))))) (by omega) (by omega) (by decide) (fun i35 => ?_)
      have hps := ho.2 (sF N s9 3 - (t : Int) - 1) (by omega) (by omega)
      refine gB hC _ _ _ _ _ _ _ qX8_dropNights_36 rfl ?_
      have hps := ho.2 (sF N s9 3 - (t : Int) - 1) (by omega) (by omega)
      rw [show sF N s9 3 - (t : Int) - 1 = sF N s9 3 - ((t + 1 : Nat) : Int) by omega]
      refine ih (V23, _, t + 1) _ ⟨by rw [e23, up_up, show sF N s9 3 - (t : Int) - 1 = sF N s9 3 - ((t + 1 : Nat) : Int) by omega], ?_, by show ((t + 1 : Nat) : Int) ≤ x9; omega⟩ (by show (x9 - ((t + 1 : Nat) : Int)).toNat < (x9 - t).toNat; omega)
      show sum + _ = sPr N s9 - prT N s9 (sF N s9 3 - ((t + 1 : Nat) : Int)).toNat
      rw [hsum, show (sF N s9 3 - (t : Int)).toNat = (sF N s9 3 - ((t + 1 : Nat) : Int)).toNat + 1 by omega, prT, show (((sF N s9 3 - ((t + 1 : Nat) : Int)).toNat : Nat) : Int) = sF N s9 3 - ((t + 1 : Nat) : Int) by omega]
      omega

theorem kX8_tell {E l Sh V z} {a9 s9 w9 : Int} {N : gN0} (z1 : Sh a9 = some (7, 0)) (hS : stR a9 s9 N V) (ho : sOk N s9) (h0 : 0 ≤ w9) (h1 : w9 ≤ 8) (h3 : N 1 ≤ 3) : gM E l yX8_tell (.code yX8_tell cX8_tell 2 (some .int)) (rmk 2 0 0 60) [(2, a9), (0, w9)] Sh V z (gRi (stZ N s9 w9) Sh V) := by
  refine gM_at (L0 := [(2, a9), (0, w9)]) rfl rfl rfl ?_
  intro p e s m args below meth c hC hr hex hnm hz
  have ho1 := ho.1
  have hpr := sPr_in ho
  have htx := sTx_in ho
  have hd1 := dateZ_in (d := sF N s9 2) (by omega) (by omega)
  have hd2 := dateZ_in (d := sF N s9 9) (by omega) (by omega)
  refine gB hC _ _ _ _ _ _ _ qX8_tell_0 rfl ?_
  have hsw : w9 = 0 ∨ w9 = 1 ∨ w9 = 2 ∨ w9 = 3 ∨ w9 = 4 ∨ w9 = 5 ∨ w9 = 6 ∨ w9 = 7 ∨ w9 = 8 := by omega
  rcases hsw with rfl | rfl | rfl | rfl | rfl | rfl | rfl | rfl | rfl
  · refine g_tsIn hC 48 dX8_tell_1 (by decide) (by decide) (by decide) (off := 47) rfl rfl ?_
    refine gB hC _ _ _ _ _ _ _ qX8_tell_48 rfl ?_
    refine g_getiv hC dX8_tell_49 fX8_15 z1 (by decide) rfl 0 rfl hS.f0 (fun i49 => ?_)
    refine g_ireturn hC dX8_tell_52 hr ⟨rfl, rfl, rfl, stZ_in ho h3 _⟩ gs_rfl ⟨Nat.le_of_ble_eq_true rfl, Nat.le_of_ble_eq_true rfl⟩
  · refine g_tsIn hC 53 dX8_tell_1 (by decide) (by decide) (by decide) (off := 52) rfl rfl ?_
    refine gB hC _ _ _ _ _ _ _ qX8_tell_53 rfl ?_
    refine g_getiv hC dX8_tell_54 fX8_24 z1 (by decide) rfl 1 rfl hS.f1 (fun i54 => ?_)
    refine g_ireturn hC dX8_tell_57 hr ⟨rfl, rfl, rfl, stZ_in ho h3 _⟩ gs_rfl ⟨Nat.le_of_ble_eq_true rfl, Nat.le_of_ble_eq_true rfl⟩
  · refine g_tsIn hC 58 dX8_tell_1 (by decide) (by decide) (by decide) (off := 57) rfl rfl ?_
    refine gB hC _ _ _ _ _ _ _ qX8_tell_58 rfl ?_
    refine g_getiv hC dX8_tell_59 fX8_28 z1 (by decide) rfl 2 rfl hS.f2 (fun i59 => ?_)
    refine g_cS1i hC dX8_tell_62 mX8_78 sX0_dateOf (kX0_dateOf (by omega) (by omega)) rfl rfl (Nat.le_of_ble_eq_true rfl) (RR rfl rfl rfl rfl) (fun z i62 => ?_)
    refine g_ireturn hC dX8_tell_65 hr ⟨rfl, rfl, rfl, stZ_in ho h3 _⟩ gs_rfl ⟨Nat.le_of_ble_eq_true rfl, Nat.le_of_ble_eq_true rfl⟩
  · refine g_tsIn hC 66 dX8_tell_1 (by decide) (by decide) (by decide) (off := 65) rfl rfl ?_
    refine gB hC _ _ _ _ _ _ _ qX8_tell_66 rfl ?_
    refine g_getiv hC dX8_tell_67 fX8_29 z1 (by decide) rfl 3 rfl hS.f3 (fun i67 => ?_)
    refine g_ireturn hC dX8_tell_70 hr ⟨rfl, rfl, rfl, stZ_in ho h3 _⟩ gs_rfl ⟨Nat.le_of_ble_eq_true rfl, Nat.le_of_ble_eq_true rfl⟩
  · refine g_tsIn hC 71 dX8_tell_1 (by decide) (by decide) (by decide) (off := 70) rfl rfl ?_
    refine gB hC _ _ _ _ _ _ _ qX8_tell_71 rfl ?_
    refine g_getiv hC dX8_tell_72 fX8_43 z1 (by decide) rfl 7 rfl hS.f7 (fun i72 => ?_)
    refine g_ireturn hC dX8_tell_75 hr ⟨rfl, rfl, rfl, stZ_in ho h3 _⟩ gs_rfl ⟨Nat.le_of_ble_eq_true rfl, Nat.le_of_ble_eq_true rfl⟩
  · refine g_tsIn hC 76 dX8_tell_1 (by decide) (by decide) (by decide) (off := 75) rfl rfl ?_
    refine gB hC _ _ _ _ _ _ _ qX8_tell_76 rfl ?_
    refine g_getiv hC dX8_tell_77 fX8_46 z1 (by decide) rfl 8 rfl hS.f8 (fun i77 => ?_)
    refine g_ireturn hC dX8_tell_80 hr ⟨rfl, rfl, rfl, stZ_in ho h3 _⟩ gs_rfl ⟨Nat.le_of_ble_eq_true rfl, Nat.le_of_ble_eq_true rfl⟩
  · refine g_tsIn hC 81 dX8_tell_1 (by decide) (by decide) (by decide) (off := 80) rfl rfl ?_
    refine gB hC _ _ _ _ _ _ _ qX8_tell_81 rfl ?_
    refine g_cV1i hC dX8_tell_82 mX8_83 vX8_taxOfAll (kX8_taxOfAll z1 hS ho) rfl z1 (by decide) rfl (Nat.le_of_ble_eq_true rfl) (RR rfl rfl rfl rfl) (fun z i82 => ?_)
    refine g_ireturn hC dX8_tell_85 hr ⟨rfl, rfl, rfl, stZ_in ho h3 _⟩ gs_rfl ⟨Nat.le_of_ble_eq_true rfl, Nat.le_of_ble_eq_true rfl⟩
  · refine g_tsIn hC 86 dX8_tell_1 (by decide) (by decide) (by decide) (off := 85) rfl rfl ?_
    refine gB hC _ _ _ _ _ _ _ qX8_tell_86 rfl ?_
    refine g_getiv hC dX8_tell_87 fX8_49 z1 (by decide) rfl 9 rfl hS.f9 (fun i87 => ?_)
    refine g_ireturn hC dX8_tell_90 hr ⟨rfl, rfl, rfl, stZ_in ho h3 _⟩ gs_rfl ⟨Nat.le_of_ble_eq_true rfl, Nat.le_of_ble_eq_true rfl⟩
  · refine g_tsOut hC 91 dX8_tell_1 (by decide) (Or.inr (by decide)) rfl ?_
    refine gB hC _ _ _ _ _ _ _ qX8_tell_91 rfl ?_
    refine g_getiv hC dX8_tell_92 fX8_52 z1 (by decide) rfl 10 rfl hS.f10 (fun i92 => ?_)
    refine g_cS1i hC dX8_tell_95 mX8_78 sX0_dateOf (kX0_dateOf (by omega) (by omega)) rfl rfl (Nat.le_of_ble_eq_true rfl) (RR rfl rfl rfl rfl) (fun z i95 => ?_)
    refine g_ireturn hC dX8_tell_98 hr ⟨rfl, rfl, rfl, stZ_in ho h3 _⟩ gs_rfl ⟨Nat.le_of_ble_eq_true rfl, Nat.le_of_ble_eq_true rfl⟩

