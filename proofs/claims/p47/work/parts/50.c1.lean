/-! the class: dates (rows laid by wip/whole/c1.py) -/
theorem kX0_beforeMonth {E l Sh V z} {y m0 : Int} (h0 : 0 ≤ y) (h1 : y ≤ 9999) (h2 : 1 ≤ m0) (h3 : m0 ≤ 12) : gM E l yX0_beforeMonth (.code yX0_beforeMonth cX0_beforeMonth 2 (some .int)) (rmk 0 0 0 0) [(0, y), (0, m0)] Sh V z (gRi (bM y m0) Sh V) := by
  refine gM_at (L0 := [(0, y), (0, m0)]) rfl rfl rfl ?_
  intro p e s m args below meth c hC hr hex hnm hz
  have hbm := bM_in (y := y) h2 h3
  have hbt : bM y m0 = bmT (m0 - 1) + (if 2 < m0 then lp y else 0) := rfl
  have hlp : lp y = if y % 4 = 0 then 1 else 0 := rfl
  refine gB hC _ _ _ _ _ _ _ qX0_beforeMonth_0 rfl ?_
  refine g_icmp_lt hC 11 dX0_beforeMonth_2 rfl (by first | omega | exact bI_in _) (by first | omega | exact bI_in _) (fun c2 => ?_) (fun c2 => ?_)
  · refine gB hC _ _ _ _ _ _ _ qX0_beforeMonth_11 rfl ?_
    refine g_ireturn hC dX0_beforeMonth_12 hr ⟨?_, rfl, rfl, by omega⟩ gs_rfl ⟨Nat.le_of_ble_eq_true rfl, Nat.le_of_ble_eq_true rfl⟩
    first | (exfalso; omega) | (rw [hbt, if_pos (by omega), hlp, if_pos (by omega)]; done) | (rw [hbt, if_pos (by omega), hlp, if_neg (by omega)]; done) | (rw [hbt, if_neg (by omega)]; done)
  · refine gB hC _ _ _ _ _ _ _ qX0_beforeMonth_5 rfl ?_
    refine g_icmp_le hC 13 dX0_beforeMonth_8 rfl (by first | omega | exact bI_in _) (by first | omega | exact bI_in _) (fun c8 => ?_) (fun c8 => ?_)
    · refine g_table hC dX0_beforeMonth_13 fX0_18 (fun tb htb => ?_)
      refine gB hC _ _ _ _ _ _ _ qX0_beforeMonth_16 rfl ?_
      refine g_tableAt hC dX0_beforeMonth_19 htb (by omega) (by omega) ?_
      refine gB hC _ _ _ _ _ _ _ qX0_beforeMonth_20 rfl ?_
      refine g_icmp_le hC 35 dX0_beforeMonth_22 rfl (by first | omega | exact bI_in _) (by first | omega | exact bI_in _) (fun c22 => ?_) (fun c22 => ?_)
      · refine gB hC _ _ _ _ _ _ _ qX0_beforeMonth_35 rfl ?_
        refine gB hC _ _ _ _ _ _ _ qX0_beforeMonth_36 rfl ?_
        refine g_ireturn hC dX0_beforeMonth_37 hr ⟨?_, rfl, rfl, by omega⟩ gs_rfl ⟨Nat.le_of_ble_eq_true rfl, Nat.le_of_ble_eq_true rfl⟩
        first | (exfalso; omega) | (rw [hbt, if_pos (by omega), hlp, if_pos (by omega)]; done) | (rw [hbt, if_pos (by omega), hlp, if_neg (by omega)]; done) | (rw [hbt, if_neg (by omega)]; done)
      · refine gB hC _ _ _ _ _ _ _ qX0_beforeMonth_25 rfl ?_
        refine g_irem hC dX0_beforeMonth_27 (by first | omega | exact bI_in _) (by first | omega | exact bI_in _) (by omega) (by omega) ?_
        refine g_if_ne hC 35 dX0_beforeMonth_28 rfl (by first | omega | exact bI_in _) (fun c28 => ?_) (fun c28 => ?_)
        · refine gB hC _ _ _ _ _ _ _ qX0_beforeMonth_35 rfl ?_
          refine gB hC _ _ _ _ _ _ _ qX0_beforeMonth_36 rfl ?_
          refine g_ireturn hC dX0_beforeMonth_37 hr ⟨?_, rfl, rfl, by omega⟩ gs_rfl ⟨Nat.le_of_ble_eq_true rfl, Nat.le_of_ble_eq_true rfl⟩
          first | (exfalso; omega) | (rw [hbt, if_pos (by omega), hlp, if_pos (by omega)]; done) | (rw [hbt, if_pos (by omega), hlp, if_neg (by omega)]; done) | (rw [hbt, if_neg (by omega)]; done)
        · refine gB hC _ _ _ _ _ _ _ qX0_beforeMonth_31 rfl ?_
          refine gB hC _ _ _ _ _ _ _ qX0_beforeMonth_36 rfl ?_
          refine g_ireturn hC dX0_beforeMonth_37 hr ⟨?_, rfl, rfl, by omega⟩ gs_rfl ⟨Nat.le_of_ble_eq_true rfl, Nat.le_of_ble_eq_true rfl⟩
          first | (exfalso; omega) | (rw [hbt, if_pos (by omega), hlp, if_pos (by omega)]; done) | (rw [hbt, if_pos (by omega), hlp, if_neg (by omega)]; done) | (rw [hbt, if_neg (by omega)]; done)
    · refine gB hC _ _ _ _ _ _ _ qX0_beforeMonth_11 rfl ?_
      refine g_ireturn hC dX0_beforeMonth_12 hr ⟨?_, rfl, rfl, by omega⟩ gs_rfl ⟨Nat.le_of_ble_eq_true rfl, Nat.le_of_ble_eq_true rfl⟩
      first | (exfalso; omega) | (rw [hbt, if_pos (by omega), hlp, if_pos (by omega)]; done) | (rw [hbt, if_pos (by omega), hlp, if_neg (by omega)]; done) | (rw [hbt, if_neg (by omega)]; done)

theorem kX0_inMonth {E l Sh V z} {y m0 : Int} (h0 : 0 ≤ y) (h1 : y ≤ 9999) (h2 : 1 ≤ m0) (h3 : m0 ≤ 12) : gM E l yX0_inMonth (.code yX0_inMonth cX0_inMonth 3 (some .int)) (rmk 1 0 0 25) [(0, y), (0, m0)] Sh V z (gRi (dIM y m0) Sh V) := by
  refine gM_at (L0 := [(0, y), (0, m0), (9, 0)]) rfl rfl rfl ?_
  intro p e s m args below meth c hC hr hex hnm hz
  have hbm := bM_in (y := y) h2 h3
  have hlp : lp y = if y % 4 = 0 then 1 else 0 := rfl
  have hb12 := bM_13 y
  refine gB hC _ _ _ _ _ _ _ qX0_inMonth_0 rfl ?_
  refine g_icmp_ne hC 24 dX0_inMonth_3 rfl (by first | omega | exact bI_in _) (by first | omega | exact bI_in _) (fun c3 => ?_) (fun c3 => ?_)
  · refine gB hC _ _ _ _ _ _ _ qX0_inMonth_24 rfl ?_
    refine g_cS1i hC dX0_inMonth_28 mX0_15 sX0_beforeMonth (kX0_beforeMonth (by omega) (by omega) (by omega) (by omega)) rfl rfl (Nat.le_of_ble_eq_true rfl) (RR rfl rfl rfl rfl) (fun z i28 => ?_)
    refine gB hC _ _ _ _ _ _ _ qX0_inMonth_31 rfl ?_
    refine g_cS1i hC dX0_inMonth_35 mX0_15 sX0_beforeMonth (kX0_beforeMonth (by omega) (by omega) (by omega) (by omega)) rfl rfl (Nat.le_of_ble_eq_true rfl) (RR rfl rfl rfl rfl) (fun z i35 => ?_)
    refine gB hC _ _ _ _ _ _ _ qX0_inMonth_38 rfl ?_
    refine g_ireturn hC dX0_inMonth_39 hr ⟨?_, rfl, rfl, by omega⟩ gs_rfl ⟨Nat.le_of_ble_eq_true rfl, Nat.le_of_ble_eq_true rfl⟩
    first | (congr 3; have := bM_next y m0 h2 (by omega); omega) | (congr 3; omega)
  · subst c3
    refine gB hC _ _ _ _ _ _ _ qX0_inMonth_6 rfl ?_
    refine g_irem hC dX0_inMonth_11 (by first | omega | exact bI_in _) (by first | omega | exact bI_in _) (by omega) (by omega) ?_
    refine g_if_ne hC 19 dX0_inMonth_12 rfl (by first | omega | exact bI_in _) (fun c12 => ?_) (fun c12 => ?_)
    · refine gB hC _ _ _ _ _ _ _ qX0_inMonth_19 rfl ?_
      refine gB hC _ _ _ _ _ _ _ qX0_inMonth_20 rfl ?_
      refine gB hC _ _ _ _ _ _ _ qX0_inMonth_31 rfl ?_
      refine g_cS1i hC dX0_inMonth_35 mX0_15 sX0_beforeMonth (kX0_beforeMonth (by omega) (by omega) (by omega) (by omega)) rfl rfl (Nat.le_of_ble_eq_true rfl) (RR rfl rfl rfl rfl) (fun z i35 => ?_)
      refine gB hC _ _ _ _ _ _ _ qX0_inMonth_38 rfl ?_
      refine g_ireturn hC dX0_inMonth_39 hr ⟨?_, rfl, rfl, by omega⟩ gs_rfl ⟨Nat.le_of_ble_eq_true rfl, Nat.le_of_ble_eq_true rfl⟩
      first | (congr 3; have := bM_next y m0 h2 (by omega); omega) | (congr 3; omega)
    · refine gB hC _ _ _ _ _ _ _ qX0_inMonth_15 rfl ?_
      refine gB hC _ _ _ _ _ _ _ qX0_inMonth_20 rfl ?_
      refine gB hC _ _ _ _ _ _ _ qX0_inMonth_31 rfl ?_
      refine g_cS1i hC dX0_inMonth_35 mX0_15 sX0_beforeMonth (kX0_beforeMonth (by omega) (by omega) (by omega) (by omega)) rfl rfl (Nat.le_of_ble_eq_true rfl) (RR rfl rfl rfl rfl) (fun z i35 => ?_)
      refine gB hC _ _ _ _ _ _ _ qX0_inMonth_38 rfl ?_
      refine g_ireturn hC dX0_inMonth_39 hr ⟨?_, rfl, rfl, by omega⟩ gs_rfl ⟨Nat.le_of_ble_eq_true rfl, Nat.le_of_ble_eq_true rfl⟩
      first | (congr 3; have := bM_next y m0 h2 (by omega); omega) | (congr 3; omega)

theorem kX0_weekdayOf {E l Sh V z} {d : Int} (h0 : 0 ≤ d) (h1 : d ≤ 40000) : gM E l yX0_weekdayOf (.code yX0_weekdayOf cX0_weekdayOf 1 (some .int)) (rmk 0 0 0 0) [(0, d)] Sh V z (gRi (wdZ d) Sh V) := by
  refine gM_at (L0 := [(0, d)]) rfl rfl rfl ?_
  intro p e s m args below meth c hC hr hex hnm hz
  refine gB hC _ _ _ _ _ _ _ qX0_weekdayOf_0 rfl ?_
  refine g_irem hC dX0_weekdayOf_5 (by first | omega | exact bI_in _) (by first | omega | exact bI_in _) (by omega) (by omega) ?_
  refine gB hC _ _ _ _ _ _ _ qX0_weekdayOf_6 rfl ?_
  refine g_ireturn hC dX0_weekdayOf_8 hr ⟨rfl, rfl, rfl, ?_⟩ gs_rfl ⟨Nat.le_of_ble_eq_true rfl, Nat.le_of_ble_eq_true rfl⟩
  unfold wdZ; omega

theorem kX0_of_pos {E l Sh V z} {d : Int} (h1 : inI d) (h0 : 0 ≤ d) : gM E l yX0_of (.code yX0_of cX0_of 5 (some .int)) (rmk 2 0 0 60) [(0, d)] Sh V z (gRi (dayZ d) Sh V) := by
  refine gM_at (L0 := [(0, d), (9, 0), (9, 0), (9, 0), (9, 0)]) rfl rfl rfl ?_
  intro p e s m args below meth c hC hr hex hnm hz
  refine gB hC _ _ _ _ _ _ _ qX0_of_0 rfl ?_
  refine g_idiv hC dX0_of_4 (by first | omega | exact bI_in _) (by first | omega | exact bI_in _) (by omega) (by omega) ?_
  refine gB hC _ _ _ _ _ _ _ qX0_of_5 rfl ?_
  refine g_idiv hC dX0_of_9 (by first | omega | exact bI_in _) (by first | omega | exact bI_in _) (by omega) (by omega) ?_
  refine gB hC _ _ _ _ _ _ _ qX0_of_10 rfl ?_
  refine g_irem hC dX0_of_12 (by first | omega | exact bI_in _) (by first | omega | exact bI_in _) (by omega) (by omega) ?_
  refine gB hC _ _ _ _ _ _ _ qX0_of_13 rfl ?_
  refine g_irem hC dX0_of_17 (by first | omega | exact bI_in _) (by first | omega | exact bI_in _) (by omega) (by omega) ?_
  refine gB hC _ _ _ _ _ _ _ qX0_of_18 rfl ?_
  refine g_icmp_lt hC 58 dX0_of_23 rfl (by first | omega | exact bI_in _) (by first | omega | exact bI_in _) (fun c23 => ?_) (fun c23 => ?_)
  · refine gB hC _ _ _ _ _ _ _ qX0_of_58 rfl ?_
    refine g_ireturn hC dX0_of_59 hr ⟨?_, rfl, rfl, by have := dayZ_in d; omega⟩ gs_rfl ⟨Nat.le_of_ble_eq_true rfl, Nat.le_of_ble_eq_true rfl⟩
    unfold dayZ; rw [if_neg (by omega)]
  · refine gB hC _ _ _ _ _ _ _ qX0_of_26 rfl ?_
    refine g_icmp_gt hC 58 dX0_of_30 rfl (by first | omega | exact bI_in _) (by first | omega | exact bI_in _) (fun c30 => ?_) (fun c30 => ?_)
    · refine gB hC _ _ _ _ _ _ _ qX0_of_58 rfl ?_
      refine g_ireturn hC dX0_of_59 hr ⟨?_, rfl, rfl, by have := dayZ_in d; omega⟩ gs_rfl ⟨Nat.le_of_ble_eq_true rfl, Nat.le_of_ble_eq_true rfl⟩
      unfold dayZ; rw [if_neg (by omega)]
    · refine gB hC _ _ _ _ _ _ _ qX0_of_33 rfl ?_
      refine g_icmp_lt hC 58 dX0_of_35 rfl (by first | omega | exact bI_in _) (by first | omega | exact bI_in _) (fun c35 => ?_) (fun c35 => ?_)
      · refine gB hC _ _ _ _ _ _ _ qX0_of_58 rfl ?_
        refine g_ireturn hC dX0_of_59 hr ⟨?_, rfl, rfl, by have := dayZ_in d; omega⟩ gs_rfl ⟨Nat.le_of_ble_eq_true rfl, Nat.le_of_ble_eq_true rfl⟩
        unfold dayZ; rw [if_neg (by omega)]
      · refine gB hC _ _ _ _ _ _ _ qX0_of_38 rfl ?_
        refine g_icmp_gt hC 58 dX0_of_41 rfl (by first | omega | exact bI_in _) (by first | omega | exact bI_in _) (fun c41 => ?_) (fun c41 => ?_)
        · refine gB hC _ _ _ _ _ _ _ qX0_of_58 rfl ?_
          refine g_ireturn hC dX0_of_59 hr ⟨?_, rfl, rfl, by have := dayZ_in d; omega⟩ gs_rfl ⟨Nat.le_of_ble_eq_true rfl, Nat.le_of_ble_eq_true rfl⟩
          unfold dayZ; rw [if_neg (by omega)]
        · refine gB hC _ _ _ _ _ _ _ qX0_of_44 rfl ?_
          refine g_icmp_lt hC 58 dX0_of_46 rfl (by first | omega | exact bI_in _) (by first | omega | exact bI_in _) (fun c46 => ?_) (fun c46 => ?_)
          · refine gB hC _ _ _ _ _ _ _ qX0_of_58 rfl ?_
            refine g_ireturn hC dX0_of_59 hr ⟨?_, rfl, rfl, by have := dayZ_in d; omega⟩ gs_rfl ⟨Nat.le_of_ble_eq_true rfl, Nat.le_of_ble_eq_true rfl⟩
            unfold dayZ; rw [if_neg (by omega)]
          · refine gB hC _ _ _ _ _ _ _ qX0_of_49 rfl ?_
            refine g_cS1i hC dX0_of_52 mX0_9 sX0_inMonth (kX0_inMonth (by omega) (by omega) (by omega) (by omega)) rfl rfl (Nat.le_of_ble_eq_true rfl) (RR rfl rfl rfl rfl) (fun z i52 => ?_)
            refine g_icmp_le hC 60 dX0_of_55 rfl (by first | omega | exact bI_in _) (by first | omega | exact bI_in _) (fun c55 => ?_) (fun c55 => ?_)
            · refine gB hC _ _ _ _ _ _ _ qX0_of_60 rfl ?_
              refine g_idiv hC dX0_of_78 (by first | omega | exact bI_in _) (by first | omega | exact bI_in _) (by omega) (by omega) ?_
              refine gB hC _ _ _ _ _ _ _ qX0_of_79 rfl ?_
              refine g_cS1i hC dX0_of_82 mX0_15 sX0_beforeMonth (kX0_beforeMonth (by omega) (by omega) (by omega) (by omega)) rfl rfl (Nat.le_of_ble_eq_true rfl) (RR rfl rfl rfl rfl) (fun z i82 => ?_)
              have hbm := bM_in (y := d / 10000) (m := d / 100 % 100) (by omega) (by omega)
              have hyb := yB_in (y := d / 10000) (by omega) (by omega)
              have hyd : yB (d / 10000) = (d / 10000 - 2000) * 365 + (d / 10000 - 2000 + 3) / 4 := rfl
              refine gB hC _ _ _ _ _ _ _ qX0_of_85 rfl ?_
              refine g_ireturn hC dX0_of_90 hr ⟨?_, rfl, rfl, by have := dayZ_in d; omega⟩ gs_rfl ⟨Nat.le_of_ble_eq_true rfl, Nat.le_of_ble_eq_true rfl⟩
              unfold dayZ; rw [if_pos ⟨by omega, by omega, by omega, by omega, by omega, by omega, by omega⟩]; congr 3
            · refine gB hC _ _ _ _ _ _ _ qX0_of_58 rfl ?_
              refine g_ireturn hC dX0_of_59 hr ⟨?_, rfl, rfl, by have := dayZ_in d; omega⟩ gs_rfl ⟨Nat.le_of_ble_eq_true rfl, Nat.le_of_ble_eq_true rfl⟩
              unfold dayZ; rw [if_neg (by omega)]

theorem kX0_of_neg {E l Sh V z} {d : Int} (h1 : inI d) (h0 : d < 0) : gM E l yX0_of (.code yX0_of cX0_of 5 (some .int)) (rmk 2 0 0 60) [(0, d)] Sh V z (gRi (dayZ d) Sh V) := by
  refine gM_at (L0 := [(0, d), (9, 0), (9, 0), (9, 0), (9, 0)]) rfl rfl rfl ?_
  intro p e s m args below meth c hC hr hex hnm hz
  have htd := Int.neg_tdiv (-d) 10000
  rw [Int.neg_neg, Int.tdiv_eq_ediv_of_nonneg (a := -d) (by omega)] at htd
  refine gB hC _ _ _ _ _ _ _ qX0_of_0 rfl ?_
  refine g_idivT hC dX0_of_4 (by omega) (by omega) (by omega) (Or.inr (by omega)) ?_
  refine gB hC _ _ _ _ _ _ _ qX0_of_5 rfl ?_
  refine g_idivT hC dX0_of_9 (by omega) (by omega) (by omega) (Or.inr (by omega)) ?_
  refine gB hC _ _ _ _ _ _ _ qX0_of_10 rfl ?_
  refine g_iremT hC dX0_of_12 (iI_tdiv (by omega) (by omega) (Or.inr (by omega))) (by omega) (by omega) (Or.inr (by omega)) ?_
  refine gB hC _ _ _ _ _ _ _ qX0_of_13 rfl ?_
  refine g_iremT hC dX0_of_17 (by omega) (by omega) (by omega) (Or.inr (by omega)) ?_
  refine gB hC _ _ _ _ _ _ _ qX0_of_18 rfl ?_
  refine g_icmp_lt hC 58 dX0_of_23 rfl (by first | omega | exact bI_in _) (by first | omega | exact bI_in _) (fun c23 => ?_) (fun c23 => ?_)
  · refine gB hC _ _ _ _ _ _ _ qX0_of_58 rfl ?_
    refine g_ireturn hC dX0_of_59 hr ⟨?_, rfl, rfl, by have := dayZ_in d; omega⟩ gs_rfl ⟨Nat.le_of_ble_eq_true rfl, Nat.le_of_ble_eq_true rfl⟩
    unfold dayZ; rw [if_neg (by omega)]
  · exfalso; omega --stop

theorem kX0_of {E l Sh V z} {d : Int} (h1 : inI d) : gM E l yX0_of (.code yX0_of cX0_of 5 (some .int)) (rmk 2 0 0 60) [(0, d)] Sh V z (gRi (dayZ d) Sh V) := by
  by_cases h : d < 0
  · exact kX0_of_neg h1 h
  · exact kX0_of_pos h1 (by omega)

theorem kX0_isDayOfYear {E l Sh V z} {d : Int} (h1 : inI d) : gM E l yX0_isDayOfYear (.code yX0_isDayOfYear cX0_isDayOfYear 1 (some .boolean)) (rmk 3 0 0 85) [(0, d)] Sh V z (gR (some (0, bI (0 < d ∧ d < 10000 ∧ dayZ (20000000 + d) ≠ -1))) Sh V) := by
  refine gM_at (L0 := [(0, d)]) rfl rfl rfl ?_
  intro p e s m args below meth c hC hr hex hnm hz
  have hdy := @doy_in d
  refine gB hC _ _ _ _ _ _ _ qX0_isDayOfYear_0 rfl ?_
  refine g_icmp_gt hC 28 dX0_isDayOfYear_3 rfl (by first | omega | exact bI_in _) (by first | omega | exact bI_in _) (fun c3 => ?_) (fun c3 => ?_)
  · refine gB hC _ _ _ _ _ _ _ qX0_isDayOfYear_28 rfl ?_
    refine g_zreturn hC dX0_isDayOfYear_29 hr ?_ ⟨?_, rfl, rfl⟩ gs_rfl ⟨Nat.le_of_ble_eq_true rfl, Nat.le_of_ble_eq_true rfl⟩
    · first | exact Or.inl rfl | exact Or.inr rfl | exact bI_01 _
    first | (rw [bI_t (by omega)]; done) | (rw [bI_f (fun q => by have := hdy q; omega)]; done)
  · refine gB hC _ _ _ _ _ _ _ qX0_isDayOfYear_6 rfl ?_
    refine g_icmp_gt hC 28 dX0_isDayOfYear_10 rfl (by first | omega | exact bI_in _) (by first | omega | exact bI_in _) (fun c10 => ?_) (fun c10 => ?_)
    · refine gB hC _ _ _ _ _ _ _ qX0_isDayOfYear_28 rfl ?_
      refine g_zreturn hC dX0_isDayOfYear_29 hr ?_ ⟨?_, rfl, rfl⟩ gs_rfl ⟨Nat.le_of_ble_eq_true rfl, Nat.le_of_ble_eq_true rfl⟩
      · first | exact Or.inl rfl | exact Or.inr rfl | exact bI_01 _
      first | (rw [bI_t (by omega)]; done) | (rw [bI_f (fun q => by have := hdy q; omega)]; done)
    · refine g_ldc hC 20000000 kX0_22 rfl dX0_isDayOfYear_13 ?_
      refine gB hC _ _ _ _ _ _ _ qX0_isDayOfYear_15 rfl ?_
      refine g_cS1i hC dX0_isDayOfYear_17 mX0_23 sX0_of (kX0_of (by omega)) rfl rfl (Nat.le_of_ble_eq_true rfl) (RR rfl rfl rfl rfl) (fun z i17 => ?_)
      refine gB hC _ _ _ _ _ _ _ qX0_isDayOfYear_20 rfl ?_
      refine g_icmp_eq hC 28 dX0_isDayOfYear_21 rfl (by first | omega | exact bI_in _) (by first | omega | exact bI_in _) (fun c21 => ?_) (fun c21 => ?_)
      · refine gB hC _ _ _ _ _ _ _ qX0_isDayOfYear_28 rfl ?_
        refine g_zreturn hC dX0_isDayOfYear_29 hr ?_ ⟨?_, rfl, rfl⟩ gs_rfl ⟨Nat.le_of_ble_eq_true rfl, Nat.le_of_ble_eq_true rfl⟩
        · first | exact Or.inl rfl | exact Or.inr rfl | exact bI_01 _
        first | (rw [bI_t (by omega)]; done) | (rw [bI_f (fun q => by have := hdy q; omega)]; done)
      · refine gB hC _ _ _ _ _ _ _ qX0_isDayOfYear_24 rfl ?_
        refine g_zreturn hC dX0_isDayOfYear_29 hr ?_ ⟨?_, rfl, rfl⟩ gs_rfl ⟨Nat.le_of_ble_eq_true rfl, Nat.le_of_ble_eq_true rfl⟩
        · first | exact Or.inl rfl | exact Or.inr rfl | exact bI_01 _
        first | (rw [bI_t (by omega)]; done) | (rw [bI_f (fun q => by have := hdy q; omega)]; done)

theorem kX0_dateOf {E l Sh V z} {d : Int} (h0 : 0 ≤ d) (h1 : d ≤ 36524) : gM E l yX0_dateOf (.code yX0_dateOf cX0_dateOf 5 (some .int)) (rmk 1 0 0 30) [(0, d)] Sh V z (gRi (dateZ d) Sh V) := by
  refine gM_at (L0 := [(0, d), (9, 0), (9, 0), (9, 0), (9, 0)]) rfl rfl rfl ?_
  intro p e s m args below meth c hC hr hex hnm hz
  have hdz := dateZ_in h0 h1
  have hyi := yr_in h0
  have hyr : yr d = 2000 + d * 4 / 1461 := rfl
  have hyb : yB (yr d) = (yr d - 2000) * 365 + (yr d - 2000 + 3) / 4 := rfl
  have hyn := yB_next (yr d) hyi.2.2
  have hl01 := lp_01 (yr d)
  refine gB hC _ _ _ _ _ _ _ qX0_dateOf_0 rfl ?_
  refine g_idiv hC dX0_dateOf_6 (by first | omega | exact bI_in _) (by first | omega | exact bI_in _) (by omega) (by omega) ?_
  refine gB hC _ _ _ _ _ _ _ qX0_dateOf_7 rfl ?_
  refine g_idiv hC dX0_dateOf_25 (by first | omega | exact bI_in _) (by first | omega | exact bI_in _) (by omega) (by omega) ?_
  refine gB hC _ _ _ _ _ _ _ qX0_dateOf_26 rfl ?_
  rw [show d - d * 4 / 1461 * 365 - (d * 4 / 1461 + 3) / 4 = d - yB (yr d) by omega, ← hyr]
  refine g_loop (fun x : Int => 1 ≤ x ∧ x ≤ 12 ∧ (x = 12 ∨ d - yB (yr d) < bM (yr d) (x + 1))) (fun x => x.toNat) 32 (fun x => [(0, d), (0, d * 4 / 1461), (0, yr d), (0, d - yB (yr d)), (0, x)]) (fun _ => V) 12 ⟨by decide, by decide, Or.inl rfl⟩ ?_
  rintro m0 z ⟨hm1, hm2, hm3⟩ ih
  have hbm := bM_in (y := yr d) hm1 hm2
  refine gB hC _ _ _ _ _ _ _ qX0_dateOf_32 rfl ?_
  refine g_icmp_le hC 54 dX0_dateOf_35 rfl (by first | omega | exact bI_in _) (by first | omega | exact bI_in _) (fun c35 => ?_) (fun c35 => ?_)
  · have hbm9 := bM_in (y := yr d) (m := m0) (by omega) (by omega)
    refine gB hC _ _ _ _ _ _ _ qX0_dateOf_54 rfl ?_
    refine g_cS1i hC dX0_dateOf_70 mX0_15 sX0_beforeMonth (kX0_beforeMonth (by omega) (by omega) (by omega) (by omega)) rfl rfl (Nat.le_of_ble_eq_true rfl) (RR rfl rfl rfl rfl) (fun z i70 => ?_)
    refine gB hC _ _ _ _ _ _ _ qX0_dateOf_73 rfl ?_
    refine g_ireturn hC dX0_dateOf_76 hr ⟨?_, rfl, rfl, by omega⟩ gs_rfl ⟨Nat.le_of_ble_eq_true rfl, Nat.le_of_ble_eq_true rfl⟩
    have hlb : bM (yr d) m0 ≤ d - yB (yr d) := by
      by_cases hm0 : m0 = 1
      · rw [hm0, bM_1]; omega
      · omega
    have hmz : mZ (yr d) (d - yB (yr d)) = m0 := mZ_of hm1 hm2 hlb hm3
    unfold dateZ
    rw [hmz]
    congr 3
    omega
  · refine gB hC _ _ _ _ _ _ _ qX0_dateOf_38 rfl ?_
    refine g_cS1i hC dX0_dateOf_41 mX0_15 sX0_beforeMonth (kX0_beforeMonth (by omega) (by omega) (by omega) (by omega)) rfl rfl (Nat.le_of_ble_eq_true rfl) (RR rfl rfl rfl rfl) (fun z i41 => ?_)
    refine gB hC _ _ _ _ _ _ _ qX0_dateOf_44 rfl ?_
    refine g_icmp_le hC 54 dX0_dateOf_45 rfl (by first | omega | exact bI_in _) (by first | omega | exact bI_in _) (fun c45 => ?_) (fun c45 => ?_)
    · have hbm9 := bM_in (y := yr d) (m := m0) (by omega) (by omega)
      refine gB hC _ _ _ _ _ _ _ qX0_dateOf_54 rfl ?_
      refine g_cS1i hC dX0_dateOf_70 mX0_15 sX0_beforeMonth (kX0_beforeMonth (by omega) (by omega) (by omega) (by omega)) rfl rfl (Nat.le_of_ble_eq_true rfl) (RR rfl rfl rfl rfl) (fun z i70 => ?_)
      refine gB hC _ _ _ _ _ _ _ qX0_dateOf_73 rfl ?_
      refine g_ireturn hC dX0_dateOf_76 hr ⟨?_, rfl, rfl, by omega⟩ gs_rfl ⟨Nat.le_of_ble_eq_true rfl, Nat.le_of_ble_eq_true rfl⟩
      have hlb : bM (yr d) m0 ≤ d - yB (yr d) := by
        by_cases hm0 : m0 = 1
        · rw [hm0, bM_1]; omega
        · omega
      have hmz : mZ (yr d) (d - yB (yr d)) = m0 := mZ_of hm1 hm2 hlb hm3
      unfold dateZ
      rw [hmz]
      congr 3
      omega
    · refine gB hC _ _ _ _ _ _ _ qX0_dateOf_48 rfl ?_
      exact ih (m0 - 1) z ⟨by omega, by omega, Or.inr (by rw [show m0 - 1 + 1 = m0 by omega]; omega)⟩ (by omega)

