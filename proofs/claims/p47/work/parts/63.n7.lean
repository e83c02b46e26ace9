/-! the class: what a hotel tells (rows laid by wip/whole/n63.py) -/
theorem kX2_isLastNightInReach {E l Sh V z} {h9 d9 : Int} {N : gN0} (hm : RH h9 N Sh V) (h0 : 0 ≤ N 0) (h1 : N 0 ≤ 36524) (h2 : inI d9) : gM E l yX2_isLastNightInReach (.code yX2_isLastNightInReach cX2_isLastNightInReach 2 (some .boolean)) (rmk 0 0 0 0) [(2, h9), (0, d9)] Sh V z (gR (some (0, bI (d9 ≤ N 0 + 365 ∧ d9 < 36525))) Sh V) := by
  refine gM_at (L0 := [(2, h9), (0, d9)]) rfl rfl rfl ?_
  intro p e s m args below meth c hC hr hex hnm hz
  refine gB hC _ _ _ _ _ _ _ qX2_isLastNightInReach_0 rfl ?_
  refine g_getiv hC dX2_isLastNightInReach_2 fX2_11 hm.1.sH (by decide) rfl 0 rfl hm.t0 (fun i2 => ?_)
  refine gB hC _ _ _ _ _ _ _ qX2_isLastNightInReach_5 rfl ?_
  refine g_icmp_gt hC 22 dX2_isLastNightInReach_9 rfl (by first | omega | exact cmpZ_in _ _ | exact bI_in _) (by first | omega | exact cmpZ_in _ _ | exact bI_in _) (fun c9 => ?_) (fun c9 => ?_)
  · refine gB hC _ _ _ _ _ _ _ qX2_isLastNightInReach_22 rfl ?_
    refine g_zreturn hC dX2_isLastNightInReach_23 hr ?_ ⟨?_, rfl, rfl⟩ gs_rfl ⟨Nat.le_of_ble_eq_true rfl, Nat.le_of_ble_eq_true rfl⟩
    · first | exact Or.inl rfl | exact Or.inr rfl | exact bI_01 _
    first | (rw [bI_f (by omega)]; done) | (rw [bI_t (by omega)]; done)
  · refine gB hC _ _ _ _ _ _ _ qX2_isLastNightInReach_12 rfl ?_
    refine g_ldc hC 36525 kX2_118 rfl dX2_isLastNightInReach_13 ?_
    refine g_icmp_ge hC 22 dX2_isLastNightInReach_15 rfl (by first | omega | exact cmpZ_in _ _ | exact bI_in _) (by first | omega | exact cmpZ_in _ _ | exact bI_in _) (fun c15 => ?_) (fun c15 => ?_)
    · refine gB hC _ _ _ _ _ _ _ qX2_isLastNightInReach_22 rfl ?_
      refine g_zreturn hC dX2_isLastNightInReach_23 hr ?_ ⟨?_, rfl, rfl⟩ gs_rfl ⟨Nat.le_of_ble_eq_true rfl, Nat.le_of_ble_eq_true rfl⟩
      · first | exact Or.inl rfl | exact Or.inr rfl | exact bI_01 _
      first | (rw [bI_f (by omega)]; done) | (rw [bI_t (by omega)]; done)
    · refine gB hC _ _ _ _ _ _ _ qX2_isLastNightInReach_18 rfl ?_
      refine g_zreturn hC dX2_isLastNightInReach_23 hr ?_ ⟨?_, rfl, rfl⟩ gs_rfl ⟨Nat.le_of_ble_eq_true rfl, Nat.le_of_ble_eq_true rfl⟩
      · first | exact Or.inl rfl | exact Or.inr rfl | exact bI_01 _
      first | (rw [bI_f (by omega)]; done) | (rw [bI_t (by omega)]; done)

theorem kX2_nightPrice {E l Sh V z} {h9 k9 d9 : Int} {N : gN0} (hm : RH h9 N Sh V) (hI : InvC N) (h0 : 0 ≤ k9) (h1 : k9 < N 1) (h2 : 0 ≤ d9) (h3 : d9 ≤ 36524) : gM E l yX2_nightPrice (.code yX2_nightPrice cX2_nightPrice 6 (some .int)) (rmk 2 0 0 70) [(2, h9), (0, k9), (0, d9)] Sh V z (gRi (nPr N k9 d9) Sh V) := by
  refine gM_at (L0 := [(2, h9), (0, k9), (0, d9), (9, 0), (9, 0), (9, 0)]) rfl rfl rfl ?_
  intro p e s m args below meth c hC hr hex hnm hz
  have hsc := hI.1
  unfold iScal at hsc
  have hk := hI.2.1 k9 h0 h1
  unfold kOk at hk
  have hcn := cnt_in hI k9 d9
  have hdv := div_in (a := 4 * cnt N k9 d9) (b := kF N k9 0) (A := 240) (by omega) (by omega) (by omega)
  have hnp := nPr_in hI h0 h1 d9
  have hdz := dateZ_in h2 h3
  refine gB hC _ _ _ _ _ _ _ qX2_nightPrice_0 rfl ?_
  refine g_getr hC dX2_nightPrice_3 fX2_22 hm.1.sH (by decide) rfl 8 rfl hm.2.1.p8 ?_
  refine gB hC _ _ _ _ _ _ _ qX2_nightPrice_6 rfl ?_
  refine g_aald hC (j := 4) dX2_nightPrice_7 hm.1.sK (by decide) (hm.2.1.pk (by omega) (by omega)) (by omega) (by omega) (by decide) ?_
  refine gB hC _ _ _ _ _ _ _ qX2_nightPrice_8 rfl ?_
  refine g_getr hC dX2_nightPrice_9 fX2_41 hm.1.sH (by decide) rfl 11 rfl hm.2.1.p11 ?_
  refine gB hC _ _ _ _ _ _ _ qX2_nightPrice_12 rfl ?_
  refine g_cV1i hC dX2_nightPrice_14 mX2_119 vX9_countOn (kX9_countOn hm hI (by omega) (by omega)) rfl hm.1.sT (by decide) rfl (Nat.le_of_ble_eq_true rfl) (RR rfl rfl rfl rfl) (fun z i14 => ?_)
  refine g_cV1i hC dX2_nightPrice_17 mX2_123 vX3_percentageFor (kX3_percentageFor (hm.1.sk (by omega) (by omega)) (hm.k0 (by omega) (by omega)) (by omega) (by omega) (by omega) (by omega)) rfl (hm.1.sk (by omega) (by omega)) (by decide) rfl (Nat.le_of_ble_eq_true rfl) (RR rfl rfl rfl rfl) (fun z i17 => ?_)
  refine gB hC _ _ _ _ _ _ _ qX2_nightPrice_20 rfl ?_
  refine g_cS1i hC dX2_nightPrice_23 mX2_127 sX0_dateOf (kX0_dateOf (by omega) (by omega)) rfl rfl (Nat.le_of_ble_eq_true rfl) (RR rfl rfl rfl rfl) (fun z i23 => ?_)
  refine gB hC _ _ _ _ _ _ _ qX2_nightPrice_26 rfl ?_
  refine g_irem hC dX2_nightPrice_29 (by first | omega | exact cmpZ_in _ _ | exact bI_in _) (by first | omega | exact cmpZ_in _ _ | exact bI_in _) (by omega) (by omega) ?_
  refine gB hC _ _ _ _ _ _ _ qX2_nightPrice_30 rfl ?_
  refine g_loop (fun x : Int × Nat => x.1 = pctT N (dateZ d9 % 10000) (100 + 10 * (4 * cnt N k9 d9 / kF N k9 0)) x.2 ∧ (x.2 : Int) ≤ N 2) (fun x => (N 2 - x.2).toNat) 35 (fun x => [(2, h9), (0, k9), (0, d9), (0, x.1), (0, dateZ d9 % 10000), (0, (x.2 : Int))]) (fun _ => V) (_, 0) ⟨rfl, by show (0 : Int) ≤ N 2; omega⟩ ?_
  rintro ⟨pc9, t⟩ z ⟨hl, ht⟩ ih
  dsimp only at hl ht ih ⊢
  have hli := pctT_in hI.2.2.1 (dateZ d9 % 10000) (100 + 10 * (4 * cnt N k9 d9 / kF N k9 0)) t ht
  refine gB hC _ _ _ _ _ _ _ qX2_nightPrice_35 rfl ?_
  refine g_getiv hC dX2_nightPrice_38 fX2_71 hm.1.sH (by decide) rfl 3 rfl hm.t3 (fun i38 => ?_)
  refine g_icmp_ge hC 78 dX2_nightPrice_41 rfl (by first | omega | exact cmpZ_in _ _ | exact bI_in _) (by first | omega | exact cmpZ_in _ _ | exact bI_in _) (fun c41 => ?_) (fun c41 => ?_)
  · have hte : t = (N 2).toNat := by omega
    have hpi := pct_in hI h0 h1 d9
    have hpc : pct N k9 d9 = pc9 + (if wdZ d9 = 5 ∨ wdZ d9 = 6 then N 3 else 0) := by unfold pct; rw [hl, hte]
    refine gB hC _ _ _ _ _ _ _ qX2_nightPrice_78 rfl ?_
    refine g_cS1i hC dX2_nightPrice_79 mX2_137 sX0_weekdayOf (kX0_weekdayOf (by omega) (by omega)) rfl rfl (Nat.le_of_ble_eq_true rfl) (RR rfl rfl rfl rfl) (fun z i79 => ?_)
    refine gB hC _ _ _ _ _ _ _ qX2_nightPrice_82 rfl ?_
    refine g_icmp_eq hC 97 dX2_nightPrice_87 rfl (by first | omega | exact cmpZ_in _ _ | exact bI_in _) (by first | omega | exact cmpZ_in _ _ | exact bI_in _) (fun c87 => ?_) (fun c87 => ?_)
    · rw [if_pos (Or.inl c87)] at hpc
      refine gB hC _ _ _ _ _ _ _ qX2_nightPrice_97 rfl ?_
      refine g_getiv hC dX2_nightPrice_99 fX2_80 hm.1.sH (by decide) rfl 6 rfl hm.t6 (fun i99 => ?_)
      refine gB hC _ _ _ _ _ _ _ qX2_nightPrice_102 rfl ?_
      rw [← hpc]
      have hml := mul_in (a := kF N k9 1) (b := max 0 (pct N k9 d9)) (A := 100000) (B := 3100) (by omega) (by omega) (by omega) (by omega)
      refine gB hC _ _ _ _ _ _ _ qX2_nightPrice_104 rfl ?_
      refine g_getr hC dX2_nightPrice_105 fX2_22 hm.1.sH (by decide) rfl 8 rfl hm.2.1.p8 ?_
      refine gB hC _ _ _ _ _ _ _ qX2_nightPrice_108 rfl ?_
      refine g_aald hC (j := 4) dX2_nightPrice_109 hm.1.sK (by decide) (hm.2.1.pk (by omega) (by omega)) (by omega) (by omega) (by decide) ?_
      refine g_getiv hC dX2_nightPrice_110 fX2_140 (hm.1.sk (by omega) (by omega)) (by decide) rfl 1 rfl (hm.k1 (by omega) (by omega)) (fun i110 => ?_)
      refine gB hC _ _ _ _ _ _ _ qX2_nightPrice_113 rfl ?_
      refine g_max hC dX2_nightPrice_115 mX2_143 (by first | omega | exact cmpZ_in _ _ | exact bI_in _) (by first | omega | exact cmpZ_in _ _ | exact bI_in _) ⟨Nat.le_of_ble_eq_true rfl, Nat.le_of_ble_eq_true rfl, Nat.le_of_ble_eq_true rfl, Nat.le_of_ble_eq_true rfl⟩ ?_
      refine g_cSN1i (host := "HotelNights") hC dX2_nightPrice_118 (by decide) sX11_percentOf (kX11_percentOf (by omega) (by omega) (by omega) (by omega) (by omega)) rfl rfl (Nat.le_of_ble_eq_true rfl) (RR rfl rfl rfl rfl) (fun z i118 => ?_)
      refine g_ireturn hC dX2_nightPrice_121 hr ⟨?_, rfl, rfl, by omega⟩ gs_rfl ⟨Nat.le_of_ble_eq_true rfl, Nat.le_of_ble_eq_true rfl⟩
      unfold nPr
      by_cases hpn : pct N k9 d9 < 0
      · rw [if_pos hpn, show max 0 (pct N k9 d9) = 0 by omega, Int.mul_zero]; rfl
      · rw [if_neg hpn, show max 0 (pct N k9 d9) = pct N k9 d9 by omega]
    · refine gB hC _ _ _ _ _ _ _ qX2_nightPrice_90 rfl ?_
      refine g_icmp_ne hC 104 dX2_nightPrice_94 rfl (by first | omega | exact cmpZ_in _ _ | exact bI_in _) (by first | omega | exact cmpZ_in _ _ | exact bI_in _) (fun c94 => ?_) (fun c94 => ?_)
      · rw [if_neg (by omega), Int.add_zero] at hpc
        rw [← hpc]
        have hml := mul_in (a := kF N k9 1) (b := max 0 (pct N k9 d9)) (A := 100000) (B := 3100) (by omega) (by omega) (by omega) (by omega)
        refine gB hC _ _ _ _ _ _ _ qX2_nightPrice_104 rfl ?_
        refine g_getr hC dX2_nightPrice_105 fX2_22 hm.1.sH (by decide) rfl 8 rfl hm.2.1.p8 ?_
        refine gB hC _ _ _ _ _ _ _ qX2_nightPrice_108 rfl ?_
        refine g_aald hC (j := 4) dX2_nightPrice_109 hm.1.sK (by decide) (hm.2.1.pk (by omega) (by omega)) (by omega) (by omega) (by decide) ?_
        refine g_getiv hC dX2_nightPrice_110 fX2_140 (hm.1.sk (by omega) (by omega)) (by decide) rfl 1 rfl (hm.k1 (by omega) (by omega)) (fun i110 => ?_)
        refine gB hC _ _ _ _ _ _ _ qX2_nightPrice_113 rfl ?_
        refine g_max hC dX2_nightPrice_115 mX2_143 (by first | omega | exact cmpZ_in _ _ | exact bI_in _) (by first | omega | exact cmpZ_in _ _ | exact bI_in _) ⟨Nat.le_of_ble_eq_true rfl, Nat.le_of_ble_eq_true rfl, Nat.le_of_ble_eq_true rfl, Nat.le_of_ble_eq_true rfl⟩ ?_
        refine g_cSN1i (host := "HotelNights") hC dX2_nightPrice_118 (by decide) sX11_percentOf (kX11_percentOf (by omega) (by omega) (by omega) (by omega) (by omega)) rfl rfl (Nat.le_of_ble_eq_true rfl) (RR rfl rfl rfl rfl) (fun z i118 => ?_)
        refine g_ireturn hC dX2_nightPrice_121 hr ⟨?_, rfl, rfl, by omega⟩ gs_rfl ⟨Nat.le_of_ble_eq_true rfl, Nat.le_of_ble_eq_true rfl⟩
        unfold nPr
        by_cases hpn : pct N k9 d9 < 0
        · rw [if_pos hpn, show max 0 (pct N k9 d9) = 0 by omega, Int.mul_zero]; rfl
        · rw [if_neg hpn, show max 0 (pct N k9 d9) = pct N k9 d9 by omega]
      · rw [if_pos (Or.inr (by omega))] at hpc
        refine gB hC _ _ _ _ _ _ _ qX2_nightPrice_97 rfl ?_
        refine g_getiv hC dX2_nightPrice_99 fX2_80 hm.1.sH (by decide) rfl 6 rfl hm.t6 (fun i99 => ?_)
        refine gB hC _ _ _ _ _ _ _ qX2_nightPrice_102 rfl ?_
        rw [← hpc]
        have hml := mul_in (a := kF N k9 1) (b := max 0 (pct N k9 d9)) (A := 100000) (B := 3100) (by omega) (by omega) (by omega) (by omega)
        refine gB hC _ _ _ _ _ _ _ qX2_nightPrice_104 rfl ?_
        refine g_getr hC dX2_nightPrice_105 fX2_22 hm.1.sH (by decide) rfl 8 rfl hm.2.1.p8 ?_
        refine gB hC _ _ _ _ _ _ _ qX2_nightPrice_108 rfl ?_
        refine g_aald hC (j := 4) dX2_nightPrice_109 hm.1.sK (by decide) (hm.2.1.pk (by omega) (by omega)) (by omega) (by omega) (by decide) ?_
        refine g_getiv hC dX2_nightPrice_110 fX2_140 (hm.1.sk (by omega) (by omega)) (by decide) rfl 1 rfl (hm.k1 (by omega) (by omega)) (fun i110 => ?_)
        refine gB hC _ _ _ _ _ _ _ qX2_nightPrice_113 rfl ?_
        refine g_max hC dX2_nightPrice_115 mX2_143 (by first | omega | exact cmpZ_in _ _ | exact bI_in _) (by first | omega | exact cmpZ_in _ _ | exact bI_in _) ⟨Nat.le_of_ble_eq_true rfl, Nat.le_of_ble_eq_true rfl, Nat.le_of_ble_eq_true rfl, Nat.le_of_ble_eq_true rfl⟩ ?_
        refine g_cSN1i (host := "HotelNights") hC dX2_nightPrice_118 (by decide) sX11_percentOf (kX11_percentOf (by omega) (by omega) (by omega) (by omega) (by omega)) rfl rfl (Nat.le_of_ble_eq_true rfl) (RR rfl rfl rfl rfl) (fun z i118 => ?_)
        refine g_ireturn hC dX2_nightPrice_121 hr ⟨?_, rfl, rfl, by omega⟩ gs_rfl ⟨Nat.le_of_ble_eq_true rfl, Nat.le_of_ble_eq_true rfl⟩
        unfold nPr
        by_cases hpn : pct N k9 d9 < 0
        · rw [if_pos hpn, show max 0 (pct N k9 d9) = 0 by omega, Int.mul_zero]; rfl
        · rw [if_neg hpn, show max 0 (pct N k9 d9) = pct N k9 d9 by omega]
  · have hse := hI.2.2.1 t (by omega) (by omega)
    unfold seOk at hse
    refine gB hC _ _ _ _ _ _ _ qX2_nightPrice_44 rfl ?_
    refine g_getr hC dX2_nightPrice_45 fX2_28 hm.1.sH (by decide) rfl 9 rfl hm.2.1.p9 ?_
    refine gB hC _ _ _ _ _ _ _ qX2_nightPrice_48 rfl ?_
    refine g_aald hC (j := 5) dX2_nightPrice_50 hm.1.sE (by decide) (hm.2.1.pe (by omega) (by omega)) (by omega) (by omega) (by decide) ?_
    refine gB hC _ _ _ _ _ _ _ qX2_nightPrice_51 rfl ?_
    refine g_cV1 hC dX2_nightPrice_53 mX2_130 vX7_has (kX7_has (hm.1.se (by omega) (by omega)) (hm.2.2.2.2.1 _ (by omega) (by omega)) (by omega)) rfl (hm.1.se (by omega) (by omega)) (by decide) rfl (Nat.le_of_ble_eq_true rfl) (RR rfl rfl rfl rfl) (fun z => ?_)
    refine g_if_eq hC 72 dX2_nightPrice_56 rfl (by first | omega | exact cmpZ_in _ _ | exact bI_in _) (fun c56 => ?_) (fun c56 => ?_)
    · have c56 := bI_0.mp c56
      refine gB hC _ _ _ _ _ _ _ qX2_nightPrice_72 rfl ?_
      refine ih (_, t + 1) _ ⟨?_, by show ((t + 1 : Nat) : Int) ≤ N 2; omega⟩ (by show (N 2 - ((t + 1 : Nat) : Int)).toNat < (N 2 - t).toNat; omega)
      rw [hl]
      first | (rw [pctT, if_pos c56]; done) | (rw [pctT, if_neg c56]; omega)
    · have c56 := bI_n0.mp c56
      refine gB hC _ _ _ _ _ _ _ qX2_nightPrice_59 rfl ?_
      refine g_getr hC dX2_nightPrice_61 fX2_28 hm.1.sH (by decide) rfl 9 rfl hm.2.1.p9 ?_
      refine gB hC _ _ _ _ _ _ _ qX2_nightPrice_64 rfl ?_
      refine g_aald hC (j := 5) dX2_nightPrice_66 hm.1.sE (by decide) (hm.2.1.pe (by omega) (by omega)) (by omega) (by omega) (by decide) ?_
      refine g_getiv hC dX2_nightPrice_67 fX2_134 (hm.1.se (by omega) (by omega)) (by decide) rfl 2 rfl (hm.e2 (by omega) (by omega)) (fun i67 => ?_)
      refine gB hC _ _ _ _ _ _ _ qX2_nightPrice_70 rfl ?_
      refine gB hC _ _ _ _ _ _ _ qX2_nightPrice_72 rfl ?_
      refine ih (_, t + 1) _ ⟨?_, by show ((t + 1 : Nat) : Int) ≤ N 2; omega⟩ (by show (N 2 - ((t + 1 : Nat) : Int)).toNat < (N 2 - t).toNat; omega)
      rw [hl]
      first | (rw [pctT, if_pos c56]; done) | (rw [pctT, if_neg c56]; omega)

theorem kX2_leastNights {E l Sh V z} {h9 d9 : Int} {N : gN0} (hm : RH h9 N Sh V) (hI : InvC N) (h2 : 0 ≤ d9) (h3 : d9 ≤ 36524) : gM E l yX2_leastNights (.code yX2_leastNights cX2_leastNights 5 (some .int)) (rmk 2 0 0 70) [(2, h9), (0, d9)] Sh V z (gRi (lstN N d9) Sh V) := by
  refine gM_at (L0 := [(2, h9), (0, d9), (9, 0), (9, 0), (9, 0)]) rfl rfl rfl ?_
  intro p e s m args below meth c hC hr hex hnm hz
  have hsc := hI.1
  unfold iScal at hsc
  have hdz := dateZ_in h2 h3
  refine gB hC _ _ _ _ _ _ _ qX2_leastNights_0 rfl ?_
  refine g_cS1i hC dX2_leastNights_1 mX2_127 sX0_dateOf (kX0_dateOf (by omega) (by omega)) rfl rfl (Nat.le_of_ble_eq_true rfl) (RR rfl rfl rfl rfl) (fun z i1 => ?_)
  refine gB hC _ _ _ _ _ _ _ qX2_leastNights_4 rfl ?_
  refine g_irem hC dX2_leastNights_7 (by first | omega | exact cmpZ_in _ _ | exact bI_in _) (by first | omega | exact cmpZ_in _ _ | exact bI_in _) (by omega) (by omega) ?_
  refine gB hC _ _ _ _ _ _ _ qX2_leastNights_8 rfl ?_
  refine g_loop (fun x : Int × Nat => x.1 = lstT N (dateZ d9 % 10000) x.2 ∧ (x.2 : Int) ≤ N 2) (fun x => (N 2 - x.2).toNat) 14 (fun x => [(2, h9), (0, d9), (0, dateZ d9 % 10000), (0, x.1), (0, (x.2 : Int))]) (fun _ => V) (1, 0) ⟨rfl, by show (0 : Int) ≤ N 2; omega⟩ ?_
  rintro ⟨least, t⟩ z ⟨hl, ht⟩ ih
  dsimp only at hl ht ih ⊢
  have hli := lstT_in hI.2.2.1 (dateZ d9 % 10000) t ht
  refine gB hC _ _ _ _ _ _ _ qX2_leastNights_14 rfl ?_
  refine g_getiv hC dX2_leastNights_17 fX2_71 hm.1.sH (by decide) rfl 3 rfl hm.t3 (fun i17 => ?_)
  refine g_icmp_ge hC 58 dX2_leastNights_20 rfl (by first | omega | exact cmpZ_in _ _ | exact bI_in _) (by first | omega | exact cmpZ_in _ _ | exact bI_in _) (fun c20 => ?_) (fun c20 => ?_)
  · refine gB hC _ _ _ _ _ _ _ qX2_leastNights_58 rfl ?_
    refine g_ireturn hC dX2_leastNights_59 hr ⟨?_, rfl, rfl, by unfold lstN; (have : t = (N 2).toNat := by omega); subst this; omega⟩ gs_rfl ⟨Nat.le_of_ble_eq_true rfl, Nat.le_of_ble_eq_true rfl⟩
    have : t = (N 2).toNat := by omega
    subst this
    rw [hl]; rfl
  · refine gB hC _ _ _ _ _ _ _ qX2_leastNights_23 rfl ?_
    refine g_getr hC dX2_leastNights_24 fX2_28 hm.1.sH (by decide) rfl 9 rfl hm.2.1.p9 ?_
    refine gB hC _ _ _ _ _ _ _ qX2_leastNights_27 rfl ?_
    refine g_aald hC (j := 5) dX2_leastNights_29 hm.1.sE (by decide) (hm.2.1.pe (by omega) (by omega)) (by omega) (by omega) (by decide) ?_
    refine gB hC _ _ _ _ _ _ _ qX2_leastNights_30 rfl ?_
    refine g_cV1 hC dX2_leastNights_31 mX2_130 vX7_has (kX7_has (hm.1.se (by omega) (by omega)) (hm.2.2.2.2.1 _ (by omega) (by omega)) (by omega)) rfl (hm.1.se (by omega) (by omega)) (by decide) rfl (Nat.le_of_ble_eq_true rfl) (RR rfl rfl rfl rfl) (fun z => ?_)
    refine g_if_eq hC 52 dX2_leastNights_34 rfl (by first | omega | exact cmpZ_in _ _ | exact bI_in _) (fun c34 => ?_) (fun c34 => ?_)
    · have c34 := bI_0.mp c34
      refine gB hC _ _ _ _ _ _ _ qX2_leastNights_52 rfl ?_
      refine ih (_, t + 1) _ ⟨?_, by show ((t + 1 : Nat) : Int) ≤ N 2; omega⟩ (by show (N 2 - ((t + 1 : Nat) : Int)).toNat < (N 2 - t).toNat; omega)
      rw [hl]
      first | (rw [lstT, if_pos c34]; done) | (rw [lstT, if_neg c34])
    · have c34 := bI_n0.mp c34
      refine gB hC _ _ _ _ _ _ _ qX2_leastNights_37 rfl ?_
      refine g_getr hC dX2_leastNights_39 fX2_28 hm.1.sH (by decide) rfl 9 rfl hm.2.1.p9 ?_
      refine gB hC _ _ _ _ _ _ _ qX2_leastNights_42 rfl ?_
      refine g_aald hC (j := 5) dX2_leastNights_44 hm.1.sE (by decide) (hm.2.1.pe (by omega) (by omega)) (by omega) (by omega) (by decide) ?_
      refine g_getiv hC dX2_leastNights_45 fX2_151 (hm.1.se (by omega) (by omega)) (by decide) rfl 3 rfl (hm.e3 (by omega) (by omega)) (fun i45 => ?_)
      refine g_max hC dX2_leastNights_48 mX2_143 (by first | omega | exact cmpZ_in _ _ | exact bI_in _) (by first | omega | exact cmpZ_in _ _ | exact bI_in _) ⟨Nat.le_of_ble_eq_true rfl, Nat.le_of_ble_eq_true rfl, Nat.le_of_ble_eq_true rfl, Nat.le_of_ble_eq_true rfl⟩ ?_
      refine gB hC _ _ _ _ _ _ _ qX2_leastNights_51 rfl ?_
      refine gB hC _ _ _ _ _ _ _ qX2_leastNights_52 rfl ?_
      refine ih (_, t + 1) _ ⟨?_, by show ((t + 1 : Nat) : Int) ≤ N 2; omega⟩ (by show (N 2 - ((t + 1 : Nat) : Int)).toNat < (N 2 - t).toNat; omega)
      rw [hl]
      first | (rw [lstT, if_pos c34]; done) | (rw [lstT, if_neg c34])

theorem kX2_firstNotHad {E l Sh V z} {h9 k9 f9 n9 : Int} {N : gN0} (hm : RH h9 N Sh V) (hI : InvC N) (h0 : 0 ≤ k9) (h1 : k9 < N 1) (h2 : 0 ≤ f9) (h3 : 0 ≤ n9) (h4 : f9 + n9 ≤ 36525) : gM E l yX2_firstNotHad (.code yX2_firstNotHad cX2_firstNotHad 6 (some .int)) (rmk 2 0 0 70) [(2, h9), (0, k9), (0, f9), (0, n9)] Sh V z (gRi (rfs N k9 f9 n9) Sh V) := by
  refine gM_at (L0 := [(2, h9), (0, k9), (0, f9), (0, n9), (9, 0), (9, 0)]) rfl rfl rfl ?_
  intro p e s m args below meth c hC hr hex hnm hz
  have hsc := hI.1
  unfold iScal at hsc
  have hk := hI.2.1 k9 h0 h1
  unfold kOk at hk
  have hrin := rfs_in N k9 f9 n9 h2 h4
  refine gB hC _ _ _ _ _ _ _ qX2_firstNotHad_0 rfl ?_
  refine g_getr hC dX2_firstNotHad_1 fX2_22 hm.1.sH (by decide) rfl 8 rfl hm.2.1.p8 ?_
  refine gB hC _ _ _ _ _ _ _ qX2_firstNotHad_4 rfl ?_
  refine g_aald hC (j := 4) dX2_firstNotHad_5 hm.1.sK (by decide) (hm.2.1.pk (by omega) (by omega)) (by omega) (by omega) (by decide) ?_
  refine gB hC _ _ _ _ _ _ _ qX2_firstNotHad_6 rfl ?_
  refine g_loop (fun x : Int × Nat => rfs N k9 f9 n9 = rfsT N k9 x.1 x.2 ∧ x.1 + x.2 = f9 + n9 ∧ f9 ≤ x.1) (fun x => x.2) 11 (fun x => [(2, h9), (0, k9), (0, f9), (0, n9), (2, h9 + 132 + 2 * k9), (0, x.1)]) (fun _ => V) (f9, n9.toNat) ⟨rfl, by show f9 + (n9.toNat : Int) = _; omega, Int.le_refl _⟩ ?_
  rintro ⟨d, q⟩ z ⟨hr9, hd, hf⟩ ih
  dsimp only at hr9 hd hf ih ⊢
  have hcn := cnt_in hI k9 d
  refine gB hC _ _ _ _ _ _ _ qX2_firstNotHad_11 rfl ?_
  refine g_icmp_ge hC 62 dX2_firstNotHad_16 rfl (by first | omega | exact cmpZ_in _ _ | exact bI_in _) (by first | omega | exact cmpZ_in _ _ | exact bI_in _) (fun c16 => ?_) (fun c16 => ?_)
  · refine gB hC _ _ _ _ _ _ _ qX2_firstNotHad_62 rfl ?_
    refine g_ireturn hC dX2_firstNotHad_63 hr ⟨?_, rfl, rfl, by omega⟩ gs_rfl ⟨Nat.le_of_ble_eq_true rfl, Nat.le_of_ble_eq_true rfl⟩
    have hq : q = 0 := by omega
    subst hq
    rw [hr9]; rfl
  · obtain ⟨q2, rfl⟩ : ∃ q2, q = q2 + 1 := ⟨q - 1, by omega⟩
    rw [rfsT] at hr9
    refine gB hC _ _ _ _ _ _ _ qX2_firstNotHad_19 rfl ?_
    refine g_cV1 hC dX2_firstNotHad_23 mX2_154 vX3_isClosed (kX3_isClosed (hm.1.sk (by omega) (by omega)) (hm.1.sc (by omega) (by omega)) (hm.2.1.pc (by omega) (by omega)) (hm.kd (by omega) (by omega)) (by omega) (by omega)) rfl (hm.1.sk (by omega) (by omega)) (by decide) rfl (Nat.le_of_ble_eq_true rfl) (RR rfl rfl rfl rfl) (fun z => ?_)
    refine g_if_ne hC 53 dX2_firstNotHad_26 rfl (by first | omega | exact cmpZ_in _ _ | exact bI_in _) (fun c26 => ?_) (fun c26 => ?_)
    · have c26 := bI_n0.mp c26
      refine gB hC _ _ _ _ _ _ _ qX2_firstNotHad_53 rfl ?_
      refine g_ireturn hC dX2_firstNotHad_55 hr ⟨?_, rfl, rfl, by omega⟩ gs_rfl ⟨Nat.le_of_ble_eq_true rfl, Nat.le_of_ble_eq_true rfl⟩
      first | (rw [hr9, if_pos (Or.inl c26)]; done) | rw [hr9, if_pos (by omega)]
    · have c26 := bI_0.mp c26
      refine gB hC _ _ _ _ _ _ _ qX2_firstNotHad_29 rfl ?_
      refine g_getr hC dX2_firstNotHad_30 fX2_41 hm.1.sH (by decide) rfl 11 rfl hm.2.1.p11 ?_
      refine gB hC _ _ _ _ _ _ _ qX2_firstNotHad_33 rfl ?_
      refine g_cV1i hC dX2_firstNotHad_36 mX2_119 vX9_countOn (kX9_countOn hm hI (by omega) (by omega)) rfl hm.1.sT (by decide) rfl (Nat.le_of_ble_eq_true rfl) (RR rfl rfl rfl rfl) (fun z i36 => ?_)
      refine gB hC _ _ _ _ _ _ _ qX2_firstNotHad_39 rfl ?_
      refine g_getiv hC dX2_firstNotHad_41 fX2_157 (hm.1.sk (by omega) (by omega)) (by decide) rfl 0 rfl (hm.k0 (by omega) (by omega)) (fun i41 => ?_)
      refine gB hC _ _ _ _ _ _ _ qX2_firstNotHad_44 rfl ?_
      refine g_getiv hC dX2_firstNotHad_46 fX2_160 (hm.1.sk (by omega) (by omega)) (by decide) rfl 2 rfl (hm.k2 (by omega) (by omega)) (fun i46 => ?_)
      refine gB hC _ _ _ _ _ _ _ qX2_firstNotHad_49 rfl ?_
      refine g_icmp_lt hC 56 dX2_firstNotHad_50 rfl (by first | omega | exact cmpZ_in _ _ | exact bI_in _) (by first | omega | exact cmpZ_in _ _ | exact bI_in _) (fun c50 => ?_) (fun c50 => ?_)
      · refine gB hC _ _ _ _ _ _ _ qX2_firstNotHad_56 rfl ?_
        refine ih (d + 1, q2) _ ⟨?_, by show d + 1 + (q2 : Int) = _; omega, by show f9 ≤ d + 1; omega⟩ (by show q2 < q2 + 1; omega)
        rw [hr9, if_neg (by omega)]
      · refine gB hC _ _ _ _ _ _ _ qX2_firstNotHad_53 rfl ?_
        refine g_ireturn hC dX2_firstNotHad_55 hr ⟨?_, rfl, rfl, by omega⟩ gs_rfl ⟨Nat.le_of_ble_eq_true rfl, Nat.le_of_ble_eq_true rfl⟩
        first | (rw [hr9, if_pos (Or.inl c26)]; done) | rw [hr9, if_pos (by omega)]

theorem kX2_refusalOf {E l Sh V z} {h9 w9 k9 f9 n9 : Int} {N : gN0} (hm : RH h9 N Sh V) (hI : InvC N) (w1 : Sh w9 = some (9, 0)) (e0 : V w9 0 = k9) (e1 : V w9 1 = f9) (e2 : V w9 2 = n9) (h0 : 0 ≤ k9) (h1 : k9 < N 1) (h2 : 0 ≤ f9) (h3 : 1 ≤ n9) (h4 : f9 + n9 ≤ 36525) : gM E l yX2_refusalOf (.code yX2_refusalOf cX2_refusalOf 3 (some .int)) (rmk 3 0 0 95) [(2, h9), (2, w9)] Sh V z (gRi (rfd N k9 f9 n9) Sh V) := by
  refine gM_at (L0 := [(2, h9), (2, w9), (9, 0)]) rfl rfl rfl ?_
  intro p e s m args below meth c hC hr hex hnm hz
  have hrin := rfs_in N k9 f9 n9 h2 h4
  refine gB hC _ _ _ _ _ _ _ qX2_refusalOf_0 rfl ?_
  refine g_getiv hC dX2_refusalOf_2 fX2_163 w1 (by decide) rfl 0 rfl e0 (fun i2 => ?_)
  refine gB hC _ _ _ _ _ _ _ qX2_refusalOf_5 rfl ?_
  refine g_getiv hC dX2_refusalOf_6 fX2_166 w1 (by decide) rfl 1 rfl e1 (fun i6 => ?_)
  refine gB hC _ _ _ _ _ _ _ qX2_refusalOf_9 rfl ?_
  refine g_getiv hC dX2_refusalOf_10 fX2_169 w1 (by decide) rfl 2 rfl e2 (fun i10 => ?_)
  refine g_cV1i hC dX2_refusalOf_13 mX2_172 vX2_firstNotHad (kX2_firstNotHad hm hI (by omega) (by omega) (by omega) (by omega) (by omega)) rfl hm.1.sH (by decide) rfl (Nat.le_of_ble_eq_true rfl) (RR rfl rfl rfl rfl) (fun z i13 => ?_)
  refine gB hC _ _ _ _ _ _ _ qX2_refusalOf_16 rfl ?_
  refine g_icmp_ne hC 42 dX2_refusalOf_19 rfl (by first | omega | exact cmpZ_in _ _ | exact bI_in _) (by first | omega | exact cmpZ_in _ _ | exact bI_in _) (fun c19 => ?_) (fun c19 => ?_)
  · refine gB hC _ _ _ _ _ _ _ qX2_refusalOf_42 rfl ?_
    refine g_ireturn hC dX2_refusalOf_43 hr ⟨?_, rfl, rfl, by unfold rfd; (repeat' split) <;> omega⟩ gs_rfl ⟨Nat.le_of_ble_eq_true rfl, Nat.le_of_ble_eq_true rfl⟩
    unfold rfd
    first | (rw [if_pos (by omega)]; done) | (rw [if_neg (by omega), if_pos (by omega)]; done) | (rw [if_neg (by omega), if_neg (by omega), show rfs N k9 f9 n9 = -1 by omega])
  · refine gB hC _ _ _ _ _ _ _ qX2_refusalOf_22 rfl ?_
    refine g_getiv hC dX2_refusalOf_23 fX2_169 w1 (by decide) rfl 2 rfl e2 (fun i23 => ?_)
    refine gB hC _ _ _ _ _ _ _ qX2_refusalOf_26 rfl ?_
    refine g_getiv hC dX2_refusalOf_28 fX2_166 w1 (by decide) rfl 1 rfl e1 (fun i28 => ?_)
    refine g_cV1i hC dX2_refusalOf_31 mX2_176 vX2_leastNights (kX2_leastNights hm hI (by omega) (by omega)) rfl hm.1.sH (by decide) rfl (Nat.le_of_ble_eq_true rfl) (RR rfl rfl rfl rfl) (fun z i31 => ?_)
    refine g_icmp_ge hC 42 dX2_refusalOf_34 rfl (by first | omega | exact cmpZ_in _ _ | exact bI_in _) (by first | omega | exact cmpZ_in _ _ | exact bI_in _) (fun c34 => ?_) (fun c34 => ?_)
    · refine gB hC _ _ _ _ _ _ _ qX2_refusalOf_42 rfl ?_
      refine g_ireturn hC dX2_refusalOf_43 hr ⟨?_, rfl, rfl, by unfold rfd; (repeat' split) <;> omega⟩ gs_rfl ⟨Nat.le_of_ble_eq_true rfl, Nat.le_of_ble_eq_true rfl⟩
      unfold rfd
      first | (rw [if_pos (by omega)]; done) | (rw [if_neg (by omega), if_pos (by omega)]; done) | (rw [if_neg (by omega), if_neg (by omega), show rfs N k9 f9 n9 = -1 by omega])
    · refine gB hC _ _ _ _ _ _ _ qX2_refusalOf_37 rfl ?_
      refine g_getiv hC dX2_refusalOf_38 fX2_166 w1 (by decide) rfl 1 rfl e1 (fun i38 => ?_)
      refine g_ireturn hC dX2_refusalOf_41 hr ⟨?_, rfl, rfl, by unfold rfd; (repeat' split) <;> omega⟩ gs_rfl ⟨Nat.le_of_ble_eq_true rfl, Nat.le_of_ble_eq_true rfl⟩
      unfold rfd
      first | (rw [if_pos (by omega)]; done) | (rw [if_neg (by omega), if_pos (by omega)]; done) | (rw [if_neg (by omega), if_neg (by omega), show rfs N k9 f9 n9 = -1 by omega])

