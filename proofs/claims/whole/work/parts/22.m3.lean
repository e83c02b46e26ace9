/-! the reference: nights and prices (rows laid by wip/whole/m3.py) -/
theorem kX12_isClosed {E l Sh V z} {b : Int} {N : gN0} {k0 d : Int} (hm : gMd b N Sh V) (h0 : 0 ≤ k0) (h1 : k0 < 3) (h2 : 0 ≤ d) (h3 : d ≤ 36524) : gM E l yX12_isClosed (.code yX12_isClosed cX12_isClosed 3 (some .boolean)) (rmk 0 0 0 0) [(2, b), (0, k0), (0, d)] Sh V z (gR (some (0, bI (bitZ (N (1596 + k0 * 1142 + d / 32)) (d % 32).toNat = 1))) Sh V) := by
  refine gM_at (L0 := [(2, b), (0, k0), (0, d)]) rfl rfl rfl ?_
  intro p e s m args below meth c hC hr hex hnm hz
  refine gB hC _ _ _ _ _ _ _ qX12_isClosed_0 rfl ?_
  refine g_getr hC dX12_isClosed_1 fX12_9 hm.1.1 (by decide) rfl 0 rfl hm.2.1.1 ?_
  refine gB hC _ _ _ _ _ _ _ qX12_isClosed_4 rfl ?_
  refine g_idiv hC dX12_isClosed_16 (by first | omega | exact bI_in _) (by first | omega | exact bI_in _) (by omega) (by omega) ?_
  refine gB hC _ _ _ _ _ _ _ qX12_isClosed_17 rfl ?_
  refine g_iald hC dX12_isClosed_18 hm.1.2.1 (gMd_at hm _) (by omega) (by omega) (by decide) (fun i18 => ?_)
  refine gB hC _ _ _ _ _ _ _ qX12_isClosed_19 rfl ?_
  refine g_irem hC dX12_isClosed_22 (by first | omega | exact bI_in _) (by first | omega | exact bI_in _) (by omega) (by omega) ?_
  refine g_ishr hC dX12_isClosed_23 (iI_shr i18 (by omega) (by omega)) ?_
  refine gB hC _ _ _ _ _ _ _ qX12_isClosed_24 rfl ?_
  refine g_iand hC dX12_isClosed_25 (iI_and1 (shr_in _ i18)) ?_
  refine gB hC _ _ _ _ _ _ _ qX12_isClosed_26 rfl ?_
  refine g_icmp_ne hC 34 dX12_isClosed_27 rfl (by first | omega | exact bI_in _) (by first | omega | exact bI_in _) (fun c27 => ?_) (fun c27 => ?_)
  · refine gB hC _ _ _ _ _ _ _ qX12_isClosed_34 rfl ?_
    refine g_zreturn hC dX12_isClosed_35 hr ?_ ⟨?_, rfl, rfl⟩ gs_rfl ⟨Nat.le_of_ble_eq_true rfl, Nat.le_of_ble_eq_true rfl⟩
    · first | exact Or.inl rfl | exact Or.inr rfl | exact bI_01 _
    first | (rw [bI_f (by unfold bitZ; omega)]; done) | (rw [bI_t (by unfold bitZ; omega)]; done)
  · refine gB hC _ _ _ _ _ _ _ qX12_isClosed_30 rfl ?_
    refine g_zreturn hC dX12_isClosed_35 hr ?_ ⟨?_, rfl, rfl⟩ gs_rfl ⟨Nat.le_of_ble_eq_true rfl, Nat.le_of_ble_eq_true rfl⟩
    · first | exact Or.inl rfl | exact Or.inr rfl | exact bI_01 _
    first | (rw [bI_f (by unfold bitZ; omega)]; done) | (rw [bI_t (by unfold bitZ; omega)]; done)

theorem kX12_refusing {E l Sh V z} {b : Int} {N : gN0} {k0 first nights : Int} (hm : gMd b N Sh V) (hI : InvC N) (h0 : 0 ≤ k0) (h1 : k0 < N 1) (h2 : 0 ≤ first) (h3 : 0 ≤ nights) (h4 : first + nights ≤ 36525) : gM E l yX12_refusing (.code yX12_refusing cX12_refusing 5 (some .int)) (rmk 4 0 0 90) [(2, b), (0, k0), (0, first), (0, nights)] Sh V z (gRi (rfs N k0 first nights) Sh V) := by
  refine gM_at (L0 := [(2, b), (0, k0), (0, first), (0, nights), (9, 0)]) rfl rfl rfl ?_
  intro p e s m args below meth c hC hr hex hnm hz
  have hsc := hI.1
  unfold iScal at hsc
  have hk := hI.2.1 k0 h0 h1
  unfold kOk at hk
  have hrin := rfs_in N k0 first nights h2 h4
  refine gB hC _ _ _ _ _ _ _ qX12_refusing_0 rfl ?_
  refine g_loop (fun x : Int × Nat => rfs N k0 first nights = rfsT N k0 x.1 x.2 ∧ x.1 + x.2 = first + nights ∧ first ≤ x.1) (fun x => x.2) 3 (fun x => [(2, b), (0, k0), (0, first), (0, nights), (0, x.1)]) (fun _ => V) (first, nights.toNat) ⟨rfl, by show first + (nights.toNat : Int) = _; omega, Int.le_refl _⟩ ?_
  rintro ⟨d, q⟩ z ⟨hr9, hd, hf⟩ ih
  dsimp only at hr9 hd hf ih ⊢
  have hcn := cnt_in hI k0 d
  refine gB hC _ _ _ _ _ _ _ qX12_refusing_3 rfl ?_
  refine g_icmp_ge hC 53 dX12_refusing_8 rfl (by first | omega | exact bI_in _) (by first | omega | exact bI_in _) (fun c8 => ?_) (fun c8 => ?_)
  · refine gB hC _ _ _ _ _ _ _ qX12_refusing_53 rfl ?_
    refine g_ireturn hC dX12_refusing_54 hr ⟨?_, rfl, rfl, by omega⟩ gs_rfl ⟨Nat.le_of_ble_eq_true rfl, Nat.le_of_ble_eq_true rfl⟩
    have hq : q = 0 := by omega
    subst hq
    rw [hr9]; rfl
  · obtain ⟨q2, rfl⟩ : ∃ q2, q = q2 + 1 := ⟨q - 1, by omega⟩
    rw [rfsT] at hr9
    refine gB hC _ _ _ _ _ _ _ qX12_refusing_11 rfl ?_
    refine g_cV1 hC dX12_refusing_15 mX12_57 vX12_isClosed (kX12_isClosed hm (by omega) (by omega) (by omega) (by omega)) rfl hm.1.1 (by decide) rfl (Nat.le_of_ble_eq_true rfl) (RR rfl rfl rfl rfl) (fun z => ?_)
    refine g_if_ne hC 44 dX12_refusing_18 rfl (by first | omega | exact bI_in _) (fun c18 => ?_) (fun c18 => ?_)
    · have c18 := bI_n0.mp c18
      refine gB hC _ _ _ _ _ _ _ qX12_refusing_44 rfl ?_
      refine g_ireturn hC dX12_refusing_46 hr ⟨?_, rfl, rfl, by omega⟩ gs_rfl ⟨Nat.le_of_ble_eq_true rfl, Nat.le_of_ble_eq_true rfl⟩
      first | rw [hr9, if_pos (Or.inl c18)] | rw [hr9, if_pos (by omega)]
    · have c18 := bI_0.mp c18
      refine gB hC _ _ _ _ _ _ _ qX12_refusing_21 rfl ?_
      refine g_cV1i hC dX12_refusing_25 mX12_60 vX12_counts (kX12_counts hm hI (by omega) (by omega)) rfl hm.1.1 (by decide) rfl (Nat.le_of_ble_eq_true rfl) (RR rfl rfl rfl rfl) (fun z i25 => ?_)
      refine gB hC _ _ _ _ _ _ _ qX12_refusing_28 rfl ?_
      refine g_cV1i hC dX12_refusing_31 mX12_63 vX12_ofKind (kX12_ofKind hm (by omega) (by omega)) rfl hm.1.1 (by decide) rfl (Nat.le_of_ble_eq_true rfl) (RR rfl rfl rfl rfl) (fun z i31 => ?_)
      refine gB hC _ _ _ _ _ _ _ qX12_refusing_34 rfl ?_
      refine g_cV1i hC dX12_refusing_37 mX12_63 vX12_ofKind (kX12_ofKind hm (by omega) (by omega)) rfl hm.1.1 (by decide) rfl (Nat.le_of_ble_eq_true rfl) (RR rfl rfl rfl rfl) (fun z i37 => ?_)
      refine gB hC _ _ _ _ _ _ _ qX12_refusing_40 rfl ?_
      refine g_icmp_lt hC 47 dX12_refusing_41 rfl (by first | omega | exact bI_in _) (by first | omega | exact bI_in _) (fun c41 => ?_) (fun c41 => ?_)
      · refine gB hC _ _ _ _ _ _ _ qX12_refusing_47 rfl ?_
        refine ih (d + 1, q2) _ ⟨?_, by show d + 1 + (q2 : Int) = _; omega, by show first ≤ d + 1; omega⟩ (by show q2 < q2 + 1; omega)
        rw [hr9, if_neg (by omega)]
      · refine gB hC _ _ _ _ _ _ _ qX12_refusing_44 rfl ?_
        refine g_ireturn hC dX12_refusing_46 hr ⟨?_, rfl, rfl, by omega⟩ gs_rfl ⟨Nat.le_of_ble_eq_true rfl, Nat.le_of_ble_eq_true rfl⟩
        first | rw [hr9, if_pos (Or.inl c18)] | rw [hr9, if_pos (by omega)]

theorem kX12_isInSeason {E l Sh V z} {b : Int} {N : gN0} {n0 d : Int} (hm : gMd b N Sh V) (h0 : 0 ≤ n0) (h1 : n0 < 4) (h2 : 0 ≤ d) (h3 : d ≤ 36524) : gM E l yX12_isInSeason (.code yX12_isInSeason cX12_isInSeason 5 (some .boolean)) (rmk 2 0 0 45) [(2, b), (0, n0), (0, d)] Sh V z (gR (some (0, bI ((seF N n0 0 ≤ seF N n0 1 ∧ seF N n0 0 ≤ dateZ d % 10000 ∧ dateZ d % 10000 ≤ seF N n0 1) ∨ (seF N n0 1 < seF N n0 0 ∧ (seF N n0 0 ≤ dateZ d % 10000 ∨ dateZ d % 10000 ≤ seF N n0 1))))) Sh V) := by
  refine gM_at (L0 := [(2, b), (0, n0), (0, d), (9, 0), (9, 0)]) rfl rfl rfl ?_
  intro p e s m args below meth c hC hr hex hnm hz
  have hdz := dateZ_in h2 h3
  have e0 : seF N n0 0 = N (40 + n0 * 4) := by unfold seF; congr 1; omega
  have e1 : seF N n0 1 = N (40 + n0 * 4 + 1) := rfl
  refine gB hC _ _ _ _ _ _ _ qX12_isInSeason_0 rfl ?_
  refine g_cS1i hC dX12_isInSeason_8 mX12_66 sX12_dateOf (kX12_dateOf (by omega) (by omega)) rfl rfl (Nat.le_of_ble_eq_true rfl) (RR rfl rfl rfl rfl) (fun z i8 => ?_)
  refine gB hC _ _ _ _ _ _ _ qX12_isInSeason_11 rfl ?_
  refine g_irem hC dX12_isInSeason_14 (by first | omega | exact bI_in _) (by first | omega | exact bI_in _) (by omega) (by omega) ?_
  refine gB hC _ _ _ _ _ _ _ qX12_isInSeason_15 rfl ?_
  refine g_getr hC dX12_isInSeason_18 fX12_9 hm.1.1 (by decide) rfl 0 rfl hm.2.1.1 ?_
  refine gB hC _ _ _ _ _ _ _ qX12_isInSeason_21 rfl ?_
  refine g_iald hC dX12_isInSeason_22 hm.1.2.1 (gMd_at hm _) (by omega) (by omega) (by decide) (fun i22 => ?_)
  refine gB hC _ _ _ _ _ _ _ qX12_isInSeason_23 rfl ?_
  refine g_getr hC dX12_isInSeason_24 fX12_9 hm.1.1 (by decide) rfl 0 rfl hm.2.1.1 ?_
  refine gB hC _ _ _ _ _ _ _ qX12_isInSeason_27 rfl ?_
  refine g_iald hC dX12_isInSeason_30 hm.1.2.1 (gMd_at hm _) (by omega) (by omega) (by decide) (fun i30 => ?_)
  refine g_icmp_gt hC 56 dX12_isInSeason_31 rfl (by first | omega | exact bI_in _) (by first | omega | exact bI_in _) (fun c31 => ?_) (fun c31 => ?_)
  · refine gB hC _ _ _ _ _ _ _ qX12_isInSeason_56 rfl ?_
    refine g_getr hC dX12_isInSeason_59 fX12_9 hm.1.1 (by decide) rfl 0 rfl hm.2.1.1 ?_
    refine gB hC _ _ _ _ _ _ _ qX12_isInSeason_62 rfl ?_
    refine g_iald hC dX12_isInSeason_63 hm.1.2.1 (gMd_at hm _) (by omega) (by omega) (by decide) (fun i63 => ?_)
    refine g_icmp_ge hC 80 dX12_isInSeason_64 rfl (by first | omega | exact bI_in _) (by first | omega | exact bI_in _) (fun c64 => ?_) (fun c64 => ?_)
    · refine gB hC _ _ _ _ _ _ _ qX12_isInSeason_80 rfl ?_
      refine g_zreturn hC dX12_isInSeason_85 hr ?_ ⟨?_, rfl, rfl⟩ gs_rfl ⟨Nat.le_of_ble_eq_true rfl, Nat.le_of_ble_eq_true rfl⟩
      · first | exact Or.inl rfl | exact Or.inr rfl | exact bI_01 _
      first | (rw [bI_f (by omega)]; done) | (rw [bI_t (by omega)]; done) | (congr 3; exact bI_iff (by omega))
    · refine gB hC _ _ _ _ _ _ _ qX12_isInSeason_67 rfl ?_
      refine g_getr hC dX12_isInSeason_70 fX12_9 hm.1.1 (by decide) rfl 0 rfl hm.2.1.1 ?_
      refine gB hC _ _ _ _ _ _ _ qX12_isInSeason_73 rfl ?_
      refine g_iald hC dX12_isInSeason_76 hm.1.2.1 (gMd_at hm _) (by omega) (by omega) (by decide) (fun i76 => ?_)
      refine g_icmp_gt hC 84 dX12_isInSeason_77 rfl (by first | omega | exact bI_in _) (by first | omega | exact bI_in _) (fun c77 => ?_) (fun c77 => ?_)
      · refine gB hC _ _ _ _ _ _ _ qX12_isInSeason_84 rfl ?_
        refine g_zreturn hC dX12_isInSeason_85 hr ?_ ⟨?_, rfl, rfl⟩ gs_rfl ⟨Nat.le_of_ble_eq_true rfl, Nat.le_of_ble_eq_true rfl⟩
        · first | exact Or.inl rfl | exact Or.inr rfl | exact bI_01 _
        first | (rw [bI_f (by omega)]; done) | (rw [bI_t (by omega)]; done) | (congr 3; exact bI_iff (by omega))
      · refine gB hC _ _ _ _ _ _ _ qX12_isInSeason_80 rfl ?_
        refine g_zreturn hC dX12_isInSeason_85 hr ?_ ⟨?_, rfl, rfl⟩ gs_rfl ⟨Nat.le_of_ble_eq_true rfl, Nat.le_of_ble_eq_true rfl⟩
        · first | exact Or.inl rfl | exact Or.inr rfl | exact bI_01 _
        first | (rw [bI_f (by omega)]; done) | (rw [bI_t (by omega)]; done) | (congr 3; exact bI_iff (by omega))
  · refine gB hC _ _ _ _ _ _ _ qX12_isInSeason_34 rfl ?_
    refine g_getr hC dX12_isInSeason_37 fX12_9 hm.1.1 (by decide) rfl 0 rfl hm.2.1.1 ?_
    refine gB hC _ _ _ _ _ _ _ qX12_isInSeason_40 rfl ?_
    refine g_iald hC dX12_isInSeason_41 hm.1.2.1 (gMd_at hm _) (by omega) (by omega) (by decide) (fun i41 => ?_)
    refine gB hC _ _ _ _ _ _ _ qX12_isInSeason_42 rfl ?_
    refine g_getr hC dX12_isInSeason_43 fX12_9 hm.1.1 (by decide) rfl 0 rfl hm.2.1.1 ?_
    refine gB hC _ _ _ _ _ _ _ qX12_isInSeason_46 rfl ?_
    refine g_iald hC dX12_isInSeason_49 hm.1.2.1 (gMd_at hm _) (by omega) (by omega) (by decide) (fun i49 => ?_)
    refine g_cS1 hC dX12_isInSeason_50 mX12_35 sX12_in (kX12_in (by omega) (by omega) (by omega)) rfl rfl (Nat.le_of_ble_eq_true rfl) (RR rfl rfl rfl rfl) (fun z => ?_)
    refine gB hC _ _ _ _ _ _ _ qX12_isInSeason_53 rfl ?_
    refine g_zreturn hC dX12_isInSeason_85 hr ?_ ⟨?_, rfl, rfl⟩ gs_rfl ⟨Nat.le_of_ble_eq_true rfl, Nat.le_of_ble_eq_true rfl⟩
    · first | exact Or.inl rfl | exact Or.inr rfl | exact bI_01 _
    first | (rw [bI_f (by omega)]; done) | (rw [bI_t (by omega)]; done) | (congr 3; exact bI_iff (by omega))

theorem kX12_leastNights {E l Sh V z} {b : Int} {N : gN0} {d : Int} (hm : gMd b N Sh V) (hI : InvC N) (h2 : 0 ≤ d) (h3 : d ≤ 36524) : gM E l yX12_leastNights (.code yX12_leastNights cX12_leastNights 4 (some .int)) (rmk 3 0 0 69) [(2, b), (0, d)] Sh V z (gRi (lstN N d) Sh V) := by
  refine gM_at (L0 := [(2, b), (0, d), (9, 0), (9, 0)]) rfl rfl rfl ?_
  intro p e s m args below meth c hC hr hex hnm hz
  have hsc := hI.1
  unfold iScal at hsc
  refine gB hC _ _ _ _ _ _ _ qX12_leastNights_0 rfl ?_
  refine g_loop (fun x : Int × Nat => x.1 = lstT N (dateZ d % 10000) x.2 ∧ (x.2 : Int) ≤ N 2) (fun x => (N 2 - x.2).toNat) 4 (fun x => [(2, b), (0, d), (0, x.1), (0, (x.2 : Int))]) (fun _ => V) (1, 0) ⟨rfl, by show (0 : Int) ≤ N 2; omega⟩ ?_
  rintro ⟨least, t⟩ z ⟨hl, ht⟩ ih
  dsimp only at hl ht ih ⊢
  have hli := lstT_in hI.2.2.1 (dateZ d % 10000) t ht
  refine gB hC _ _ _ _ _ _ _ qX12_leastNights_4 rfl ?_
  refine g_getr hC dX12_leastNights_6 fX12_9 hm.1.1 (by decide) rfl 0 rfl hm.2.1.1 ?_
  refine gB hC _ _ _ _ _ _ _ qX12_leastNights_9 rfl ?_
  refine g_iald hC dX12_leastNights_10 hm.1.2.1 (gMd_at hm _) (by omega) (by omega) (by decide) (fun i10 => ?_)
  refine g_icmp_ge hC 47 dX12_leastNights_11 rfl (by first | omega | exact bI_in _) (by first | omega | exact bI_in _) (fun c11 => ?_) (fun c11 => ?_)
  · refine gB hC _ _ _ _ _ _ _ qX12_leastNights_47 rfl ?_
    refine g_ireturn hC dX12_leastNights_48 hr ⟨?_, rfl, rfl, by unfold lstN; (have : t = (N 2).toNat := by omega); subst this; omega⟩ gs_rfl ⟨Nat.le_of_ble_eq_true rfl, Nat.le_of_ble_eq_true rfl⟩
    have : t = (N 2).toNat := by omega
    subst this
    rw [hl]; rfl
  · refine gB hC _ _ _ _ _ _ _ qX12_leastNights_14 rfl ?_
    refine g_cV1 hC dX12_leastNights_17 mX12_69 vX12_isInSeason (kX12_isInSeason hm (by omega) (by omega) (by omega) (by omega)) rfl hm.1.1 (by decide) rfl (Nat.le_of_ble_eq_true rfl) (RR rfl rfl rfl rfl) (fun z => ?_)
    refine g_if_eq hC 41 dX12_leastNights_20 rfl (by first | omega | exact bI_in _) (fun c20 => ?_) (fun c20 => ?_)
    · have c20 := bI_0.mp c20
      refine gB hC _ _ _ _ _ _ _ qX12_leastNights_41 rfl ?_
      refine ih (_, t + 1) _ ⟨?_, by show ((t + 1 : Nat) : Int) ≤ N 2; omega⟩ (by show (N 2 - ((t + 1 : Nat) : Int)).toNat < (N 2 - t).toNat; omega)
      rw [hl]
      first | (rw [lstT, if_pos c20]; rfl) | (rw [lstT, if_neg c20])
    · have c20 := bI_n0.mp c20
      refine gB hC _ _ _ _ _ _ _ qX12_leastNights_23 rfl ?_
      refine g_getr hC dX12_leastNights_25 fX12_9 hm.1.1 (by decide) rfl 0 rfl hm.2.1.1 ?_
      refine gB hC _ _ _ _ _ _ _ qX12_leastNights_28 rfl ?_
      refine g_iald hC dX12_leastNights_36 hm.1.2.1 (gMd_at hm _) (by omega) (by omega) (by decide) (fun i36 => ?_)
      refine g_max hC dX12_leastNights_37 mX12_72 (by first | omega | exact bI_in _) (by first | omega | exact bI_in _) ⟨Nat.le_of_ble_eq_true rfl, Nat.le_of_ble_eq_true rfl, Nat.le_of_ble_eq_true rfl, Nat.le_of_ble_eq_true rfl⟩ ?_
      refine gB hC _ _ _ _ _ _ _ qX12_leastNights_40 rfl ?_
      refine gB hC _ _ _ _ _ _ _ qX12_leastNights_41 rfl ?_
      refine ih (_, t + 1) _ ⟨?_, by show ((t + 1 : Nat) : Int) ≤ N 2; omega⟩ (by show (N 2 - ((t + 1 : Nat) : Int)).toNat < (N 2 - t).toNat; omega)
      rw [hl]
      first | (rw [lstT, if_pos c20]; rfl) | (rw [lstT, if_neg c20])

theorem kX12_refused {E l Sh V z} {b : Int} {N : gN0} {k0 first nights : Int} (hm : gMd b N Sh V) (hI : InvC N) (h0 : 0 ≤ k0) (h1 : k0 < N 1) (h2 : 0 ≤ first) (h3 : 1 ≤ nights) (h4 : first + nights ≤ 36525) : gM E l yX12_refused (.code yX12_refused cX12_refused 5 (some .int)) (rmk 5 0 0 114) [(2, b), (0, k0), (0, first), (0, nights)] Sh V z (gRi (rfd N k0 first nights) Sh V) := by
  refine gM_at (L0 := [(2, b), (0, k0), (0, first), (0, nights), (9, 0)]) rfl rfl rfl ?_
  intro p e s m args below meth c hC hr hex hnm hz
  have hrin := rfs_in N k0 first nights h2 h4
  refine gB hC _ _ _ _ _ _ _ qX12_refused_0 rfl ?_
  refine g_cV1i hC dX12_refused_4 mX12_77 vX12_refusing (kX12_refusing hm hI (by omega) (by omega) (by omega) (by omega) (by omega)) rfl hm.1.1 (by decide) rfl (Nat.le_of_ble_eq_true rfl) (RR rfl rfl rfl rfl) (fun z i4 => ?_)
  refine gB hC _ _ _ _ _ _ _ qX12_refused_7 rfl ?_
  refine g_icmp_eq hC 20 dX12_refused_12 rfl (by first | omega | exact bI_in _) (by first | omega | exact bI_in _) (fun c12 => ?_) (fun c12 => ?_)
  · refine gB hC _ _ _ _ _ _ _ qX12_refused_20 rfl ?_
    refine g_cV1i hC dX12_refused_23 mX12_81 vX12_leastNights (kX12_leastNights hm hI (by omega) (by omega)) rfl hm.1.1 (by decide) rfl (Nat.le_of_ble_eq_true rfl) (RR rfl rfl rfl rfl) (fun z i23 => ?_)
    refine g_icmp_ge hC 33 dX12_refused_26 rfl (by first | omega | exact bI_in _) (by first | omega | exact bI_in _) (fun c26 => ?_) (fun c26 => ?_)
    · refine gB hC _ _ _ _ _ _ _ qX12_refused_33 rfl ?_
      refine g_ireturn hC dX12_refused_34 hr ⟨?_, rfl, rfl, by unfold rfd; (repeat' split) <;> omega⟩ gs_rfl ⟨Nat.le_of_ble_eq_true rfl, Nat.le_of_ble_eq_true rfl⟩
      unfold rfd
      first | (rw [if_pos (by omega)]; done) | (rw [if_neg (by omega), if_pos (by omega)]; done) | (rw [if_neg (by omega), if_neg (by omega)]; done)
    · refine gB hC _ _ _ _ _ _ _ qX12_refused_29 rfl ?_
      refine g_ireturn hC dX12_refused_34 hr ⟨?_, rfl, rfl, by unfold rfd; (repeat' split) <;> omega⟩ gs_rfl ⟨Nat.le_of_ble_eq_true rfl, Nat.le_of_ble_eq_true rfl⟩
      unfold rfd
      first | (rw [if_pos (by omega)]; done) | (rw [if_neg (by omega), if_pos (by omega)]; done) | (rw [if_neg (by omega), if_neg (by omega)]; done)
  · refine gB hC _ _ _ _ _ _ _ qX12_refused_15 rfl ?_
    refine g_ireturn hC dX12_refused_34 hr ⟨?_, rfl, rfl, by unfold rfd; (repeat' split) <;> omega⟩ gs_rfl ⟨Nat.le_of_ble_eq_true rfl, Nat.le_of_ble_eq_true rfl⟩
    unfold rfd
    first | (rw [if_pos (by omega)]; done) | (rw [if_neg (by omega), if_pos (by omega)]; done) | (rw [if_neg (by omega), if_neg (by omega)]; done)

theorem kX12_nightPrice {E l Sh V z} {b : Int} {N : gN0} {k0 d : Int} (hm : gMd b N Sh V) (hI : InvC N) (h0 : 0 ≤ k0) (h1 : k0 < N 1) (h2 : 0 ≤ d) (h3 : d ≤ 36524) : gM E l yX12_nightPrice (.code yX12_nightPrice cX12_nightPrice 5 (some .int)) (rmk 4 0 0 90) [(2, b), (0, k0), (0, d)] Sh V z (gRi (nPr N k0 d) Sh V) := by
  refine gM_at (L0 := [(2, b), (0, k0), (0, d), (9, 0), (9, 0)]) rfl rfl rfl ?_
  intro p e s m args below meth c hC hr hex hnm hz
  have hsc := hI.1
  unfold iScal at hsc
  have hk := hI.2.1 k0 h0 h1
  unfold kOk at hk
  have hcn := cnt_in hI k0 d
  have hdv := div_in (a := 4 * cnt N k0 d) (b := kF N k0 0) (A := 240) (by omega) (by omega) (by omega)
  have hnp := nPr_in hI h0 h1 d
  refine gB hC _ _ _ _ _ _ _ qX12_nightPrice_0 rfl ?_
  refine g_cV1i hC dX12_nightPrice_8 mX12_60 vX12_counts (kX12_counts hm hI (by omega) (by omega)) rfl hm.1.1 (by decide) rfl (Nat.le_of_ble_eq_true rfl) (RR rfl rfl rfl rfl) (fun z i8 => ?_)
  refine gB hC _ _ _ _ _ _ _ qX12_nightPrice_11 rfl ?_
  refine g_cV1i hC dX12_nightPrice_15 mX12_63 vX12_ofKind (kX12_ofKind hm (by omega) (by omega)) rfl hm.1.1 (by decide) rfl (Nat.le_of_ble_eq_true rfl) (RR rfl rfl rfl rfl) (fun z i15 => ?_)
  refine g_idiv hC dX12_nightPrice_18 (by first | omega | exact bI_in _) (by first | omega | exact bI_in _) (by omega) (by omega) ?_
  refine gB hC _ _ _ _ _ _ _ qX12_nightPrice_19 rfl ?_
  refine g_loop (fun x : Int × Nat => x.1 = pctT N (dateZ d % 10000) (100 + 10 * (4 * cnt N k0 d / kF N k0 0)) x.2 ∧ (x.2 : Int) ≤ N 2) (fun x => (N 2 - x.2).toNat) 25 (fun x => [(2, b), (0, k0), (0, d), (0, x.1), (0, (x.2 : Int))]) (fun _ => V) (_, 0) ⟨rfl, by show (0 : Int) ≤ N 2; omega⟩ ?_
  rintro ⟨pc9, t⟩ z ⟨hl, ht⟩ ih
  dsimp only at hl ht ih ⊢
  have hli := pctT_in hI.2.2.1 (dateZ d % 10000) (100 + 10 * (4 * cnt N k0 d / kF N k0 0)) t ht
  refine gB hC _ _ _ _ _ _ _ qX12_nightPrice_25 rfl ?_
  refine g_getr hC dX12_nightPrice_28 fX12_9 hm.1.1 (by decide) rfl 0 rfl hm.2.1.1 ?_
  refine gB hC _ _ _ _ _ _ _ qX12_nightPrice_31 rfl ?_
  refine g_iald hC dX12_nightPrice_32 hm.1.2.1 (gMd_at hm _) (by omega) (by omega) (by decide) (fun i32 => ?_)
  refine g_icmp_ge hC 73 dX12_nightPrice_33 rfl (by first | omega | exact bI_in _) (by first | omega | exact bI_in _) (fun c33 => ?_) (fun c33 => ?_)
  · have hte : t = (N 2).toNat := by omega
    have hpc : pct N k0 d = pc9 + (if wdZ d = 5 ∨ wdZ d = 6 then N 3 else 0) := by unfold pct; rw [hl, hte]
    refine gB hC _ _ _ _ _ _ _ qX12_nightPrice_73 rfl ?_
    refine g_cS1i hC dX12_nightPrice_74 mX12_84 sX12_weekday (kX12_weekday (by omega) (by omega)) rfl rfl (Nat.le_of_ble_eq_true rfl) (RR rfl rfl rfl rfl) (fun z i74 => ?_)
    refine gB hC _ _ _ _ _ _ _ qX12_nightPrice_77 rfl ?_
    refine g_icmp_eq hC 90 dX12_nightPrice_78 rfl (by first | omega | exact bI_in _) (by first | omega | exact bI_in _) (fun c78 => ?_) (fun c78 => ?_)
    · rw [if_pos (Or.inl c78)] at hpc
      refine gB hC _ _ _ _ _ _ _ qX12_nightPrice_90 rfl ?_
      refine g_getr hC dX12_nightPrice_92 fX12_9 hm.1.1 (by decide) rfl 0 rfl hm.2.1.1 ?_
      refine gB hC _ _ _ _ _ _ _ qX12_nightPrice_95 rfl ?_
      refine g_iald hC dX12_nightPrice_96 hm.1.2.1 (gMd_at hm _) (by omega) (by omega) (by decide) (fun i96 => ?_)
      refine gB hC _ _ _ _ _ _ _ qX12_nightPrice_97 rfl ?_
      refine gB hC _ _ _ _ _ _ _ qX12_nightPrice_99 rfl ?_
      refine g_if_ge hC 107 dX12_nightPrice_100 rfl (by first | omega | exact bI_in _) (fun c100 => ?_) (fun c100 => ?_)
      · rw [← hpc] at c100 ⊢
        have hpi := pct_in hI h0 h1 d
        have hml := mul_in (a := kF N k0 1) (b := pct N k0 d) (A := 100000) (B := 3100) (by omega) (by omega) (by omega) (by omega)
        refine gB hC _ _ _ _ _ _ _ qX12_nightPrice_107 rfl ?_
        refine g_cV1i hC dX12_nightPrice_110 mX12_63 vX12_ofKind (kX12_ofKind hm (by omega) (by omega)) rfl hm.1.1 (by decide) rfl (Nat.le_of_ble_eq_true rfl) (RR rfl rfl rfl rfl) (fun z i110 => ?_)
        refine gB hC _ _ _ _ _ _ _ qX12_nightPrice_113 rfl ?_
        refine g_idiv hC dX12_nightPrice_120 (by first | omega | exact bI_in _) (by first | omega | exact bI_in _) (by omega) (by omega) ?_
        refine g_ireturn hC dX12_nightPrice_121 hr ⟨?_, rfl, rfl, by omega⟩ gs_rfl ⟨Nat.le_of_ble_eq_true rfl, Nat.le_of_ble_eq_true rfl⟩
        unfold nPr
        first | (rw [if_pos (by omega)]; done) | (rw [if_neg (by omega)]; done)
      · refine gB hC _ _ _ _ _ _ _ qX12_nightPrice_103 rfl ?_
        refine g_ireturn hC dX12_nightPrice_121 hr ⟨?_, rfl, rfl, by omega⟩ gs_rfl ⟨Nat.le_of_ble_eq_true rfl, Nat.le_of_ble_eq_true rfl⟩
        unfold nPr
        first | (rw [if_pos (by omega)]; done) | (rw [if_neg (by omega)]; done)
    · refine gB hC _ _ _ _ _ _ _ qX12_nightPrice_81 rfl ?_
      refine g_cS1i hC dX12_nightPrice_82 mX12_84 sX12_weekday (kX12_weekday (by omega) (by omega)) rfl rfl (Nat.le_of_ble_eq_true rfl) (RR rfl rfl rfl rfl) (fun z i82 => ?_)
      refine gB hC _ _ _ _ _ _ _ qX12_nightPrice_85 rfl ?_
      refine g_icmp_ne hC 99 dX12_nightPrice_87 rfl (by first | omega | exact bI_in _) (by first | omega | exact bI_in _) (fun c87 => ?_) (fun c87 => ?_)
      · rw [if_neg (by omega), Int.add_zero] at hpc
        refine gB hC _ _ _ _ _ _ _ qX12_nightPrice_99 rfl ?_
        refine g_if_ge hC 107 dX12_nightPrice_100 rfl (by first | omega | exact bI_in _) (fun c100 => ?_) (fun c100 => ?_)
        · rw [← hpc] at c100 ⊢
          have hpi := pct_in hI h0 h1 d
          have hml := mul_in (a := kF N k0 1) (b := pct N k0 d) (A := 100000) (B := 3100) (by omega) (by omega) (by omega) (by omega)
          refine gB hC _ _ _ _ _ _ _ qX12_nightPrice_107 rfl ?_
          refine g_cV1i hC dX12_nightPrice_110 mX12_63 vX12_ofKind (kX12_ofKind hm (by omega) (by omega)) rfl hm.1.1 (by decide) rfl (Nat.le_of_ble_eq_true rfl) (RR rfl rfl rfl rfl) (fun z i110 => ?_)
          refine gB hC _ _ _ _ _ _ _ qX12_nightPrice_113 rfl ?_
          refine g_idiv hC dX12_nightPrice_120 (by first | omega | exact bI_in _) (by first | omega | exact bI_in _) (by omega) (by omega) ?_
          refine g_ireturn hC dX12_nightPrice_121 hr ⟨?_, rfl, rfl, by omega⟩ gs_rfl ⟨Nat.le_of_ble_eq_true rfl, Nat.le_of_ble_eq_true rfl⟩
          unfold nPr
          first | (rw [if_pos (by omega)]; done) | (rw [if_neg (by omega)]; done)
        · refine gB hC _ _ _ _ _ _ _ qX12_nightPrice_103 rfl ?_
          refine g_ireturn hC dX12_nightPrice_121 hr ⟨?_, rfl, rfl, by omega⟩ gs_rfl ⟨Nat.le_of_ble_eq_true rfl, Nat.le_of_ble_eq_true rfl⟩
          unfold nPr
          first | (rw [if_pos (by omega)]; done) | (rw [if_neg (by omega)]; done)
      · rw [if_pos (Or.inr (by omega))] at hpc
        refine gB hC _ _ _ _ _ _ _ qX12_nightPrice_90 rfl ?_
        refine g_getr hC dX12_nightPrice_92 fX12_9 hm.1.1 (by decide) rfl 0 rfl hm.2.1.1 ?_
        refine gB hC _ _ _ _ _ _ _ qX12_nightPrice_95 rfl ?_
        refine g_iald hC dX12_nightPrice_96 hm.1.2.1 (gMd_at hm _) (by omega) (by omega) (by decide) (fun i96 => ?_)
        refine gB hC _ _ _ _ _ _ _ qX12_nightPrice_97 rfl ?_
        refine gB hC _ _ _ _ _ _ _ qX12_nightPrice_99 rfl ?_
        refine g_if_ge hC 107 dX12_nightPrice_100 rfl (by first | omega | exact bI_in _) (fun c100 => ?_) (fun c100 => ?_)
        · rw [← hpc] at c100 ⊢
          have hpi := pct_in hI h0 h1 d
          have hml := mul_in (a := kF N k0 1) (b := pct N k0 d) (A := 100000) (B := 3100) (by omega) (by omega) (by omega) (by omega)
          refine gB hC _ _ _ _ _ _ _ qX12_nightPrice_107 rfl ?_
          refine g_cV1i hC dX12_nightPrice_110 mX12_63 vX12_ofKind (kX12_ofKind hm (by omega) (by omega)) rfl hm.1.1 (by decide) rfl (Nat.le_of_ble_eq_true rfl) (RR rfl rfl rfl rfl) (fun z i110 => ?_)
          refine gB hC _ _ _ _ _ _ _ qX12_nightPrice_113 rfl ?_
          refine g_idiv hC dX12_nightPrice_120 (by first | omega | exact bI_in _) (by first | omega | exact bI_in _) (by omega) (by omega) ?_
          refine g_ireturn hC dX12_nightPrice_121 hr ⟨?_, rfl, rfl, by omega⟩ gs_rfl ⟨Nat.le_of_ble_eq_true rfl, Nat.le_of_ble_eq_true rfl⟩
          unfold nPr
          first | (rw [if_pos (by omega)]; done) | (rw [if_neg (by omega)]; done)
        · refine gB hC _ _ _ _ _ _ _ qX12_nightPrice_103 rfl ?_
          refine g_ireturn hC dX12_nightPrice_121 hr ⟨?_, rfl, rfl, by omega⟩ gs_rfl ⟨Nat.le_of_ble_eq_true rfl, Nat.le_of_ble_eq_true rfl⟩
          unfold nPr
          first | (rw [if_pos (by omega)]; done) | (rw [if_neg (by omega)]; done)
  · refine gB hC _ _ _ _ _ _ _ qX12_nightPrice_36 rfl ?_
    refine g_cV1 hC dX12_nightPrice_41 mX12_69 vX12_isInSeason (kX12_isInSeason hm (by omega) (by omega) (by omega) (by omega)) rfl hm.1.1 (by decide) rfl (Nat.le_of_ble_eq_true rfl) (RR rfl rfl rfl rfl) (fun z => ?_)
    refine g_if_eq hC 64 dX12_nightPrice_44 rfl (by first | omega | exact bI_in _) (fun c44 => ?_) (fun c44 => ?_)
    · have c44 := bI_0.mp c44
      refine gB hC _ _ _ _ _ _ _ qX12_nightPrice_64 rfl ?_
      refine gB hC _ _ _ _ _ _ _ qX12_nightPrice_65 rfl ?_
      refine ih (_, t + 1) _ ⟨?_, by show ((t + 1 : Nat) : Int) ≤ N 2; omega⟩ (by show (N 2 - ((t + 1 : Nat) : Int)).toNat < (N 2 - t).toNat; omega)
      rw [hl]
      first | (rw [pctT, if_pos c44]; rfl) | (rw [pctT, if_neg c44])
    · have c44 := bI_n0.mp c44
      refine gB hC _ _ _ _ _ _ _ qX12_nightPrice_47 rfl ?_
      refine g_getr hC dX12_nightPrice_48 fX12_9 hm.1.1 (by decide) rfl 0 rfl hm.2.1.1 ?_
      refine gB hC _ _ _ _ _ _ _ qX12_nightPrice_51 rfl ?_
      refine g_iald hC dX12_nightPrice_60 hm.1.2.1 (gMd_at hm _) (by omega) (by omega) (by decide) (fun i60 => ?_)
      refine gB hC _ _ _ _ _ _ _ qX12_nightPrice_61 rfl ?_
      refine gB hC _ _ _ _ _ _ _ qX12_nightPrice_65 rfl ?_
      refine ih (_, t + 1) _ ⟨?_, by show ((t + 1 : Nat) : Int) ≤ N 2; omega⟩ (by show (N 2 - ((t + 1 : Nat) : Int)).toNat < (N 2 - t).toNat; omega)
      rw [hl]
      first | (rw [pctT, if_pos c44]; rfl) | (rw [pctT, if_neg c44])

theorem kX12_price {E l Sh V z} {b : Int} {N : gN0} {s0 : Int} (hm : gMd b N Sh V) (hs : sOk N s0) (h0 : 0 ≤ s0) (h1 : s0 < 60) : gM E l yX12_price (.code yX12_price cX12_price 4 (some .int)) (rmk 1 0 0 22) [(2, b), (0, s0)] Sh V z (gRi (sPr N s0) Sh V) := by
  refine gM_at (L0 := [(2, b), (0, s0), (9, 0), (9, 0)]) rfl rfl rfl ?_
  intro p e s m args below meth c hC hr hex hnm hz
  have hs1 := hs.1
  have hpi := sPr_in hs
  refine gB hC _ _ _ _ _ _ _ qX12_price_0 rfl ?_
  refine g_loop (fun x : Int × Nat => x.1 = prT N s0 x.2 ∧ (x.2 : Int) ≤ sF N s0 3) (fun x => (sF N s0 3 - x.2).toNat) 4 (fun x => [(2, b), (0, s0), (0, x.1), (0, (x.2 : Int))]) (fun _ => V) (0, 0) ⟨rfl, by show (0 : Int) ≤ sF N s0 3; omega⟩ ?_
  rintro ⟨sum, t⟩ z ⟨hl, ht⟩ ih
  dsimp only at hl ht ih ⊢
  have hli := prT_in hs t ht
  refine gB hC _ _ _ _ _ _ _ qX12_price_4 rfl ?_
  refine g_cV1i hC dX12_price_8 mX12_43 vX12_of (kX12_of hm (by omega) (by omega)) rfl hm.1.1 (by decide) rfl (Nat.le_of_ble_eq_true rfl) (RR rfl rfl rfl rfl) (fun z i8 => ?_)
  refine g_icmp_ge hC 32 dX12_price_11 rfl (by first | omega | exact bI_in _) (by first | omega | exact bI_in _) (fun c11 => ?_) (fun c11 => ?_)
  · refine gB hC _ _ _ _ _ _ _ qX12_price_32 rfl ?_
    refine g_ireturn hC dX12_price_33 hr ⟨?_, rfl, rfl, by omega⟩ gs_rfl ⟨Nat.le_of_ble_eq_true rfl, Nat.le_of_ble_eq_true rfl⟩
    have : t = (sF N s0 3).toNat := by omega
    subst this
    rw [hl]; rfl
  · refine gB hC _ _ _ _ _ _ _ qX12_price_14 rfl ?_
    refine g_cV1i hC dX12_price_21 mX12_43 vX12_of (kX12_of hm (by omega) (by omega)) rfl hm.1.1 (by decide) rfl (Nat.le_of_ble_eq_true rfl) (RR rfl rfl rfl rfl) (fun z i21 => ?_)
    refine gB hC _ _ _ _ _ _ _ qX12_price_24 rfl ?_
    refine ih (_, t + 1) _ ⟨?_, by show ((t + 1 : Nat) : Int) ≤ sF N s0 3; omega⟩ (by show (sF N s0 3 - ((t + 1 : Nat) : Int)).toNat < (sF N s0 3 - t).toNat; omega)
    rw [hl]; rfl

theorem kX12_tax {E l Sh V z} {b : Int} {N : gN0} {s0 : Int} (hm : gMd b N Sh V) (hs : sOk N s0) (h0 : 0 ≤ s0) (h1 : s0 < 60) : gM E l yX12_tax (.code yX12_tax cX12_tax 2 (some .int)) (rmk 1 0 0 22) [(2, b), (0, s0)] Sh V z (gRi (sTx N s0) Sh V) := by
  refine gM_at (L0 := [(2, b), (0, s0)]) rfl rfl rfl ?_
  intro p e s m args below meth c hC hr hex hnm hz
  have hs1 := hs.1
  have hti := sTx_in hs
  refine gB hC _ _ _ _ _ _ _ qX12_tax_0 rfl ?_
  refine g_cV1i hC dX12_tax_3 mX12_43 vX12_of (kX12_of hm (by omega) (by omega)) rfl hm.1.1 (by decide) rfl (Nat.le_of_ble_eq_true rfl) (RR rfl rfl rfl rfl) (fun z i3 => ?_)
  refine gB hC _ _ _ _ _ _ _ qX12_tax_6 rfl ?_
  refine g_cV1i hC dX12_tax_9 mX12_43 vX12_of (kX12_of hm (by omega) (by omega)) rfl hm.1.1 (by decide) rfl (Nat.le_of_ble_eq_true rfl) (RR rfl rfl rfl rfl) (fun z i9 => ?_)
  refine gB hC _ _ _ _ _ _ _ qX12_tax_12 rfl ?_
  refine g_cV1i hC dX12_tax_16 mX12_43 vX12_of (kX12_of hm (by omega) (by omega)) rfl hm.1.1 (by decide) rfl (Nat.le_of_ble_eq_true rfl) (RR rfl rfl rfl rfl) (fun z i16 => ?_)
  refine gB hC _ _ _ _ _ _ _ qX12_tax_19 rfl ?_
  refine g_cV1i hC dX12_tax_23 mX12_43 vX12_of (kX12_of hm (by omega) (by omega)) rfl hm.1.1 (by decide) rfl (Nat.le_of_ble_eq_true rfl) (RR rfl rfl rfl rfl) (fun z i23 => ?_)
  refine gB hC _ _ _ _ _ _ _ qX12_tax_26 rfl ?_
  refine g_cV1i hC dX12_tax_30 mX12_43 vX12_of (kX12_of hm (by omega) (by omega)) rfl hm.1.1 (by decide) rfl (Nat.le_of_ble_eq_true rfl) (RR rfl rfl rfl rfl) (fun z i30 => ?_)
  refine gB hC _ _ _ _ _ _ _ qX12_tax_33 rfl ?_
  refine g_idiv hC dX12_tax_36 (by first | omega | exact bI_in _) (by first | omega | exact bI_in _) (by omega) (by omega) ?_
  refine gB hC _ _ _ _ _ _ _ qX12_tax_37 rfl ?_
  refine g_ireturn hC dX12_tax_40 hr ⟨rfl, rfl, rfl, by omega⟩ gs_rfl ⟨Nat.le_of_ble_eq_true rfl, Nat.le_of_ble_eq_true rfl⟩

theorem kX12_lays {E l Sh V z} {b : Int} {N : gN0} {s0 w v : Int} (hm : gMd b N Sh V) (h0 : 0 ≤ 56 + s0 * 24 + w) (h1 : 56 + s0 * 24 + w < 5022) (h2 : inI v) : gM E l yX12_lays (.code yX12_lays cX12_lays 4 none) (rmk 0 0 0 0) [(2, b), (0, s0), (0, w), (0, v)] Sh V z (gR none Sh (wrN V b (upN N (56 + s0 * 24 + w) v))) := by
  refine gM_at (L0 := [(2, b), (0, s0), (0, w), (0, v)]) rfl rfl rfl ?_
  intro p e s m args below meth c hC hr hex hnm hz
  have hw := gMw_in hm
  refine gB hC _ _ _ _ _ _ _ qX12_lays_0 rfl ?_
  refine g_getr hC dX12_lays_1 fX12_9 hm.1.1 (by decide) rfl 0 rfl hm.2.1.1 ?_
  refine gB hC _ _ _ _ _ _ _ qX12_lays_4 rfl ?_
  refine g_ast hC dX12_lays_14 hm.1.2.1 (by omega) (by omega) (by decide) (by first | omega | exact bI_in _) (fun V14 e14 => ?_)
  have hw14 := gMw_up hw e14
  refine g_return hC dX12_lays_15 hr ⟨rfl, rfl, hw14.2⟩ gs_rfl ⟨Nat.le_of_ble_eq_true rfl, Nat.le_of_ble_eq_true rfl⟩

/-- an amount from a book to another -/
def mvN (N : gN0) (f t a : Int) : gN0 := upN (upN N (9 + f) (N (9 + f) - a)) (9 + t) (upN N (9 + f) (N (9 + f) - a) (9 + t) + a)

theorem kX12_moves {E l Sh V z} {b : Int} {N : gN0} {f t a : Int} (hm : gMd b N Sh V) (h0 : 0 ≤ f) (h1 : f ≤ 3) (h2 : 0 ≤ t) (h3 : t ≤ 3) (h4 : inI (N (9 + f) - a)) (h5 : inI (upN N (9 + f) (N (9 + f) - a) (9 + t) + a)) : gM E l yX12_moves (.code yX12_moves cX12_moves 4 none) (rmk 0 0 0 0) [(2, b), (0, f), (0, t), (0, a)] Sh V z (gR none Sh (wrN V b (mvN N f t a))) := by
  refine gM_at (L0 := [(2, b), (0, f), (0, t), (0, a)]) rfl rfl rfl ?_
  intro p e s m args below meth c hC hr hex hnm hz
  have hw := gMw_in hm
  refine gB hC _ _ _ _ _ _ _ qX12_moves_0 rfl ?_
  refine g_getr hC dX12_moves_1 fX12_9 hm.1.1 (by decide) rfl 0 rfl hm.2.1.1 ?_
  refine gB hC _ _ _ _ _ _ _ qX12_moves_4 rfl ?_
  refine g_iald hC dX12_moves_9 hm.1.2.1 (gMd_at hm _) (by omega) (by omega) (by decide) (fun i9 => ?_)
  refine gB hC _ _ _ _ _ _ _ qX12_moves_10 rfl ?_
  refine g_ast hC dX12_moves_12 hm.1.2.1 (by omega) (by omega) (by decide) (by first | omega | exact bI_in _) (fun V12 e12 => ?_)
  have hw12 := gMw_up hw e12
  refine gB hC _ _ _ _ _ _ _ qX12_moves_13 rfl ?_
  refine g_getr hC dX12_moves_14 fX12_9 hw12.1.1.1 (by decide) rfl 0 rfl hw12.1.2.1.1 ?_
  refine gB hC _ _ _ _ _ _ _ qX12_moves_17 rfl ?_
  refine g_iald hC dX12_moves_22 hw12.1.1.2.1 (gMd_at hw12.1 _) (by omega) (by omega) (by decide) (fun i22 => ?_)
  refine gB hC _ _ _ _ _ _ _ qX12_moves_23 rfl ?_
  refine g_ast hC dX12_moves_25 hw12.1.1.2.1 (by omega) (by omega) (by decide) (by first | omega | exact bI_in _) (fun V25 e25 => ?_)
  have hw25 := gMw_up hw12 e25
  refine g_return hC dX12_moves_26 hr ⟨rfl, rfl, hw25.2⟩ gs_rfl ⟨Nat.le_of_ble_eq_true rfl, Nat.le_of_ble_eq_true rfl⟩
