/-! the class: what is awaited (rows laid by wip/whole/n61.py) -/
theorem kX4_oddsTogether {E l Sh V z} {h9 : Int} {N : gN0} (hm : RH h9 N Sh V) (ho : oOk N) : gM E l yX4_oddsTogether (.code yX4_oddsTogether cX4_oddsTogether 3 (some .int)) (rmk 0 0 0 0) [(2, h9 + 127)] Sh V z (gRi (1000 - rsT N 4) Sh V) := by
  refine gM_at (L0 := [(2, h9 + 127), (9, 0), (9, 0)]) rfl rfl rfl ?_
  intro p e s m args below meth c hC hr hex hnm hz
  have ho1 := ho.1
  have ho2 := ho.2.1
  have ho3 := ho.2.2.1
  have ho4 := ho.2.2.2
  have hr4 := rsT_in ho 4 (by decide)
  refine gB hC _ _ _ _ _ _ _ qX4_oddsTogether_0 rfl ?_
  refine g_loop (fun x : Int × Nat => x.1 = 1000 - rsT N x.2 ∧ x.2 ≤ 4) (fun x => 4 - x.2) 4 (fun x => [(2, h9 + 127), (0, x.1), (0, (x.2 : Int))]) (fun _ => V) (0, 0) ⟨rfl, by decide⟩ ?_
  rintro ⟨sum, t⟩ z ⟨hs9, ht⟩ ih
  dsimp only at hs9 ht ih ⊢
  have hrs := rsT_in ho t ht
  refine gB hC _ _ _ _ _ _ _ qX4_oddsTogether_4 rfl ?_
  refine g_icmp_ge hC 24 dX4_oddsTogether_6 rfl (by first | omega | exact cmpZ_in _ _ | exact bI_in _) (by first | omega | exact cmpZ_in _ _ | exact bI_in _) (fun c6 => ?_) (fun c6 => ?_)
  · refine gB hC _ _ _ _ _ _ _ qX4_oddsTogether_24 rfl ?_
    refine g_ireturn hC dX4_oddsTogether_25 hr ⟨?_, rfl, rfl, by omega⟩ gs_rfl ⟨Nat.le_of_ble_eq_true rfl, Nat.le_of_ble_eq_true rfl⟩
    have e9 : t = 4 := by omega
    subst e9
    rw [hs9]
  · refine gB hC _ _ _ _ _ _ _ qX4_oddsTogether_9 rfl ?_
    refine g_getr hC dX4_oddsTogether_11 fX4_15 hm.1.sM (by decide) rfl 1 rfl hm.2.1.pO ?_
    refine gB hC _ _ _ _ _ _ _ qX4_oddsTogether_14 rfl ?_
    refine g_iald hC dX4_oddsTogether_15 hm.1.sO (hm.mo (by omega) (by omega)) (by omega) (by omega) (by decide) (fun i15 => ?_)
    refine gB hC _ _ _ _ _ _ _ qX4_oddsTogether_16 rfl ?_
    refine ih (_, t + 1) _ ⟨?_, by show t + 1 ≤ 4; omega⟩ (by show 4 - (t + 1) < 4 - t; omega)
    rw [hs9, rsT]; omega

theorem kX4_withOneDayMore {E l Sh V z} {h9 : Int} {N : gN0} {d9 r9 : Nat} (hm : RH h9 N Sh V) (ho : oOk N) (h1 : d9 < 4) : gM E l yX4_withOneDayMore (.code yX4_withOneDayMore cX4_withOneDayMore 10 (some .long)) (rmk 1 0 0 40) [(2, h9 + 127), (1, incZ N d9 (r9 + 1)), (1, incZ N d9 r9), (1, pw d9)] Sh V z (gRl (incZ N (d9 + 1) (r9 + 1)) Sh V) := by
  refine gM_at (L0 := [(2, h9 + 127), (1, incZ N d9 (r9 + 1)), (9, 0), (1, incZ N d9 r9), (9, 0), (1, pw d9), (9, 0), (9, 0), (9, 0), (9, 0)]) rfl rfl rfl ?_
  intro p e s m args below meth c hC hr hex hnm hz
  have ho1 := ho.1
  have ho2 := ho.2.1
  have ho3 := ho.2.2.1
  have ho4 := ho.2.2.2
  have hrs := rsT_in ho 4 (by decide)
  have hia := incZ_in ho d9 (r9 + 1) (by omega)
  have hib := incZ_in ho d9 r9 (by omega)
  have hmx := mxI_in (d := d9) (by omega)
  have hpw := pw_in (d := d9) (by omega)
  have hs2 := inc_st2 ho r9 h1 (n := 0) (by decide)
  have hid := incZ_in ho (d9 + 1) (r9 + 1) (by omega)
  have hmx2 := mxI_in (d := d9 + 1) (by omega)
  refine gB hC _ _ _ _ _ _ _ qX4_withOneDayMore_0 rfl ?_
  refine g_cV1i hC dX4_withOneDayMore_4 mX4_30 vX4_oddsTogether (kX4_oddsTogether hm ho) rfl hm.1.sM (by decide) rfl (Nat.le_of_ble_eq_true rfl) (RR rfl rfl rfl rfl) (fun z i4 => ?_)
  refine gB hC _ _ _ _ _ _ _ qX4_withOneDayMore_7 rfl ?_
  refine g_i2l hC dX4_withOneDayMore_8 (by first | omega | exact cmpZ_in _ _ | exact bI_in _) ?_
  refine gB hC _ _ _ _ _ _ _ qX4_withOneDayMore_9 rfl ?_
  refine g_loop (fun x : Int × Nat => x.1 = rsT N 4 * incZ N d9 (r9 + 1) + inS N (incZ N d9 (r9 + 1)) (incZ N d9 r9) (pw d9) x.2 ∧ x.2 ≤ 4) (fun x => 4 - x.2) 16 (fun x => [(2, h9 + 127), (1, incZ N d9 (r9 + 1)), (9, 0), (1, incZ N d9 r9), (9, 0), (1, pw d9), (9, 0), (1, x.1), (9, 0), (0, (x.2 : Int))]) (fun _ => V) (_, 0) ⟨?_, by show (0 : Nat) ≤ 4; decide⟩ ?_
  · show _ = rsT N 4 * incZ N d9 (r9 + 1) + 0
    rw [Int.add_zero, show 1000 - (1000 - rsT N 4) = rsT N 4 by omega]
  rintro ⟨sum, t⟩ z ⟨hs9, ht⟩ ih
  dsimp only at hs9 ht ih ⊢
  have hst := inc_st2 ho r9 h1 ht
  refine gB hC _ _ _ _ _ _ _ qX4_withOneDayMore_16 rfl ?_
  refine g_icmp_ge hC 59 dX4_withOneDayMore_19 rfl (by first | omega | exact cmpZ_in _ _ | exact bI_in _) (by first | omega | exact cmpZ_in _ _ | exact bI_in _) (fun c19 => ?_) (fun c19 => ?_)
  · refine gB hC _ _ _ _ _ _ _ qX4_withOneDayMore_59 rfl ?_
    refine g_lreturn hC dX4_withOneDayMore_61 hr ⟨?_, rfl, rfl, ?_⟩ gs_rfl ⟨Nat.le_of_ble_eq_true rfl, Nat.le_of_ble_eq_true rfl⟩
    all_goals (have e9 : t = 4 := by omega)
    all_goals subst e9
    · rw [hs9]; rfl
    · exact ⟨by omega, by omega⟩
  · have htl : t < 4 := by omega
    have hod := od_in ho htl
    have hmm := inc_mx ho r9 h1 htl
    refine gB hC _ _ _ _ _ _ _ qX4_withOneDayMore_22 rfl ?_
    refine g_getr hC dX4_withOneDayMore_25 fX4_15 hm.1.sM (by decide) rfl 1 rfl hm.2.1.pO ?_
    refine gB hC _ _ _ _ _ _ _ qX4_withOneDayMore_28 rfl ?_
    refine g_iald hC dX4_withOneDayMore_30 hm.1.sO (hm.mo (by omega) (by omega)) (by omega) (by omega) (by decide) (fun i30 => ?_)
    refine g_i2l hC dX4_withOneDayMore_31 (by first | omega | exact cmpZ_in _ _ | exact bI_in _) ?_
    refine gB hC _ _ _ _ _ _ _ qX4_withOneDayMore_32 rfl ?_
    refine g_getr hC dX4_withOneDayMore_34 fX4_9 hm.1.sM (by decide) rfl 0 rfl hm.2.1.pP ?_
    refine gB hC _ _ _ _ _ _ _ qX4_withOneDayMore_37 rfl ?_
    refine g_iald hC dX4_withOneDayMore_39 hm.1.sP (hm.mp (by omega) (by omega)) (by omega) (by omega) (by decide) (fun i39 => ?_)
    refine g_i2l hC dX4_withOneDayMore_40 (by first | omega | exact cmpZ_in _ _ | exact bI_in _) ?_
    refine gB hC _ _ _ _ _ _ _ qX4_withOneDayMore_41 rfl ?_
    refine g_maxL hC dX4_withOneDayMore_46 mX4_34 (by first | omega | exact cmpZ_in _ _ | exact bI_in _) (by first | omega | exact cmpZ_in _ _ | exact bI_in _) ⟨Nat.le_of_ble_eq_true rfl, Nat.le_of_ble_eq_true rfl, Nat.le_of_ble_eq_true rfl, Nat.le_of_ble_eq_true rfl⟩ ?_
    refine gB hC _ _ _ _ _ _ _ qX4_withOneDayMore_49 rfl ?_
    refine ih (_, t + 1) _ ⟨?_, by show t + 1 ≤ 4; omega⟩ (by show 4 - (t + 1) < 4 - t; omega)
    rw [hs9]
    show _ = rsT N 4 * incZ N d9 (r9 + 1) + (inS N (incZ N d9 (r9 + 1)) (incZ N d9 r9) (pw d9) t + N (13 + t) * max (incZ N d9 (r9 + 1)) (N (17 + t) * pw d9 + incZ N d9 r9))
    omega

/-- a new row of awaited incomes -/
def gRa (N : gN0) (d : Nat) (Sh : gSh) (V : gV) (z : Int) : gPo := fun o Sh' V' _ => o = .inl (some (2, z)) ∧ Sh' = shp Sh z (101, 6) ∧ (∀ r : Nat, r < 6 → V' z r = incZ N d r) ∧ ∀ a, a ≠ z → V' a = V a
theorem incZ_0 (N : gN0) : ∀ d : Nat, incZ N d 0 = 0 := by
  intro d
  cases d <;> rfl
theorem kX4_incomes {E l Sh V zz} {h9 d9 : Int} {N : gN0} (hm : RH h9 N Sh V) (hI0 : INV N) (h0 : 0 ≤ d9) (h1 : d9 ≤ 4) : gM E l yX4_incomes (.code yX4_incomes cX4_incomes 7 (some (.array .long))) (rmk 2 1 6 80) [(2, h9 + 127), (0, d9)] Sh V zz (gRa N d9.toNat Sh V zz) := by
  refine gM_at (L0 := [(2, h9 + 127), (0, d9), (9, 0), (9, 0), (9, 0), (9, 0), (9, 0)]) rfl rfl rfl ?_
  intro p e s m args below meth c hC hr hex hnm hz
  have ho := hI0.2.2
  refine g_lts (fun hlt => ?_)
  have hzl : h9 + 162 ≤ zz := by have := (hlt _ _ (hm.1 161 (by decide) (by decide))).2; omega
  refine gB hC _ _ _ _ _ _ _ qX4_incomes_0 rfl ?_
  refine g_new_longs hC dX4_incomes_2 gArr_long rfl (by decide) ⟨by decide, by decide⟩ (fun hz2 => ?_)
  refine gB hC _ _ _ _ _ _ _ qX4_incomes_4 rfl ?_
  refine g_loop (fun x : gV × Nat × aV => (x.2.1 : Int) ≤ d9 ∧ (∀ r : Nat, r < 6 → x.1 zz r = incZ N x.2.1 r) ∧ ∀ a, a ≠ zz → x.1 a = V a) (fun x => (d9 - x.2.1).toNat) 10 (fun x => [(2, h9 + 127), (0, d9), (2, zz), (1, pw x.2.1), (9, 0), (0, (x.2.1 : Int)), x.2.2]) (fun x => x.1) (vnew V zz (fun _ => 0), 0, (9, 0)) ⟨by show (0 : Int) ≤ d9; omega, fun r _ => by show vnew V zz (fun _ => 0) zz (r : Int) = incZ N 0 r; rw [vn_eq]; cases r <;> rfl, fun a ha => by show vnew V zz (fun _ => 0) a = V a; exact vn_ne _ _ ha⟩ ?_
  rintro ⟨V1, d, a6⟩ z1 ⟨hd, hr1, ho1⟩ ih
  dsimp only at hd hr1 ho1 ih ⊢
  have hpw := pw_in (d := d) (by omega)
  refine gB hC _ _ _ _ _ _ _ qX4_incomes_10 rfl ?_
  refine g_icmp_ge hC 61 dX4_incomes_13 rfl (by first | omega | exact cmpZ_in _ _ | exact bI_in _) (by first | omega | exact cmpZ_in _ _ | exact bI_in _) (fun c13 => ?_) (fun c13 => ?_)
  · have e9 : d = d9.toNat := by omega
    refine gB hC _ _ _ _ _ _ _ qX4_incomes_61 rfl ?_
    refine g_areturn hC dX4_incomes_62 hr (Or.inr ⟨_, rfl⟩) ⟨rfl, rfl, fun r hr => ?_, ho1⟩ gs_rfl ⟨Nat.le_of_ble_eq_true rfl, Nat.le_of_ble_eq_true rfl⟩
    rw [← e9]; exact hr1 r hr
  · have hm1 : RH h9 N (shp Sh zz (101, 6)) V1 := RH_new hm hI0.szO hzl ho1
    refine gB hC _ _ _ _ _ _ _ qX4_incomes_16 rfl ?_
    refine g_loop (fun x : gV × Nat => x.2 ≤ 5 ∧ (∀ r : Nat, r < 6 → x.1 zz r = if x.2 < r then incZ N (d + 1) r else incZ N d r) ∧ ∀ a, a ≠ zz → x.1 a = V a) (fun x => x.2) 19 (fun x => [(2, h9 + 127), (0, d9), (2, zz), (1, pw d), (9, 0), (0, (d : Int)), (0, (x.2 : Int))]) (fun x => x.1) (V1, 5) ⟨Nat.le_refl _, fun r hr => by show V1 zz r = if 5 < r then _ else _; rw [if_neg (by omega)]; exact hr1 r hr, ho1⟩ ?_
    rintro ⟨V2, q⟩ z2 ⟨hq, hr2, ho2⟩ ih2
    dsimp only at hq hr2 ho2 ih2 ⊢
    refine gB hC _ _ _ _ _ _ _ qX4_incomes_19 rfl ?_
    refine g_if_le hC 49 dX4_incomes_21 rfl (by first | omega | exact cmpZ_in _ _ | exact bI_in _) (fun c21 => ?_) (fun c21 => ?_)
    · refine gB hC _ _ _ _ _ _ _ qX4_incomes_49 rfl ?_
      refine g_ldc2 hC 1000 kX4_28 rfl dX4_incomes_50 ?_
      refine gB hC _ _ _ _ _ _ _ qX4_incomes_53 rfl ?_
      refine ih (V2, d + 1, _) _ ⟨by show ((d + 1 : Nat) : Int) ≤ d9; omega, fun r hr => ?_, ho2⟩ (by show (d9 - ((d + 1 : Nat) : Int)).toNat < (d9 - d).toNat; omega)
      have e9 : q = 0 := by omega
      subst e9
      show V2 zz r = incZ N (d + 1) r
      rw [hr2 r hr]
      cases r with
      | zero => rw [incZ_0, if_neg (by omega), incZ_0]
      | succ r => rw [if_pos (by omega)]
    · obtain ⟨q9, rfl⟩ : ∃ q9, q = q9 + 1 := ⟨q - 1, by omega⟩
      have hm2 : RH h9 N (shp Sh zz (101, 6)) V2 := RH_new hm hI0.szO hzl ho2
      have hs42 := inc_st2 ho q9 (d := d) (by omega) (n := 4) (by decide)
      have hia := incZ_in ho (d + 1) (q9 + 1) (by omega)
      have hmx := mxI_in (d := d + 1) (by omega)
      have ew := hr2 (q9 + 1) (by omega)
      rw [if_neg (Nat.lt_irrefl _)] at ew
      have el := hr2 q9 (by omega)
      rw [if_neg (by omega)] at el
      have e8 : ((q9 + 1 : Nat) : Int) - 1 = (q9 : Int) := by omega
      refine gB hC _ _ _ _ _ _ _ qX4_incomes_24 rfl ?_
      refine g_lald hC dX4_incomes_31 (shp_eq _ _ _) ew (by omega) (by omega) (by decide) (fun i31 => ?_)
      refine gB hC _ _ _ _ _ _ _ qX4_incomes_32 rfl ?_
      refine g_lald hC dX4_incomes_37 (shp_eq _ _ _) ((congrArg (V2 zz) e8).trans el) (by omega) (by omega) (by decide) (fun i37 => ?_)
      refine gB hC _ _ _ _ _ _ _ qX4_incomes_38 rfl ?_
      refine g_cV1l hC dX4_incomes_39 mX4_24 vX4_withOneDayMore (kX4_withOneDayMore hm2 ho (d9 := d) (r9 := q9) (by omega)) rfl ((shp_ne _ _ (by omega)).trans hm.1.sM) (by decide) rfl (Nat.le_of_ble_eq_true rfl) (RR rfl rfl rfl rfl) (fun z i39 => ?_)
      refine g_lst hC dX4_incomes_42 (shp_eq _ _ _) (by omega) (by omega) (by decide) (by first | omega | exact cmpZ_in _ _ | exact bI_in _) (fun V42 e42 => ?_)
      refine gB hC _ _ _ _ _ _ _ qX4_incomes_43 rfl ?_
      rw [show ((q9 + 1 : Nat) : Int) + -1 = (q9 : Int) by omega]
      refine ih2 (V42, q9) _ ⟨by show q9 ≤ 5; omega, fun r hr => ?_, fun a ha => ?_⟩ (Nat.lt_succ_self _)
      · show V42 zz r = if q9 < r then _ else _
        rw [e42]
        by_cases hrq : r = q9 + 1
        · subst hrq; rw [up_eq, if_pos (Nat.lt_succ_self _)]
        · rw [up_ne _ _ (Or.inr (by omega)), hr2 r hr]
          by_cases hlt2 : q9 + 1 < r
          · rw [if_pos hlt2, if_pos (by omega)]
          · rw [if_neg hlt2, if_neg (by omega)]
      · show V42 a = V a
        rw [e42, up_row _ _ _ ha]; exact ho2 a ha
theorem kX4_leastToTake {E l Sh V zz} {h9 d9 r9 : Int} {N : gN0} (hm : RH h9 N Sh V) (hI0 : INV N) (h0 : 1 ≤ d9) (h1 : d9 ≤ 4) (h2 : 1 ≤ r9) (h3 : r9 ≤ 4) : gM E l yX4_leastToTake (.code yX4_leastToTake cX4_leastToTake 8 (some .int)) (rmk 3 1 6 110) [(2, h9 + 127), (0, d9), (0, r9)] Sh V zz (gRi (limZ N d9 r9) Sh V) := by
  refine gM_at (L0 := [(2, h9 + 127), (0, d9), (0, r9), (9, 0), (9, 0), (9, 0), (9, 0), (9, 0)]) rfl rfl rfl ?_
  intro p e s m args below meth c hC hr hex hnm hz
  have ho := hI0.2.2
  refine g_lts (fun hlt => ?_)
  have hzl : h9 + 162 ≤ zz := by have := (hlt _ _ (hm.1 161 (by decide) (by decide))).2; omega
  have hia := incZ_in ho (d9 - 1).toNat r9.toNat (by omega)
  have hib := incZ_in ho (d9 - 1).toNat (r9 - 1).toNat (by omega)
  have hmx := mxI_in (d := (d9 - 1).toNat) (by omega)
  have hpw := pw_in (d := (d9 - 1).toNat) (by omega)
  refine gB hC _ _ _ _ _ _ _ qX4_leastToTake_0 rfl ?_
  refine g_icmp_lt hC 15 dX4_leastToTake_2 rfl (by first | omega | exact cmpZ_in _ _ | exact bI_in _) (by first | omega | exact cmpZ_in _ _ | exact bI_in _) (fun c2 => ?_) (fun c2 => ?_)
  · exfalso; omega --stop
  · refine gB hC _ _ _ _ _ _ _ qX4_leastToTake_5 rfl ?_
    refine g_icmp_lt hC 15 dX4_leastToTake_7 rfl (by first | omega | exact cmpZ_in _ _ | exact bI_in _) (by first | omega | exact cmpZ_in _ _ | exact bI_in _) (fun c7 => ?_) (fun c7 => ?_)
    · exfalso; omega --stop
    · refine gB hC _ _ _ _ _ _ _ qX4_leastToTake_10 rfl ?_
      refine g_icmp_le hC 17 dX4_leastToTake_12 rfl (by first | omega | exact cmpZ_in _ _ | exact bI_in _) (by first | omega | exact cmpZ_in _ _ | exact bI_in _) (fun c12 => ?_) (fun c12 => ?_)
      · refine gB hC _ _ _ _ _ _ _ qX4_leastToTake_17 rfl ?_
        refine g_callV hC _ dX4_leastToTake_21 mX4_40 vX4_incomes (kX4_incomes hm hI0 (by omega) (by omega)) rfl hm.1.sM (by decide) rfl (Nat.le_of_ble_eq_true rfl) (RR rfl rfl rfl rfl) (fun r0 S1 V1 z1 h => ?_) (fun X S1 V1 z1 h => nomatch h.1)
        obtain ⟨h4, rfl, h5, h6⟩ := h
        cases h4
        have ea : V1 zz r9 = incZ N (d9 - 1).toNat r9.toNat := by have := h5 r9.toNat (by omega); rwa [show ((r9.toNat : Nat) : Int) = r9 by omega] at this
        have eb : V1 zz (r9 - 1) = incZ N (d9 - 1).toNat (r9 - 1).toNat := by have := h5 (r9 - 1).toNat (by omega); rwa [show (((r9 - 1).toNat : Nat) : Int) = r9 - 1 by omega] at this
        refine gB hC _ _ _ _ _ _ _ qX4_leastToTake_24 rfl ?_
        refine g_lald hC dX4_leastToTake_27 (shp_eq _ _ _) ea (by omega) (by omega) (by decide) (fun i27 => ?_)
        refine gB hC _ _ _ _ _ _ _ qX4_leastToTake_28 rfl ?_
        refine g_lald hC dX4_leastToTake_32 (shp_eq _ _ _) eb (by omega) (by omega) (by decide) (fun i32 => ?_)
        refine gB hC _ _ _ _ _ _ _ qX4_leastToTake_33 rfl ?_
        refine g_ldc2 hC 1000 kX4_28 rfl dX4_leastToTake_36 ?_
        refine gB hC _ _ _ _ _ _ _ qX4_leastToTake_39 rfl ?_
        refine g_cSN1 (host := "HotelNights") hC dX4_leastToTake_42 (by decide) sX11_power (kX11_power (b0 := 1000) (by omega) (by omega)) rfl rfl (Nat.le_of_ble_eq_true rfl) (RR rfl rfl rfl rfl) (fun z => ?_)
        rw [pwZ_pw]
        refine gB hC _ _ _ _ _ _ _ qX4_leastToTake_45 rfl ?_
        refine g_lcmp hC dX4_leastToTake_50 (by first | omega | exact cmpZ_in _ _ | exact bI_in _) (by first | omega | exact cmpZ_in _ _ | exact bI_in _) ?_
        refine g_if_ge hC 58 dX4_leastToTake_51 rfl (by first | omega | exact cmpZ_in _ _ | exact bI_in _) (fun c51 => ?_) (fun c51 => ?_)
        · refine gB hC _ _ _ _ _ _ _ qX4_leastToTake_58 rfl ?_
          refine g_ldivT hC dX4_leastToTake_67 (by omega) (by omega) (by omega) (Or.inr (by omega)) ?_
          refine gB hC _ _ _ _ _ _ _ qX4_leastToTake_68 rfl ?_
          refine g_wrap1 ?_
          refine g_ireturn hC dX4_leastToTake_69 hr ⟨rfl, rfl, rfl, i32_in _⟩ (fun a sh ha => ⟨(shp_ne _ _ (fun q => ?_)).trans ha, fun j => ?_⟩) ⟨Nat.le_of_ble_eq_true rfl, Nat.le_of_ble_eq_true rfl⟩
          · have := (hlt a sh ha).2; omega
          · rw [h6 a (fun q => by have := (hlt a sh ha).2; omega)]
        · exfalso; replace c51 : cmpZ (pw (d9 - 1).toNat) 1 < 0 := c51
          rw [cmpZ_lt] at c51; omega --stop
      · exfalso; omega --stop

theorem kX4_copyFrom {E l Sh V z} {a9 o9 : Int} (z1 : Sh (a9 + 1) = some (100, 4)) (z2 : Sh (a9 + 2) = some (100, 4)) (z0 : Sh a9 = some (3, 0)) (z3 : V a9 0 = a9 + 1) (z4 : V a9 1 = a9 + 2) (y1 : Sh (o9 + 1) = some (100, 4)) (y2 : Sh (o9 + 2) = some (100, 4)) (y0 : Sh o9 = some (3, 0)) (y3 : V o9 0 = o9 + 1) (y4 : V o9 1 = o9 + 2) (hne : o9 + 2 < a9 ∨ a9 + 2 < o9) : gM E l yX4_copyFrom (.code yX4_copyFrom cX4_copyFrom 2 none) (rmk 1 0 0 40) [(2, a9), (2, o9)] Sh V z (gR none Sh (rwV (rwV V (a9 + 1) (V (o9 + 1)) 4) (a9 + 2) (V (o9 + 2)) 4)) := by
  refine gM_at (L0 := [(2, a9), (2, o9)]) rfl rfl rfl ?_
  intro p e s m args below meth c hC hr hex hnm hz
  refine gB hC _ _ _ _ _ _ _ qX4_copyFrom_0 rfl ?_
  refine g_getr hC dX4_copyFrom_1 fX4_9 y0 (by decide) rfl 0 rfl y3 ?_
  refine gB hC _ _ _ _ _ _ _ qX4_copyFrom_4 rfl ?_
  refine g_getr hC dX4_copyFrom_6 fX4_9 z0 (by decide) rfl 0 rfl z3 ?_
  refine gB hC _ _ _ _ _ _ _ qX4_copyFrom_9 rfl ?_
  refine g_copy_int hC dX4_copyFrom_11 mX4_18 gCpN gCpS gCpI y1 z1 ⟨by decide, by decide⟩ (by decide) (by decide) (by decide) (by decide) (by decide) ⟨Nat.le_of_ble_eq_true rfl, Nat.le_of_ble_eq_true rfl⟩ ?_
  rw [cpV_rw]
  replace z4 := (congrFun (rwV_ne (V := V) (a := a9 + 1) (n := 4) (C := V (o9 + 1)) (b := a9) (by omega)) 1).trans z4
  replace y4 := (congrFun (rwV_ne (V := V) (a := a9 + 1) (n := 4) (C := V (o9 + 1)) (b := o9) (by omega)) 1).trans y4
  refine gB hC _ _ _ _ _ _ _ qX4_copyFrom_14 rfl ?_
  refine g_getr hC dX4_copyFrom_15 fX4_15 y0 (by decide) rfl 1 rfl y4 ?_
  refine gB hC _ _ _ _ _ _ _ qX4_copyFrom_18 rfl ?_
  refine g_getr hC dX4_copyFrom_20 fX4_15 z0 (by decide) rfl 1 rfl z4 ?_
  refine gB hC _ _ _ _ _ _ _ qX4_copyFrom_23 rfl ?_
  refine g_copy_int hC dX4_copyFrom_25 mX4_18 gCpN gCpS gCpI y2 z2 ⟨by decide, by decide⟩ (by decide) (by decide) (by decide) (by decide) (by decide) ⟨Nat.le_of_ble_eq_true rfl, Nat.le_of_ble_eq_true rfl⟩ ?_
  refine g_return hC dX4_copyFrom_28 hr ⟨rfl, rfl, ?_⟩ gs_rfl ⟨Nat.le_of_ble_eq_true rfl, Nat.le_of_ble_eq_true rfl⟩
  rw [cpV_rw]
  have e8 : rwV V (a9 + 1) (V (o9 + 1)) 4 (o9 + 2) = V (o9 + 2) := rwV_ne (by omega)
  rw [e8]

