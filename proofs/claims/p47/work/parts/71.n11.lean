/-! the class: rows added, offers taken, stays copied (rows laid by wip/whole/n71.py) -/
theorem kX2_addKindRow {E l Sh V z} {h9 r9 p9 : Int} {N : gN0} (hm : RH h9 N Sh V) (hz9 : szO N) (kz : KZ N) (h0 : 0 ≤ N 1) (h1 : N 1 < 3) (h2 : inI r9) (h3 : inI p9) : gM E l yX2_addKindRow (.code yX2_addKindRow cX2_addKindRow 3 (some .int)) (rmk 2 0 0 70) [(2, h9), (0, r9), (0, p9)] Sh V z (gRe (some (0, N 1)) (fun V' => RH h9 (upN (upN (upN N (31 + N 1 * 3 + 0) r9) (31 + N 1 * 3 + 1) p9) 1 (N 1 + 1)) Sh V' ∧ OUT h9 V V') Sh) := by
  refine gM_at (L0 := [(2, h9), (0, r9), (0, p9)]) rfl rfl rfl ?_
  intro p e s m args below meth c hC hr hex hnm hz
  refine gB hC _ _ _ _ _ _ _ qX2_addKindRow_0 rfl ?_
  refine g_getiv hC dX2_addKindRow_1 fX2_68 hm.1.sH (by decide) rfl 2 rfl hm.t2 (fun i1 => ?_)
  refine gB hC _ _ _ _ _ _ _ qX2_addKindRow_4 rfl ?_
  refine g_icmp_lt hC 10 dX2_addKindRow_5 rfl (by first | omega | exact cmpZ_in _ _ | exact bI_in _) (by first | omega | exact cmpZ_in _ _ | exact bI_in _) (fun c5 => ?_) (fun c5 => ?_)
  · refine gB hC _ _ _ _ _ _ _ qX2_addKindRow_10 rfl ?_
    refine g_getr hC dX2_addKindRow_11 fX2_22 hm.1.sH (by decide) rfl 8 rfl hm.2.1.p8 ?_
    refine gB hC _ _ _ _ _ _ _ qX2_addKindRow_14 rfl ?_
    refine g_getiv hC dX2_addKindRow_15 fX2_68 hm.1.sH (by decide) rfl 2 rfl hm.t2 (fun i15 => ?_)
    refine g_aald hC (j := 4) dX2_addKindRow_18 hm.1.sK (by decide) (hm.2.1.pk (by omega) (by omega)) (by omega) (by omega) (by decide) ?_
    refine gB hC _ _ _ _ _ _ _ qX2_addKindRow_19 rfl ?_
    refine g_cV0m hC dX2_addKindRow_21 mX2_111 vX3_begin (kX3_begin (hm.1.sk (by omega) (by omega)) (hm.1.sc (by omega) (by omega)) (hm.2.1.pc (by omega) (by omega)) (by omega) (by omega)) rfl (hm.1.sk (by omega) (by omega)) (by decide) rfl (Nat.le_of_ble_eq_true rfl) (RR rfl rfl rfl rfl) (fun z V21 e21 => ?_)
    have hb21 : ∀ b, b ≠ h9 + 132 + 2 * N 1 → b ≠ h9 + 132 + 2 * N 1 + 1 → V21 b = V b := fun b q1 q2 => by rw [e21, rwV_ne q2, rwV_ne q1]
    refine gB hC _ _ _ _ _ _ _ qX2_addKindRow_24 rfl ?_
    refine g_getiv hC dX2_addKindRow_26 fX2_68 hm.1.sH (by decide) rfl 2 rfl ((congrFun (hb21 h9 (by omega) (by omega)) 2).trans hm.t2) (fun i26 => ?_)
    refine gB hC _ _ _ _ _ _ _ qX2_addKindRow_29 rfl ?_
    refine g_puti hC dX2_addKindRow_31 fX2_68 hm.1.sH (by decide) rfl (fun _ h => by cases h; rfl) 2 rfl (by first | omega | exact cmpZ_in _ _ | exact bI_in _) (fun V31 e31 => ?_)
    refine gB hC _ _ _ _ _ _ _ qX2_addKindRow_34 rfl ?_
    refine g_getiv hC dX2_addKindRow_35 fX2_68 hm.1.sH (by decide) rfl 2 rfl ((congrFun (congrFun e31 _) _).trans (up_eq _ _ _ _)) (fun i35 => ?_)
    refine gB hC _ _ _ _ _ _ _ qX2_addKindRow_38 rfl ?_
    refine g_ireturn hC dX2_addKindRow_40 hr ⟨?_, rfl, ?_, ?_⟩ gs_rfl ⟨Nat.le_of_ble_eq_true rfl, Nat.le_of_ble_eq_true rfl⟩
    · congr 3; omega
    · exact RH_ak hm hz9 kz h0 h1 (by rw [e31, e21])
    · intro b hb
      rw [e31, up_row _ _ _ (by omega)]; exact hb21 b (by omega) (by omega)
  · exfalso; omega --stop

theorem kX2_addSeasonRow {E l Sh V z} {h9 x9 y9 pe le9 : Int} {N : gN0} (hm : RH h9 N Sh V) (hz9 : szO N) (h0 : 0 ≤ N 2) (h1 : N 2 < 4) (h2 : inI x9) (h3 : inI y9) (h4 : inI pe) (h5 : inI le9) : gM E l yX2_addSeasonRow (.code yX2_addSeasonRow cX2_addSeasonRow 5 (some .int)) (rmk 1 0 0 40) [(2, h9), (0, x9), (0, y9), (0, pe), (0, le9)] Sh V z (gRe (some (0, N 2)) (fun V' => RH h9 (upN (upN (upN (upN (upN N (40 + N 2 * 4) x9) (40 + N 2 * 4 + 1) y9) (40 + N 2 * 4 + 2) pe) (40 + N 2 * 4 + 3) le9) 2 (N 2 + 1)) Sh V' ∧ OUT h9 V V') Sh) := by
  refine gM_at (L0 := [(2, h9), (0, x9), (0, y9), (0, pe), (0, le9)]) rfl rfl rfl ?_
  intro p e s m args below meth c hC hr hex hnm hz
  refine gB hC _ _ _ _ _ _ _ qX2_addSeasonRow_0 rfl ?_
  refine g_getiv hC dX2_addSeasonRow_1 fX2_71 hm.1.sH (by decide) rfl 3 rfl hm.t3 (fun i1 => ?_)
  refine gB hC _ _ _ _ _ _ _ qX2_addSeasonRow_4 rfl ?_
  refine g_icmp_lt hC 10 dX2_addSeasonRow_5 rfl (by first | omega | exact cmpZ_in _ _ | exact bI_in _) (by first | omega | exact cmpZ_in _ _ | exact bI_in _) (fun c5 => ?_) (fun c5 => ?_)
  · refine gB hC _ _ _ _ _ _ _ qX2_addSeasonRow_10 rfl ?_
    refine g_getr hC dX2_addSeasonRow_11 fX2_28 hm.1.sH (by decide) rfl 9 rfl hm.2.1.p9 ?_
    refine gB hC _ _ _ _ _ _ _ qX2_addSeasonRow_14 rfl ?_
    refine g_getiv hC dX2_addSeasonRow_15 fX2_71 hm.1.sH (by decide) rfl 3 rfl hm.t3 (fun i15 => ?_)
    refine g_aald hC (j := 5) dX2_addSeasonRow_18 hm.1.sE (by decide) (hm.2.1.pe (by omega) (by omega)) (by omega) (by omega) (by decide) ?_
    refine gB hC _ _ _ _ _ _ _ qX2_addSeasonRow_19 rfl ?_
    refine g_cV0m hC dX2_addSeasonRow_24 mX2_115 vX7_begin (kX7_begin (hm.1.se (by omega) (by omega)) (by omega) (by omega) (by omega) (by omega)) rfl (hm.1.se (by omega) (by omega)) (by decide) rfl (Nat.le_of_ble_eq_true rfl) (RR rfl rfl rfl rfl) (fun z V24 e24 => ?_)
    have hb24 : ∀ b, b ≠ h9 + 138 + N 2 → V24 b = V b := fun b q1 => by rw [e24, rwV_ne q1]
    refine gB hC _ _ _ _ _ _ _ qX2_addSeasonRow_27 rfl ?_
    refine g_getiv hC dX2_addSeasonRow_29 fX2_71 hm.1.sH (by decide) rfl 3 rfl ((congrFun (hb24 h9 (by omega)) 3).trans hm.t3) (fun i29 => ?_)
    refine gB hC _ _ _ _ _ _ _ qX2_addSeasonRow_32 rfl ?_
    refine g_puti hC dX2_addSeasonRow_34 fX2_71 hm.1.sH (by decide) rfl (fun _ h => by cases h; rfl) 3 rfl (by first | omega | exact cmpZ_in _ _ | exact bI_in _) (fun V34 e34 => ?_)
    refine gB hC _ _ _ _ _ _ _ qX2_addSeasonRow_37 rfl ?_
    refine g_getiv hC dX2_addSeasonRow_38 fX2_71 hm.1.sH (by decide) rfl 3 rfl ((congrFun (congrFun e34 _) _).trans (up_eq _ _ _ _)) (fun i38 => ?_)
    refine gB hC _ _ _ _ _ _ _ qX2_addSeasonRow_41 rfl ?_
    refine g_ireturn hC dX2_addSeasonRow_43 hr ⟨?_, rfl, ?_, ?_⟩ gs_rfl ⟨Nat.le_of_ble_eq_true rfl, Nat.le_of_ble_eq_true rfl⟩
    · congr 3; omega
    · exact RH_as hm hz9 h0 h1 (by rw [e34, e24])
    · intro b hb
      rw [e34, up_row _ _ _ (by omega)]; exact hb24 b (by omega)
  · exfalso; omega --stop

theorem kX2_addGuest {E l Sh V z} {h9 w9 k9 d9 n9 ad ch : Int} {N : gN0} (hm : RH h9 N Sh V) (hz9 : szO N) (h0 : 0 ≤ N 7) (h1 : N 7 < 20) (w1 : Sh w9 = some (9, 0)) (e0 : V w9 0 = k9) (e1 : V w9 1 = d9) (e2 : V w9 2 = n9) (e3 : V w9 3 = ad) (e4 : V w9 4 = ch) : gM E l yX2_addGuest (.code yX2_addGuest cX2_addGuest 2 (some .int)) (rmk 1 0 0 40) [(2, h9), (2, w9)] Sh V z (gRe (some (0, N 7 + 1)) (fun V' => RH h9 (waN N k9 d9 n9 ad ch) Sh V' ∧ OUT h9 V V') Sh) := by
  refine gM_at (L0 := [(2, h9), (2, w9)]) rfl rfl rfl ?_
  intro p e s m args below meth c hC hr hex hnm hz
  refine gB hC _ _ _ _ _ _ _ qX2_addGuest_0 rfl ?_
  refine g_getiv hC dX2_addGuest_1 fX2_74 hm.1.sH (by decide) rfl 4 rfl hm.t4 (fun i1 => ?_)
  refine gB hC _ _ _ _ _ _ _ qX2_addGuest_4 rfl ?_
  refine g_icmp_ge hC 32 dX2_addGuest_6 rfl (by first | omega | exact cmpZ_in _ _ | exact bI_in _) (by first | omega | exact cmpZ_in _ _ | exact bI_in _) (fun c6 => ?_) (fun c6 => ?_)
  · exfalso; omega --stop
  · refine gB hC _ _ _ _ _ _ _ qX2_addGuest_9 rfl ?_
    refine g_getr hC dX2_addGuest_10 fX2_34 hm.1.sH (by decide) rfl 10 rfl hm.2.1.p10 ?_
    refine gB hC _ _ _ _ _ _ _ qX2_addGuest_13 rfl ?_
    refine g_getiv hC dX2_addGuest_14 fX2_74 hm.1.sH (by decide) rfl 4 rfl hm.t4 (fun i14 => ?_)
    refine g_aald hC (j := 7) dX2_addGuest_17 hm.1.sG (by decide) (hm.2.1.pg (by omega) (by omega)) (by omega) (by omega) (by decide) ?_
    refine gB hC _ _ _ _ _ _ _ qX2_addGuest_18 rfl ?_
    refine g_cV0m hC dX2_addGuest_19 mX2_93 vX10_copyFrom (kX10_copyFrom (hm.1.sg (by omega) (by omega)) w1) rfl (hm.1.sg (by omega) (by omega)) (by decide) rfl (Nat.le_of_ble_eq_true rfl) (RR rfl rfl rfl rfl) (fun z V19 e19 => ?_)
    have hb19 : ∀ b, b ≠ h9 + 142 + N 7 → V19 b = V b := fun b q1 => by rw [e19, rwV_ne q1]
    refine gB hC _ _ _ _ _ _ _ qX2_addGuest_22 rfl ?_
    refine g_getiv hC dX2_addGuest_24 fX2_74 hm.1.sH (by decide) rfl 4 rfl ((congrFun (hb19 h9 (by omega)) 4).trans hm.t4) (fun i24 => ?_)
    refine gB hC _ _ _ _ _ _ _ qX2_addGuest_27 rfl ?_
    refine g_puti hC dX2_addGuest_29 fX2_74 hm.1.sH (by decide) rfl (fun _ h => by cases h; rfl) 4 rfl (by first | omega | exact cmpZ_in _ _ | exact bI_in _) (fun V29 e29 => ?_)
    refine gB hC _ _ _ _ _ _ _ qX2_addGuest_32 rfl ?_
    refine g_getiv hC dX2_addGuest_33 fX2_74 hm.1.sH (by decide) rfl 4 rfl ((congrFun (congrFun e29 _) _).trans (up_eq _ _ _ _)) (fun i33 => ?_)
    refine g_ireturn hC dX2_addGuest_36 hr ⟨rfl, rfl, ?_, ?_⟩ gs_rfl ⟨Nat.le_of_ble_eq_true rfl, Nat.le_of_ble_eq_true rfl⟩
    · exact RH_wa hm hz9 h0 h1 e0 e1 e2 e3 e4 (by rw [e29, e19])
    · intro b hb
      rw [e29, up_row _ _ _ (by omega)]; exact hb19 b (by omega)

theorem kX6_take {E l Sh V z} {h9 x9 : Int} {N : gN0} (hm : RH h9 N Sh V) (hI0 : INV N) (h0 : 0 < N 22) (h1 : 0 ≤ x9) (h2 : x9 ≤ 100000) : gM E l yX6_take (.code yX6_take cX6_take 4 (some .int)) (rmk 4 1 6 140) [(2, h9 + 130), (0, x9), (2, h9 + 127)] Sh V z (gRe (some (0, if offC N x9 then N 24 + x9 else -1)) (fun V' => RH h9 (if offC N x9 then offT N x9 else offN N x9) Sh V' ∧ OUT h9 V V') Sh) := by
  refine gM_at (L0 := [(2, h9 + 130), (0, x9), (2, h9 + 127), (9, 0)]) rfl rfl rfl ?_
  intro p e s m args below meth c hC hr hex hnm hz
  have ho := hI0.2.2
  have ho1 := ho.1
  have ho2 := ho.2.1
  have ho3 := ho.2.2.1
  have ho4 := ho.2.2.2
  have hlz : inI (limZ N (N 22) (N 23)) := i32_in _
  refine gB hC _ _ _ _ _ _ _ qX6_take_0 rfl ?_
  refine g_getiv hC dX6_take_1 fX6_23 hm.1.sA (by decide) rfl 2 rfl hm.a2 (fun i1 => ?_)
  refine g_if_le hC 27 dX6_take_4 rfl (by first | omega | exact cmpZ_in _ _ | exact bI_in _) (fun c4 => ?_) (fun c4 => ?_)
  · refine gB hC _ _ _ _ _ _ _ qX6_take_27 rfl ?_
    refine gB hC _ _ _ _ _ _ _ qX6_take_28 rfl ?_
    refine g_getiv hC dX6_take_31 fX6_19 hm.1.sA (by decide) rfl 1 rfl hm.a1 (fun i31 => ?_)
    refine gB hC _ _ _ _ _ _ _ qX6_take_34 rfl ?_
    refine g_puti hC dX6_take_36 fX6_19 hm.1.sA (by decide) rfl (fun _ h => by cases h; rfl) 1 rfl (by first | omega | exact cmpZ_in _ _ | exact bI_in _) (fun V36 e36 => ?_)
    refine gB hC _ _ _ _ _ _ _ qX6_take_39 rfl ?_
    refine g_cV0e hC dX6_take_41 mX6_47 vX6_remember (kX6_remember (a9 := h9 + 130) (n9 := (N 26).toNat) hm.1.sA (by rw [show h9 + 130 + 1 = h9 + 131 by omega]; exact hm.1.sF) (by rw [e36, up_ne _ _ (Or.inr (by decide)), hm.2.1.pF]; omega) (by rw [e36, up_ne _ _ (Or.inr (by decide)), hm.a5]; omega) (by omega) (by omega)) rfl hm.1.sA (by decide) rfl (Nat.le_of_ble_eq_true rfl) (RR rfl rfl rfl rfl) (fun z V41 e41 => ?_)
    have hq2 : V41 (h9 + 130) = up V36 (h9 + 130) 5 (((N 26).toNat : Int) + 1) (h9 + 130) := e41.2.1
    have hq3 : ∀ j, j ≠ 1 → j ≠ 5 → V41 (h9 + 130) j = V (h9 + 130) j := fun j j1 j5 => by rw [hq2, up_ne _ _ (Or.inr j5), e36, up_ne _ _ (Or.inr j1)]
    have hmo : RH h9 (offN N x9) Sh V41 := by
      refine RH_of hm hI0.szO (by omega) (by omega) (fun b q1 q2 => ?_) ?_ ?_ hq3 (fun i i0 i1 => ?_)
      · rw [e41.2.2 b q1 (by omega), e36, up_row _ _ _ q1]
      · rw [hq2, up_ne _ _ (Or.inr (by decide)), e36, up_eq]
      · rw [hq2, up_eq]; omega
      · have := e41.1 i i0 (by omega)
        rw [show h9 + 130 + 1 = h9 + 131 by omega] at this
        rw [this, e36, up_row _ _ _ (by omega)]
    have hou : OUT h9 V V41 := fun b hb => by rw [e41.2.2 b (by omega) (by omega), e36, up_row _ _ _ (by omega)]
    have hr2 : V41 (h9 + 130) 2 = N 23 := (hq3 2 (by decide) (by decide)).trans hm.a2
    have hr3 : V41 (h9 + 130) 3 = N 24 := (hq3 3 (by decide) (by decide)).trans hm.a3
    refine gB hC _ _ _ _ _ _ _ qX6_take_44 rfl ?_
    refine g_if_ne hC 50 dX6_take_45 rfl (by first | omega | exact cmpZ_in _ _ | exact bI_in _) (fun c45 => ?_) (fun c45 => ?_)
    · exact absurd c45 (by decide)
    · refine gB hC _ _ _ _ _ _ _ qX6_take_48 rfl ?_
      refine g_ireturn hC dX6_take_49 hr ⟨?_, rfl, ?_, ?_⟩ gs_rfl ⟨Nat.le_of_ble_eq_true rfl, Nat.le_of_ble_eq_true rfl⟩
      all_goals (have hcc : ¬ offC N x9 := by unfold offC; omega)
      · rw [if_neg hcc]
      · rw [if_neg hcc]; exact hmo
      · exact hou
  · refine gB hC _ _ _ _ _ _ _ qX6_take_7 rfl ?_
    refine g_getiv hC dX6_take_10 fX6_19 hm.1.sA (by decide) rfl 1 rfl hm.a1 (fun i10 => ?_)
    refine gB hC _ _ _ _ _ _ _ qX6_take_13 rfl ?_
    refine g_getiv hC dX6_take_14 fX6_23 hm.1.sA (by decide) rfl 2 rfl hm.a2 (fun i14 => ?_)
    refine g_cV1i hC dX6_take_17 mX6_41 vX4_leastToTake (kX4_leastToTake hm hI0 (by omega) (by omega) (by omega) (by omega)) rfl hm.1.sM (by decide) rfl (Nat.le_of_ble_eq_true rfl) (RR rfl rfl rfl rfl) (fun z i17 => ?_)
    refine g_icmp_lt hC 27 dX6_take_20 rfl (by first | omega | exact cmpZ_in _ _ | exact bI_in _) (by first | omega | exact cmpZ_in _ _ | exact bI_in _) (fun c20 => ?_) (fun c20 => ?_)
    · refine gB hC _ _ _ _ _ _ _ qX6_take_27 rfl ?_
      refine gB hC _ _ _ _ _ _ _ qX6_take_28 rfl ?_
      refine g_getiv hC dX6_take_31 fX6_19 hm.1.sA (by decide) rfl 1 rfl hm.a1 (fun i31 => ?_)
      refine gB hC _ _ _ _ _ _ _ qX6_take_34 rfl ?_
      refine g_puti hC dX6_take_36 fX6_19 hm.1.sA (by decide) rfl (fun _ h => by cases h; rfl) 1 rfl (by first | omega | exact cmpZ_in _ _ | exact bI_in _) (fun V36 e36 => ?_)
      refine gB hC _ _ _ _ _ _ _ qX6_take_39 rfl ?_
      refine g_cV0e hC dX6_take_41 mX6_47 vX6_remember (kX6_remember (a9 := h9 + 130) (n9 := (N 26).toNat) hm.1.sA (by rw [show h9 + 130 + 1 = h9 + 131 by omega]; exact hm.1.sF) (by rw [e36, up_ne _ _ (Or.inr (by decide)), hm.2.1.pF]; omega) (by rw [e36, up_ne _ _ (Or.inr (by decide)), hm.a5]; omega) (by omega) (by omega)) rfl hm.1.sA (by decide) rfl (Nat.le_of_ble_eq_true rfl) (RR rfl rfl rfl rfl) (fun z V41 e41 => ?_)
      have hq2 : V41 (h9 + 130) = up V36 (h9 + 130) 5 (((N 26).toNat : Int) + 1) (h9 + 130) := e41.2.1
      have hq3 : ∀ j, j ≠ 1 → j ≠ 5 → V41 (h9 + 130) j = V (h9 + 130) j := fun j j1 j5 => by rw [hq2, up_ne _ _ (Or.inr j5), e36, up_ne _ _ (Or.inr j1)]
      have hmo : RH h9 (offN N x9) Sh V41 := by
        refine RH_of hm hI0.szO (by omega) (by omega) (fun b q1 q2 => ?_) ?_ ?_ hq3 (fun i i0 i1 => ?_)
        · rw [e41.2.2 b q1 (by omega), e36, up_row _ _ _ q1]
        · rw [hq2, up_ne _ _ (Or.inr (by decide)), e36, up_eq]
        · rw [hq2, up_eq]; omega
        · have := e41.1 i i0 (by omega)
          rw [show h9 + 130 + 1 = h9 + 131 by omega] at this
          rw [this, e36, up_row _ _ _ (by omega)]
      have hou : OUT h9 V V41 := fun b hb => by rw [e41.2.2 b (by omega) (by omega), e36, up_row _ _ _ (by omega)]
      have hr2 : V41 (h9 + 130) 2 = N 23 := (hq3 2 (by decide) (by decide)).trans hm.a2
      have hr3 : V41 (h9 + 130) 3 = N 24 := (hq3 3 (by decide) (by decide)).trans hm.a3
      refine gB hC _ _ _ _ _ _ _ qX6_take_44 rfl ?_
      refine g_if_ne hC 50 dX6_take_45 rfl (by first | omega | exact cmpZ_in _ _ | exact bI_in _) (fun c45 => ?_) (fun c45 => ?_)
      · exact absurd c45 (by decide)
      · refine gB hC _ _ _ _ _ _ _ qX6_take_48 rfl ?_
        refine g_ireturn hC dX6_take_49 hr ⟨?_, rfl, ?_, ?_⟩ gs_rfl ⟨Nat.le_of_ble_eq_true rfl, Nat.le_of_ble_eq_true rfl⟩
        all_goals (have hcc : ¬ offC N x9 := by unfold offC; omega)
        · rw [if_neg hcc]
        · rw [if_neg hcc]; exact hmo
        · exact hou
    · refine gB hC _ _ _ _ _ _ _ qX6_take_23 rfl ?_
      refine gB hC _ _ _ _ _ _ _ qX6_take_28 rfl ?_
      refine g_getiv hC dX6_take_31 fX6_19 hm.1.sA (by decide) rfl 1 rfl hm.a1 (fun i31 => ?_)
      refine gB hC _ _ _ _ _ _ _ qX6_take_34 rfl ?_
      refine g_puti hC dX6_take_36 fX6_19 hm.1.sA (by decide) rfl (fun _ h => by cases h; rfl) 1 rfl (by first | omega | exact cmpZ_in _ _ | exact bI_in _) (fun V36 e36 => ?_)
      refine gB hC _ _ _ _ _ _ _ qX6_take_39 rfl ?_
      refine g_cV0e hC dX6_take_41 mX6_47 vX6_remember (kX6_remember (a9 := h9 + 130) (n9 := (N 26).toNat) hm.1.sA (by rw [show h9 + 130 + 1 = h9 + 131 by omega]; exact hm.1.sF) (by rw [e36, up_ne _ _ (Or.inr (by decide)), hm.2.1.pF]; omega) (by rw [e36, up_ne _ _ (Or.inr (by decide)), hm.a5]; omega) (by omega) (by omega)) rfl hm.1.sA (by decide) rfl (Nat.le_of_ble_eq_true rfl) (RR rfl rfl rfl rfl) (fun z V41 e41 => ?_)
      have hq2 : V41 (h9 + 130) = up V36 (h9 + 130) 5 (((N 26).toNat : Int) + 1) (h9 + 130) := e41.2.1
      have hq3 : ∀ j, j ≠ 1 → j ≠ 5 → V41 (h9 + 130) j = V (h9 + 130) j := fun j j1 j5 => by rw [hq2, up_ne _ _ (Or.inr j5), e36, up_ne _ _ (Or.inr j1)]
      have hmo : RH h9 (offN N x9) Sh V41 := by
        refine RH_of hm hI0.szO (by omega) (by omega) (fun b q1 q2 => ?_) ?_ ?_ hq3 (fun i i0 i1 => ?_)
        · rw [e41.2.2 b q1 (by omega), e36, up_row _ _ _ q1]
        · rw [hq2, up_ne _ _ (Or.inr (by decide)), e36, up_eq]
        · rw [hq2, up_eq]; omega
        · have := e41.1 i i0 (by omega)
          rw [show h9 + 130 + 1 = h9 + 131 by omega] at this
          rw [this, e36, up_row _ _ _ (by omega)]
      have hou : OUT h9 V V41 := fun b hb => by rw [e41.2.2 b (by omega) (by omega), e36, up_row _ _ _ (by omega)]
      have hr2 : V41 (h9 + 130) 2 = N 23 := (hq3 2 (by decide) (by decide)).trans hm.a2
      have hr3 : V41 (h9 + 130) 3 = N 24 := (hq3 3 (by decide) (by decide)).trans hm.a3
      refine gB hC _ _ _ _ _ _ _ qX6_take_44 rfl ?_
      refine g_if_ne hC 50 dX6_take_45 rfl (by first | omega | exact cmpZ_in _ _ | exact bI_in _) (fun c45 => ?_) (fun c45 => ?_)
      · refine gB hC _ _ _ _ _ _ _ qX6_take_50 rfl ?_
        refine g_getiv hC dX6_take_52 fX6_23 hm.1.sA (by decide) rfl 2 rfl hr2 (fun i52 => ?_)
        refine gB hC _ _ _ _ _ _ _ qX6_take_55 rfl ?_
        refine g_puti hC dX6_take_57 fX6_23 hm.1.sA (by decide) rfl (fun _ h => by cases h; rfl) 2 rfl (by first | omega | exact cmpZ_in _ _ | exact bI_in _) (fun V57 e57 => ?_)
        refine gB hC _ _ _ _ _ _ _ qX6_take_60 rfl ?_
        refine g_getiv hC dX6_take_62 fX6_26 hm.1.sA (by decide) rfl 3 rfl ((congrFun (congrFun e57 _) _).trans ((up_ne _ _ (by omega)).trans hr3)) (fun i62 => ?_)
        refine gB hC _ _ _ _ _ _ _ qX6_take_65 rfl ?_
        refine g_puti hC dX6_take_67 fX6_26 hm.1.sA (by decide) rfl (fun _ h => by cases h; rfl) 3 rfl (by first | omega | exact cmpZ_in _ _ | exact bI_in _) (fun V67 e67 => ?_)
        refine gB hC _ _ _ _ _ _ _ qX6_take_70 rfl ?_
        refine g_getiv hC dX6_take_71 fX6_26 hm.1.sA (by decide) rfl 3 rfl ((congrFun (congrFun e67 _) _).trans (up_eq _ _ _ _)) (fun i71 => ?_)
        refine g_ireturn hC dX6_take_74 hr ⟨?_, rfl, ?_, ?_⟩ gs_rfl ⟨Nat.le_of_ble_eq_true rfl, Nat.le_of_ble_eq_true rfl⟩
        all_goals (have hcc : offC N x9 := by unfold offC; omega)
        · rw [if_pos hcc]
        · rw [if_pos hcc]
          refine RH_ot hmo (off_inv hI0 ⟨h1, h2⟩ h0).szO (by omega) ?_
          rw [e67, e57]
        · rw [e67, e57]; exact (hou.up (by omega)).up (by omega)
      · exact absurd c45 (by decide)

theorem stR_cp {a o s : Int} {N : gN0} {V V' : gV} (H : stR o s N V) (h14 : sF N s 3 ≤ 14) (hne : o + 1 < a ∨ a + 1 < o) (e : V' = rwV (rwV V a (V o) 11) (a + 1) (V (o + 1)) 14) : stR a s N V' := by
  have ev : ∀ j, 0 ≤ j → j < 11 → V' a j = V o j := fun j j0 j1 => by rw [e, rwV_ne (by omega)]; exact rwV_at j0 j1
  obtain ⟨⟨a0, a1, a2, a3, a4, a5, a6, a7, a8, a9, a10⟩, b⟩ := H
  refine ⟨?_, fun n n0 n1 => ?_⟩
  · rw [ev 0 (by decide) (by decide), ev 1 (by decide) (by decide), ev 2 (by decide) (by decide), ev 3 (by decide) (by decide), ev 4 (by decide) (by decide), ev 5 (by decide) (by decide), ev 6 (by decide) (by decide), ev 7 (by decide) (by decide), ev 8 (by decide) (by decide), ev 9 (by decide) (by decide), ev 10 (by decide) (by decide)]
    exact ⟨a0, a1, a2, a3, a4, a5, a6, a7, a8, a9, a10⟩
  · rw [e, rwV_at n0 (by omega)]
    exact b n n0 n1
theorem ptH_st {h s : Int} {V V' : gV} {C D : gN0} (H : ptH h V) (h0 : 0 ≤ s) (h1 : s < 60) (e : V' = rwV (rwV V (h + 6 + 2 * s) C 11) (h + 6 + 2 * s + 1) D 14) : ptH h V' := by
  refine ptH_ag H (fun c j hc => ?_)
  unfold isPt at hc
  rw [e, rwV_ne (by omega), rwV_far (by omega)]
theorem szO_s {N : gN0} (hz : szO N) {s : Int} (h0 : 0 ≤ s) (h1 : s < N 5) : sF N s 3 ≤ 14 := hz.2.2.2.2.2 s h0 h1

theorem kX9_copyFrom {E l Sh V z} {h9 o9 : Int} {N : gN0} (hb : shH h9 Sh) (hp : ptH h9 V) (hmo : RH o9 N Sh V) (hI0 : INV N) (hd9 : o9 + 162 ≤ h9 ∨ h9 + 162 ≤ o9) : gM E l yX9_copyFrom (.code yX9_copyFrom cX9_copyFrom 3 none) (rmk 2 0 0 70) [(2, h9 + 4), (2, o9 + 4)] Sh V z (gRe none (fun V' => V' (h9 + 4) 1 = N 5 ∧ vS h9 N V' ∧ ptH h9 V' ∧ ∀ b, (b < h9 + 4 ∨ h9 + 126 ≤ b) → V' b = V b) Sh) := by
  refine gM_at (L0 := [(2, h9 + 4), (2, o9 + 4), (9, 0)]) rfl rfl rfl ?_
  intro p e s m args below meth c hC hr hex hnm hz
  have hI := hI0.1
  have hsc := hI.1
  unfold iScal at hsc
  have hz9 := hI0.szO
  refine gB hC _ _ _ _ _ _ _ qX9_copyFrom_0 rfl ?_
  refine g_getiv hC dX9_copyFrom_2 fX9_18 hmo.1.sT (by decide) rfl 1 rfl hmo.tS (fun i2 => ?_)
  refine g_puti hC dX9_copyFrom_5 fX9_18 hb.sT (by decide) rfl (fun _ h => by cases h; rfl) 1 rfl (by first | omega | exact cmpZ_in _ _ | exact bI_in _) (fun V5 e5 => ?_)
  refine gB hC _ _ _ _ _ _ _ qX9_copyFrom_8 rfl ?_
  refine g_loop (fun x : gV × Nat => x.1 (h9 + 4) 1 = N 5 ∧ (∀ s, 0 ≤ s → s < (x.2 : Int) → stR (h9 + 6 + 2 * s) s N x.1) ∧ ptH h9 x.1 ∧ (∀ b, (b < h9 + 4 ∨ h9 + 126 ≤ b) → x.1 b = V b) ∧ (x.2 : Int) ≤ N 5) (fun x => (N 5 - x.2).toNat) 10 (fun x => [(2, h9 + 4), (2, o9 + 4), (0, (x.2 : Int))]) (fun x => x.1) (V5, 0) ⟨by dsimp only; rw [e5, up_eq], fun s s0 s1 => by have : s < 0 := s1; omega, ptH_ag hp (fun c j hc => by unfold isPt at hc; dsimp only; rw [e5, up_ne _ _ (by omega)]), fun b hb => by dsimp only; rw [e5, up_row _ _ _ (by omega)], by show (0 : Int) ≤ N 5; omega⟩ ?_
  rintro ⟨V1, t⟩ z ⟨hs1, hst, hp1, hf1, ht⟩ ih
  dsimp only at hs1 hst hp1 hf1 ht ih ⊢
  have hm1 : RH o9 N Sh V1 := RH_ag hmo hz9 (fun _ _ _ => rfl) (fun a x y => hf1 a (by omega))
  refine gB hC _ _ _ _ _ _ _ qX9_copyFrom_10 rfl ?_
  refine g_getiv hC dX9_copyFrom_12 fX9_18 hb.sT (by decide) rfl 1 rfl hs1 (fun i12 => ?_)
  refine g_icmp_ge hC 39 dX9_copyFrom_15 rfl (by first | omega | exact cmpZ_in _ _ | exact bI_in _) (by first | omega | exact cmpZ_in _ _ | exact bI_in _) (fun c15 => ?_) (fun c15 => ?_)
  · refine g_return hC dX9_copyFrom_39 hr ⟨rfl, rfl, ?_, ?_, ?_, ?_⟩ gs_rfl ⟨Nat.le_of_ble_eq_true rfl, Nat.le_of_ble_eq_true rfl⟩
    · exact hs1
    · exact fun s s0 s1 => hst s s0 (by omega)
    · exact hp1
    · exact hf1
  · refine gB hC _ _ _ _ _ _ _ qX9_copyFrom_18 rfl ?_
    refine g_getr hC dX9_copyFrom_19 fX9_11 hb.sT (by decide) rfl 0 rfl hp1.pR ?_
    refine gB hC _ _ _ _ _ _ _ qX9_copyFrom_22 rfl ?_
    refine g_aald hC (j := 6) dX9_copyFrom_23 hb.sR (by decide) (hp1.ps (by omega) (by omega)) (by omega) (by omega) (by decide) ?_
    refine gB hC _ _ _ _ _ _ _ qX9_copyFrom_24 rfl ?_
    refine g_getr hC dX9_copyFrom_25 fX9_11 hmo.1.sT (by decide) rfl 0 rfl hm1.2.1.pR ?_
    refine gB hC _ _ _ _ _ _ _ qX9_copyFrom_28 rfl ?_
    refine g_aald hC (j := 6) dX9_copyFrom_29 hmo.1.sR (by decide) (hm1.2.1.ps (by omega) (by omega)) (by omega) (by omega) (by decide) ?_
    refine g_cV0m hC dX9_copyFrom_30 mX9_22 vX8_copyFrom (kX8_copyFrom (hb.ss (by omega) (by omega)) (hb.sn (by omega) (by omega)) (hp1.pn (by omega) (by omega)) (hmo.1.ss (by omega) (by omega)) (hmo.1.sn (by omega) (by omega)) (hm1.2.1.pn (by omega) (by omega)) (by omega)) rfl (hb.ss (by omega) (by omega)) (by decide) rfl (Nat.le_of_ble_eq_true rfl) (RR rfl rfl rfl rfl) (fun z V30 e30 => ?_)
    refine gB hC _ _ _ _ _ _ _ qX9_copyFrom_33 rfl ?_
    refine ih (V30, t + 1) _ ⟨by dsimp only; rw [e30, rwV_ne (by omega), rwV_ne (by omega)]; exact hs1, fun s s0 s1 => ?_, ptH_st hp1 (by omega) (by omega) e30, fun b hb => by dsimp only; rw [e30, rwV_ne (by omega), rwV_ne (by omega)]; exact hf1 b hb, by show ((t + 1 : Nat) : Int) ≤ N 5; omega⟩ (by show (N 5 - ((t + 1 : Nat) : Int)).toNat < (N 5 - t).toNat; omega)
    by_cases hst2 : s = (t : Int)
    · subst hst2; exact stR_cp (hm1.st (by omega) (by omega)) (szO_s hz9 (by omega) (by omega)) (by omega) e30
    · have s2 : s < ((t + 1 : Nat) : Int) := s1
      show stR _ s N V30
      exact stR_ag (fun _ _ _ => rfl) (szO_s hz9 s0 (by omega)) (by rw [e30, rwV_ne (by omega), rwV_ne (by omega)]) (by rw [e30, rwV_ne (by omega), rwV_ne (by omega)]) (hst s s0 (by omega))

