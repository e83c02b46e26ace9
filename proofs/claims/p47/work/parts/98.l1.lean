/-! the law: readers (rows laid by wip/p47/l1.py) -/
abbrev inS9 (N : gN0) (d0 : Int) : Prop := N 2 = 1 ∧ ((seF N 0 0 ≤ seF N 0 1 ∧ seF N 0 0 ≤ dateZ (8822 + d0) % 10000 ∧ dateZ (8822 + d0) % 10000 ≤ seF N 0 1) ∨ (seF N 0 1 < seF N 0 0 ∧ (seF N 0 0 ≤ dateZ (8822 + d0) % 10000 ∨ dateZ (8822 + d0) % 10000 ≤ seF N 0 1)))

/-- a night by its place; -1 stays -/
def m88 (x : Int) : Int := if x = -1 then -1 else x - 8822

theorem kL_isAlive {E l Sh V z} {q w : Int} {N : gN0} {s0 : Int} (hL : LB q w N Sh V) (hI : InvC N) (h0 : 0 ≤ s0) (h1 : s0 < N 5) : gM E l yL_isAlive (.code yL_isAlive cL_isAlive 2 (some .boolean)) (rmk 0 0 0 0) [(2, q), (0, s0)] Sh V z (gR (some (0, bI (sF N s0 0 = 0 ∨ sF N s0 0 = 1))) Sh V) := by
  refine gM_at (L0 := [(2, q), (0, s0)]) rfl rfl rfl ?_
  intro p e s m args below meth c hC hr hex hnm hz
  have hsc := hI.1
  unfold iScal at hsc
  have hso := (hI.2.2.2.1 s0 (by omega) (by omega)).1
  refine gB hC _ _ _ _ _ _ _ qL_isAlive_0 rfl ?_
  refine g_getr hC dL_isAlive_1 fL_39 hL.sL (by decide) rfl 15 rfl hL.p15 ?_
  refine gB hC _ _ _ _ _ _ _ qL_isAlive_4 rfl ?_
  refine g_aald hC (j := 8) dL_isAlive_5 hL.ssO (by decide) (hL.ps (by omega) (by omega)) (by omega) (by omega) (by decide) ?_
  refine gB hC _ _ _ _ _ _ _ qL_isAlive_6 rfl ?_
  refine g_iald hC dL_isAlive_7 (hL.ssR (by omega) (by omega)) (hL.t0 (by omega) (by omega)) (by omega) (by omega) (by decide) (fun i7 => ?_)
  refine g_if_eq hC 23 dL_isAlive_8 rfl (by first | omega | exact cmpZ_in _ _ | exact bI_in _) (fun c8 => ?_) (fun c8 => ?_)
  · refine gB hC _ _ _ _ _ _ _ qL_isAlive_23 rfl ?_
    refine g_zreturn hC dL_isAlive_28 hr ?_ ⟨?_, rfl, rfl⟩ gs_rfl ⟨Nat.le_of_ble_eq_true rfl, Nat.le_of_ble_eq_true rfl⟩
    · first | exact Or.inl rfl | exact Or.inr rfl | exact bI_01 _
    first | rw [bI_f (by omega)] | rw [bI_t (by omega)]
  · refine gB hC _ _ _ _ _ _ _ qL_isAlive_11 rfl ?_
    refine g_getr hC dL_isAlive_12 fL_39 hL.sL (by decide) rfl 15 rfl hL.p15 ?_
    refine gB hC _ _ _ _ _ _ _ qL_isAlive_15 rfl ?_
    refine g_aald hC (j := 8) dL_isAlive_16 hL.ssO (by decide) (hL.ps (by omega) (by omega)) (by omega) (by omega) (by decide) ?_
    refine gB hC _ _ _ _ _ _ _ qL_isAlive_17 rfl ?_
    refine g_iald hC dL_isAlive_18 (hL.ssR (by omega) (by omega)) (hL.t0 (by omega) (by omega)) (by omega) (by omega) (by decide) (fun i18 => ?_)
    refine gB hC _ _ _ _ _ _ _ qL_isAlive_19 rfl ?_
    refine g_icmp_ne hC 27 dL_isAlive_20 rfl (by first | omega | exact cmpZ_in _ _ | exact bI_in _) (by first | omega | exact cmpZ_in _ _ | exact bI_in _) (fun c20 => ?_) (fun c20 => ?_)
    · refine gB hC _ _ _ _ _ _ _ qL_isAlive_27 rfl ?_
      refine g_zreturn hC dL_isAlive_28 hr ?_ ⟨?_, rfl, rfl⟩ gs_rfl ⟨Nat.le_of_ble_eq_true rfl, Nat.le_of_ble_eq_true rfl⟩
      · first | exact Or.inl rfl | exact Or.inr rfl | exact bI_01 _
      first | rw [bI_f (by omega)] | rw [bI_t (by omega)]
    · refine gB hC _ _ _ _ _ _ _ qL_isAlive_23 rfl ?_
      refine g_zreturn hC dL_isAlive_28 hr ?_ ⟨?_, rfl, rfl⟩ gs_rfl ⟨Nat.le_of_ble_eq_true rfl, Nat.le_of_ble_eq_true rfl⟩
      · first | exact Or.inl rfl | exact Or.inr rfl | exact bI_01 _
      first | rw [bI_f (by omega)] | rw [bI_t (by omega)]

theorem kL_last {E l Sh V z} {q w : Int} {N : gN0} {s0 : Int} (hL : LB q w N Sh V) (hI : InvC N) (h0 : 0 ≤ s0) (h1 : s0 < N 5) : gM E l yL_last (.code yL_last cL_last 2 (some .int)) (rmk 0 0 0 0) [(2, q), (0, s0)] Sh V z (gRi (sF N s0 2 + sF N s0 3 - 1 - 8822) Sh V) := by
  refine gM_at (L0 := [(2, q), (0, s0)]) rfl rfl rfl ?_
  intro p e s m args below meth c hC hr hex hnm hz
  have hsc := hI.1
  unfold iScal at hsc
  have hso := (hI.2.2.2.1 s0 (by omega) (by omega)).1
  refine gB hC _ _ _ _ _ _ _ qL_last_0 rfl ?_
  refine g_getr hC dL_last_1 fL_39 hL.sL (by decide) rfl 15 rfl hL.p15 ?_
  refine gB hC _ _ _ _ _ _ _ qL_last_4 rfl ?_
  refine g_aald hC (j := 8) dL_last_5 hL.ssO (by decide) (hL.ps (by omega) (by omega)) (by omega) (by omega) (by decide) ?_
  refine gB hC _ _ _ _ _ _ _ qL_last_6 rfl ?_
  refine g_iald hC dL_last_7 (hL.ssR (by omega) (by omega)) (hL.t2 (by omega) (by omega)) (by omega) (by omega) (by decide) (fun i7 => ?_)
  refine gB hC _ _ _ _ _ _ _ qL_last_8 rfl ?_
  refine g_getr hC dL_last_9 fL_39 hL.sL (by decide) rfl 15 rfl hL.p15 ?_
  refine gB hC _ _ _ _ _ _ _ qL_last_12 rfl ?_
  refine g_aald hC (j := 8) dL_last_13 hL.ssO (by decide) (hL.ps (by omega) (by omega)) (by omega) (by omega) (by decide) ?_
  refine gB hC _ _ _ _ _ _ _ qL_last_14 rfl ?_
  refine g_iald hC dL_last_15 (hL.ssR (by omega) (by omega)) (hL.t3 (by omega) (by omega)) (by omega) (by omega) (by decide) (fun i15 => ?_)
  refine gB hC _ _ _ _ _ _ _ qL_last_16 rfl ?_
  refine g_ireturn hC dL_last_19 hr ⟨?_, rfl, rfl, by omega⟩ gs_rfl ⟨Nat.le_of_ble_eq_true rfl, Nat.le_of_ble_eq_true rfl⟩
  congr 3; omega

theorem kL_count {E l Sh V z} {q w : Int} {N : gN0} {k0 d0 : Int} (hL : LB q w N Sh V) (hI : InvC N) (h1 : inI k0) (h2 : inI d0) : gM E l yL_count (.code yL_count cL_count 5 (some .int)) (rmk 1 0 0 40) [(2, q), (0, k0), (0, d0)] Sh V z (gRi (cnt N k0 (8822 + d0)) Sh V) := by
  refine gM_at (L0 := [(2, q), (0, k0), (0, d0), (9, 0), (9, 0)]) rfl rfl rfl ?_
  intro p e s m args below meth c hC hr hex hnm hz
  have hsc := hI.1
  unfold iScal at hsc
  have hcn := cnt_in hI k0 (8822 + d0)
  refine gB hC _ _ _ _ _ _ _ qL_count_0 rfl ?_
  refine g_loop (fun x : Int × Nat => x.1 = cntT N k0 (8822 + d0) x.2 ∧ (x.2 : Int) ≤ N 5) (fun x => (N 5 - x.2).toNat) 5 (fun x => [(2, q), (0, k0), (0, d0), (0, x.1), (0, (x.2 : Int))]) (fun _ => V) (0, 0) ⟨rfl, by show (0 : Int) ≤ N 5; omega⟩ ?_
  rintro ⟨many, t⟩ z ⟨hmany, ht⟩ ih
  dsimp only at hmany ht ih ⊢
  have hct := cntT_in N k0 (8822 + d0) t
  refine gB hC _ _ _ _ _ _ _ qL_count_5 rfl ?_
  refine g_getiv hC dL_count_8 fL_56 hL.sL (by decide) rfl 17 rfl hL.v17 (fun i8 => ?_)
  refine g_icmp_ge hC 73 dL_count_11 rfl (by first | omega | exact cmpZ_in _ _ | exact bI_in _) (by first | omega | exact cmpZ_in _ _ | exact bI_in _) (fun c11 => ?_) (fun c11 => ?_)
  · refine gB hC _ _ _ _ _ _ _ qL_count_73 rfl ?_
    refine g_ireturn hC dL_count_74 hr ⟨?_, rfl, rfl, by omega⟩ gs_rfl ⟨Nat.le_of_ble_eq_true rfl, Nat.le_of_ble_eq_true rfl⟩
    have : t = (N 5).toNat := by omega
    subst this
    rw [hmany]; rfl
  · have hso := (hI.2.2.2.1 t (by omega) (by omega)).1
    refine gB hC _ _ _ _ _ _ _ qL_count_14 rfl ?_
    refine g_cV1 hC dL_count_18 mL_60 vL_isAlive (kL_isAlive hL hI (by omega) (by omega)) rfl hL.sL (by decide) rfl (Nat.le_of_ble_eq_true rfl) (RR rfl rfl rfl rfl) (fun z => ?_)
    refine g_if_eq hC 64 dL_count_21 rfl (by first | omega | exact cmpZ_in _ _ | exact bI_in _) (fun c21 => ?_) (fun c21 => ?_)
    · have c21 := bI_0.mp c21
      refine gB hC _ _ _ _ _ _ _ qL_count_64 rfl ?_
      refine gB hC _ _ _ _ _ _ _ qL_count_65 rfl ?_
      refine ih (_, t + 1) _ ⟨?_, by show ((t + 1 : Nat) : Int) ≤ N 5; omega⟩ (by show (N 5 - ((t + 1 : Nat) : Int)).toNat < (N 5 - t).toNat; omega)
      rw [hmany]
      first | rw [cntT, if_pos ⟨by omega, by omega, by omega, by omega⟩] | (rw [cntT, if_neg (by omega)])
    · have c21 := bI_n0.mp c21
      refine gB hC _ _ _ _ _ _ _ qL_count_24 rfl ?_
      refine g_getr hC dL_count_25 fL_39 hL.sL (by decide) rfl 15 rfl hL.p15 ?_
      refine gB hC _ _ _ _ _ _ _ qL_count_28 rfl ?_
      refine g_aald hC (j := 8) dL_count_30 hL.ssO (by decide) (hL.ps (by omega) (by omega)) (by omega) (by omega) (by decide) ?_
      refine gB hC _ _ _ _ _ _ _ qL_count_31 rfl ?_
      refine g_iald hC dL_count_32 (hL.ssR (by omega) (by omega)) (hL.t1 (by omega) (by omega)) (by omega) (by omega) (by decide) (fun i32 => ?_)
      refine gB hC _ _ _ _ _ _ _ qL_count_33 rfl ?_
      refine g_icmp_ne hC 64 dL_count_34 rfl (by first | omega | exact cmpZ_in _ _ | exact bI_in _) (by first | omega | exact cmpZ_in _ _ | exact bI_in _) (fun c34 => ?_) (fun c34 => ?_)
      · refine gB hC _ _ _ _ _ _ _ qL_count_64 rfl ?_
        refine gB hC _ _ _ _ _ _ _ qL_count_65 rfl ?_
        refine ih (_, t + 1) _ ⟨?_, by show ((t + 1 : Nat) : Int) ≤ N 5; omega⟩ (by show (N 5 - ((t + 1 : Nat) : Int)).toNat < (N 5 - t).toNat; omega)
        rw [hmany]
        first | rw [cntT, if_pos ⟨by omega, by omega, by omega, by omega⟩] | (rw [cntT, if_neg (by omega)])
      · refine gB hC _ _ _ _ _ _ _ qL_count_37 rfl ?_
        refine g_getr hC dL_count_38 fL_39 hL.sL (by decide) rfl 15 rfl hL.p15 ?_
        refine gB hC _ _ _ _ _ _ _ qL_count_41 rfl ?_
        refine g_aald hC (j := 8) dL_count_43 hL.ssO (by decide) (hL.ps (by omega) (by omega)) (by omega) (by omega) (by decide) ?_
        refine gB hC _ _ _ _ _ _ _ qL_count_44 rfl ?_
        refine g_iald hC dL_count_45 (hL.ssR (by omega) (by omega)) (hL.t2 (by omega) (by omega)) (by omega) (by omega) (by decide) (fun i45 => ?_)
        refine gB hC _ _ _ _ _ _ _ qL_count_46 rfl ?_
        refine g_icmp_gt hC 64 dL_count_47 rfl (by first | omega | exact cmpZ_in _ _ | exact bI_in _) (by first | omega | exact cmpZ_in _ _ | exact bI_in _) (fun c47 => ?_) (fun c47 => ?_)
        · refine gB hC _ _ _ _ _ _ _ qL_count_64 rfl ?_
          refine gB hC _ _ _ _ _ _ _ qL_count_65 rfl ?_
          refine ih (_, t + 1) _ ⟨?_, by show ((t + 1 : Nat) : Int) ≤ N 5; omega⟩ (by show (N 5 - ((t + 1 : Nat) : Int)).toNat < (N 5 - t).toNat; omega)
          rw [hmany]
          first | rw [cntT, if_pos ⟨by omega, by omega, by omega, by omega⟩] | (rw [cntT, if_neg (by omega)])
        · refine gB hC _ _ _ _ _ _ _ qL_count_50 rfl ?_
          refine g_cV1i hC dL_count_54 mL_64 vL_last (kL_last hL hI (by omega) (by omega)) rfl hL.sL (by decide) rfl (Nat.le_of_ble_eq_true rfl) (RR rfl rfl rfl rfl) (fun z i54 => ?_)
          refine g_icmp_gt hC 64 dL_count_57 rfl (by first | omega | exact cmpZ_in _ _ | exact bI_in _) (by first | omega | exact cmpZ_in _ _ | exact bI_in _) (fun c57 => ?_) (fun c57 => ?_)
          · refine gB hC _ _ _ _ _ _ _ qL_count_64 rfl ?_
            refine gB hC _ _ _ _ _ _ _ qL_count_65 rfl ?_
            refine ih (_, t + 1) _ ⟨?_, by show ((t + 1 : Nat) : Int) ≤ N 5; omega⟩ (by show (N 5 - ((t + 1 : Nat) : Int)).toNat < (N 5 - t).toNat; omega)
            rw [hmany]
            first | rw [cntT, if_pos ⟨by omega, by omega, by omega, by omega⟩] | (rw [cntT, if_neg (by omega)])
          · refine gB hC _ _ _ _ _ _ _ qL_count_60 rfl ?_
            refine gB hC _ _ _ _ _ _ _ qL_count_65 rfl ?_
            refine ih (_, t + 1) _ ⟨?_, by show ((t + 1 : Nat) : Int) ≤ N 5; omega⟩ (by show (N 5 - ((t + 1 : Nat) : Int)).toNat < (N 5 - t).toNat; omega)
            rw [hmany]
            first | rw [cntT, if_pos ⟨by omega, by omega, by omega, by omega⟩] | (rw [cntT, if_neg (by omega)])

theorem kL_isInSeason {E l Sh V z} {q w : Int} {N : gN0} {d0 : Int} (hL : LB q w N Sh V) (hI : InvC N) (h0 : 0 ≤ d0) (h1 : d0 < 100) : gM E l yL_isInSeason (.code yL_isInSeason cL_isInSeason 3 (some .boolean)) (rmk 0 0 0 0) [(2, q), (0, d0)] Sh V z (gR (some (0, bI (inS9 N d0))) Sh V) := by
  refine gM_at (L0 := [(2, q), (0, d0), (9, 0)]) rfl rfl rfl ?_
  intro p e s m args below meth c hC hr hex hnm hz
  have hsc := hI.1
  unfold iScal at hsc
  obtain ⟨f9, t9, l9, hf9, ht9, hl9, hse⟩ : ∃ f9 t9 l9, V q 11 = f9 ∧ V q 12 = t9 ∧ V q 14 = l9 ∧ ((N 2 = 0 ∧ l9 = 0) ∨ (N 2 = 1 ∧ f9 = seF N 0 0 ∧ t9 = seF N 0 1 ∧ l9 = seF N 0 3)) := by
    refine ⟨_, _, _, rfl, rfl, rfl, ?_⟩
    rcases hL.ve with ⟨e1, e2⟩ | ⟨e1, e2, e3, e4, e5⟩
    · exact Or.inl ⟨e1, e2⟩
    · exact Or.inr ⟨e1, e2, e3, e5⟩
  have hsi : N 2 = 1 → seOk N 0 := fun h => hI.2.2.1 0 (by omega) (by omega)
  unfold seOk at hsi
  have hdz := dateZ_in (d := 8822 + d0) (by omega) (by omega)
  refine gB hC _ _ _ _ _ _ _ qL_isInSeason_0 rfl ?_
  refine g_getr hC dL_isInSeason_1 fL_16 hL.sL (by decide) rfl 2 rfl hL.p2 ?_
  refine gB hC _ _ _ _ _ _ _ qL_isInSeason_4 rfl ?_
  refine g_iald hC dL_isInSeason_5 hL.sdt (hL.dt (by omega) (by omega)) (by omega) (by omega) (by decide) (fun i5 => ?_)
  refine gB hC _ _ _ _ _ _ _ qL_isInSeason_6 rfl ?_
  refine g_irem hC dL_isInSeason_9 (by first | omega | exact cmpZ_in _ _ | exact bI_in _) (by first | omega | exact cmpZ_in _ _ | exact bI_in _) (by omega) (by omega) ?_
  refine gB hC _ _ _ _ _ _ _ qL_isInSeason_10 rfl ?_
  refine g_getiv hC dL_isInSeason_12 fL_68 hL.sL (by decide) rfl 14 rfl hl9 (fun i12 => ?_)
  refine g_if_le hC 68 dL_isInSeason_15 rfl (by first | omega | exact cmpZ_in _ _ | exact bI_in _) (fun c15 => ?_) (fun c15 => ?_)
  · refine gB hC _ _ _ _ _ _ _ qL_isInSeason_68 rfl ?_
    refine g_zreturn hC dL_isInSeason_69 hr ?_ ⟨?_, rfl, rfl⟩ gs_rfl ⟨Nat.le_of_ble_eq_true rfl, Nat.le_of_ble_eq_true rfl⟩
    · first | exact Or.inl rfl | exact Or.inr rfl | exact bI_01 _
    first | (rw [bI_f (by unfold inS9; omega)]; done) | (rw [bI_t (by unfold inS9; omega)]; done)
  · refine gB hC _ _ _ _ _ _ _ qL_isInSeason_18 rfl ?_
    refine g_getiv hC dL_isInSeason_19 fL_71 hL.sL (by decide) rfl 11 rfl hf9 (fun i19 => ?_)
    refine gB hC _ _ _ _ _ _ _ qL_isInSeason_22 rfl ?_
    refine g_getiv hC dL_isInSeason_23 fL_74 hL.sL (by decide) rfl 12 rfl ht9 (fun i23 => ?_)
    refine g_icmp_gt hC 48 dL_isInSeason_26 rfl (by first | omega | exact cmpZ_in _ _ | exact bI_in _) (by first | omega | exact cmpZ_in _ _ | exact bI_in _) (fun c26 => ?_) (fun c26 => ?_)
    · refine gB hC _ _ _ _ _ _ _ qL_isInSeason_48 rfl ?_
      refine g_getiv hC dL_isInSeason_50 fL_71 hL.sL (by decide) rfl 11 rfl hf9 (fun i50 => ?_)
      refine g_icmp_ge hC 64 dL_isInSeason_53 rfl (by first | omega | exact cmpZ_in _ _ | exact bI_in _) (by first | omega | exact cmpZ_in _ _ | exact bI_in _) (fun c53 => ?_) (fun c53 => ?_)
      · refine gB hC _ _ _ _ _ _ _ qL_isInSeason_64 rfl ?_
        refine g_zreturn hC dL_isInSeason_69 hr ?_ ⟨?_, rfl, rfl⟩ gs_rfl ⟨Nat.le_of_ble_eq_true rfl, Nat.le_of_ble_eq_true rfl⟩
        · first | exact Or.inl rfl | exact Or.inr rfl | exact bI_01 _
        first | (rw [bI_f (by unfold inS9; omega)]; done) | (rw [bI_t (by unfold inS9; omega)]; done)
      · refine gB hC _ _ _ _ _ _ _ qL_isInSeason_56 rfl ?_
        refine g_getiv hC dL_isInSeason_58 fL_74 hL.sL (by decide) rfl 12 rfl ht9 (fun i58 => ?_)
        refine g_icmp_gt hC 68 dL_isInSeason_61 rfl (by first | omega | exact cmpZ_in _ _ | exact bI_in _) (by first | omega | exact cmpZ_in _ _ | exact bI_in _) (fun c61 => ?_) (fun c61 => ?_)
        · refine gB hC _ _ _ _ _ _ _ qL_isInSeason_68 rfl ?_
          refine g_zreturn hC dL_isInSeason_69 hr ?_ ⟨?_, rfl, rfl⟩ gs_rfl ⟨Nat.le_of_ble_eq_true rfl, Nat.le_of_ble_eq_true rfl⟩
          · first | exact Or.inl rfl | exact Or.inr rfl | exact bI_01 _
          first | (rw [bI_f (by unfold inS9; omega)]; done) | (rw [bI_t (by unfold inS9; omega)]; done)
        · refine gB hC _ _ _ _ _ _ _ qL_isInSeason_64 rfl ?_
          refine g_zreturn hC dL_isInSeason_69 hr ?_ ⟨?_, rfl, rfl⟩ gs_rfl ⟨Nat.le_of_ble_eq_true rfl, Nat.le_of_ble_eq_true rfl⟩
          · first | exact Or.inl rfl | exact Or.inr rfl | exact bI_01 _
          first | (rw [bI_f (by unfold inS9; omega)]; done) | (rw [bI_t (by unfold inS9; omega)]; done)
    · refine gB hC _ _ _ _ _ _ _ qL_isInSeason_29 rfl ?_
      refine g_getiv hC dL_isInSeason_30 fL_71 hL.sL (by decide) rfl 11 rfl hf9 (fun i30 => ?_)
      refine gB hC _ _ _ _ _ _ _ qL_isInSeason_33 rfl ?_
      refine g_icmp_gt hC 68 dL_isInSeason_34 rfl (by first | omega | exact cmpZ_in _ _ | exact bI_in _) (by first | omega | exact cmpZ_in _ _ | exact bI_in _) (fun c34 => ?_) (fun c34 => ?_)
      · refine gB hC _ _ _ _ _ _ _ qL_isInSeason_68 rfl ?_
        refine g_zreturn hC dL_isInSeason_69 hr ?_ ⟨?_, rfl, rfl⟩ gs_rfl ⟨Nat.le_of_ble_eq_true rfl, Nat.le_of_ble_eq_true rfl⟩
        · first | exact Or.inl rfl | exact Or.inr rfl | exact bI_01 _
        first | (rw [bI_f (by unfold inS9; omega)]; done) | (rw [bI_t (by unfold inS9; omega)]; done)
      · refine gB hC _ _ _ _ _ _ _ qL_isInSeason_37 rfl ?_
        refine g_getiv hC dL_isInSeason_39 fL_74 hL.sL (by decide) rfl 12 rfl ht9 (fun i39 => ?_)
        refine g_icmp_gt hC 68 dL_isInSeason_42 rfl (by first | omega | exact cmpZ_in _ _ | exact bI_in _) (by first | omega | exact cmpZ_in _ _ | exact bI_in _) (fun c42 => ?_) (fun c42 => ?_)
        · refine gB hC _ _ _ _ _ _ _ qL_isInSeason_68 rfl ?_
          refine g_zreturn hC dL_isInSeason_69 hr ?_ ⟨?_, rfl, rfl⟩ gs_rfl ⟨Nat.le_of_ble_eq_true rfl, Nat.le_of_ble_eq_true rfl⟩
          · first | exact Or.inl rfl | exact Or.inr rfl | exact bI_01 _
          first | (rw [bI_f (by unfold inS9; omega)]; done) | (rw [bI_t (by unfold inS9; omega)]; done)
        · refine gB hC _ _ _ _ _ _ _ qL_isInSeason_45 rfl ?_
          refine gB hC _ _ _ _ _ _ _ qL_isInSeason_64 rfl ?_
          refine g_zreturn hC dL_isInSeason_69 hr ?_ ⟨?_, rfl, rfl⟩ gs_rfl ⟨Nat.le_of_ble_eq_true rfl, Nat.le_of_ble_eq_true rfl⟩
          · first | exact Or.inl rfl | exact Or.inr rfl | exact bI_01 _
          first | (rw [bI_f (by unfold inS9; omega)]; done) | (rw [bI_t (by unfold inS9; omega)]; done)

theorem kL_full {E l Sh V z} {q w : Int} {N : gN0} {k0 f0 n0 : Int} (hL : LB q w N Sh V) (hI : InvC N) (h0 : 0 ≤ k0) (h1 : k0 < 2) (h2 : 0 ≤ f0) (h3 : 0 ≤ n0) (h4 : f0 + n0 ≤ 100) : gM E l yL_full (.code yL_full cL_full 5 (some .int)) (rmk 2 0 0 80) [(2, q), (0, k0), (0, f0), (0, n0)] Sh V z (gRi (m88 (rfs N k0 (8822 + f0) n0)) Sh V) := by
  refine gM_at (L0 := [(2, q), (0, k0), (0, f0), (0, n0), (9, 0)]) rfl rfl rfl ?_
  intro p e s m args below meth c hC hr hex hnm hz
  have hsc := hI.1
  unfold iScal at hsc
  have hk := hI.2.1 k0 h0 (by omega)
  unfold kOk at hk
  have hrin := rfs_in N k0 (8822 + f0) n0 (by omega) (by omega)
  refine gB hC _ _ _ _ _ _ _ qL_full_0 rfl ?_
  refine g_loop (fun x : Int × Nat => rfs N k0 (8822 + f0) n0 = rfsT N k0 (8822 + x.1) x.2 ∧ x.1 + x.2 = f0 + n0 ∧ f0 ≤ x.1) (fun x => x.2) 3 (fun x => [(2, q), (0, k0), (0, f0), (0, n0), (0, x.1)]) (fun _ => V) (f0, n0.toNat) ⟨rfl, by show f0 + (n0.toNat : Int) = _; omega, Int.le_refl _⟩ ?_
  rintro ⟨d, m⟩ z ⟨hr9, hd, hf⟩ ih
  dsimp only at hr9 hd hf ih ⊢
  have hcn := cnt_in hI k0 (8822 + d)
  have hcb := bI_01 (bitZ (N (1596 + k0 * 1142 + (8822 + d) / 32)) ((8822 + d) % 32).toNat = 1)
  refine gB hC _ _ _ _ _ _ _ qL_full_3 rfl ?_
  refine g_icmp_ge hC 55 dL_full_8 rfl (by first | omega | exact cmpZ_in _ _ | exact bI_in _) (by first | omega | exact cmpZ_in _ _ | exact bI_in _) (fun c8 => ?_) (fun c8 => ?_)
  · refine gB hC _ _ _ _ _ _ _ qL_full_55 rfl ?_
    refine g_ireturn hC dL_full_56 hr ⟨?_, rfl, rfl, by unfold m88; split <;> omega⟩ gs_rfl ⟨Nat.le_of_ble_eq_true rfl, Nat.le_of_ble_eq_true rfl⟩
    have hq : m = 0 := by omega
    subst hq
    rw [hr9]; rfl
  · obtain ⟨m2, rfl⟩ : ∃ m2, m = m2 + 1 := ⟨m - 1, by omega⟩
    rw [rfsT] at hr9
    refine gB hC _ _ _ _ _ _ _ qL_full_11 rfl ?_
    refine g_getr hC dL_full_12 fL_34 hL.sL (by decide) rfl 8 rfl hL.p8 ?_
    refine gB hC _ _ _ _ _ _ _ qL_full_15 rfl ?_
    refine g_aald hC (j := 9) dL_full_16 hL.scO (by decide) (hL.pc (by omega) (by omega)) (by omega) (by omega) (by decide) ?_
    refine gB hC _ _ _ _ _ _ _ qL_full_17 rfl ?_
    refine g_zald hC dL_full_19 (hL.scR (by omega) (by omega)) (hL.kc (by omega) (by omega) (by omega) (by omega)) (by omega) (by omega) (by decide) (fun i19 => ?_)
    refine g_if_ne hC 46 dL_full_20 rfl (by first | omega | exact cmpZ_in _ _ | exact bI_in _) (fun c20 => ?_) (fun c20 => ?_)
    · unfold clb at c20
      have c20 := bI_n0.mp c20
      refine gB hC _ _ _ _ _ _ _ qL_full_46 rfl ?_
      refine g_ireturn hC dL_full_48 hr ⟨?_, rfl, rfl, by unfold m88; split <;> omega⟩ gs_rfl ⟨Nat.le_of_ble_eq_true rfl, Nat.le_of_ble_eq_true rfl⟩
      have hx : rfs N k0 (8822 + f0) n0 = 8822 + d := by first | rw [hr9, if_pos (Or.inl c20)] | rw [hr9, if_pos (by omega)]
      rw [hx]; unfold m88; rw [if_neg (by omega)]; congr 3; omega
    · unfold clb at c20
      have c20 := bI_0.mp c20
      refine gB hC _ _ _ _ _ _ _ qL_full_23 rfl ?_
      refine g_cV1i hC dL_full_27 mL_77 vL_count (kL_count hL hI (by omega) (by omega)) rfl hL.sL (by decide) rfl (Nat.le_of_ble_eq_true rfl) (RR rfl rfl rfl rfl) (fun z i27 => ?_)
      refine gB hC _ _ _ _ _ _ _ qL_full_30 rfl ?_
      refine g_getr hC dL_full_31 fL_23 hL.sL (by decide) rfl 5 rfl hL.p5 ?_
      refine gB hC _ _ _ _ _ _ _ qL_full_34 rfl ?_
      refine g_iald hC dL_full_35 hL.srm (hL.k0 (by omega) (by omega)) (by omega) (by omega) (by decide) (fun i35 => ?_)
      refine gB hC _ _ _ _ _ _ _ qL_full_36 rfl ?_
      refine g_getr hC dL_full_37 fL_29 hL.sL (by decide) rfl 7 rfl hL.p7 ?_
      refine gB hC _ _ _ _ _ _ _ qL_full_40 rfl ?_
      refine g_iald hC dL_full_41 hL.sex (hL.k2 (by omega) (by omega)) (by omega) (by omega) (by decide) (fun i41 => ?_)
      refine gB hC _ _ _ _ _ _ _ qL_full_42 rfl ?_
      refine g_icmp_lt hC 49 dL_full_43 rfl (by first | omega | exact cmpZ_in _ _ | exact bI_in _) (by first | omega | exact cmpZ_in _ _ | exact bI_in _) (fun c43 => ?_) (fun c43 => ?_)
      · refine gB hC _ _ _ _ _ _ _ qL_full_49 rfl ?_
        refine ih (d + 1, m2) _ ⟨?_, by show d + 1 + (m2 : Int) = _; omega, by show f0 ≤ d + 1; omega⟩ (by show m2 < m2 + 1; omega)
        rw [hr9, if_neg (by omega)]
        show _ = rfsT N k0 (8822 + (d + 1)) m2
        rw [show 8822 + (d + 1) = 8822 + d + 1 by omega]
      · refine gB hC _ _ _ _ _ _ _ qL_full_46 rfl ?_
        refine g_ireturn hC dL_full_48 hr ⟨?_, rfl, rfl, by unfold m88; split <;> omega⟩ gs_rfl ⟨Nat.le_of_ble_eq_true rfl, Nat.le_of_ble_eq_true rfl⟩
        have hx : rfs N k0 (8822 + f0) n0 = 8822 + d := by first | rw [hr9, if_pos (Or.inl c20)] | rw [hr9, if_pos (by omega)]
        rw [hx]; unfold m88; rw [if_neg (by omega)]; congr 3; omega

section ST0
variable {E : gE} {nL : Nat} {p : Program} {l : Launch} {e : Env} {R : Room} {s : State} {m : MethodId} {args : Array Value} {below : List Frame} {meth : Method} {c : Code} {Q : State → Prop} {pc : Nat} {L st : List aV} {Sh : gSh} {V : gV} {z : Int} {k n : Nat}
theorem g_st0 {x : Int} {t : Nat} (y : Int) (h : x = y) (kk : gG E nL p l e R s m args below meth c Q pc L ((t, y) :: st) Sh V z k n) : gG E nL p l e R s m args below meth c Q pc L ((t, x) :: st) Sh V z k n := by
  rw [h]; exact kk
theorem g_st1 {a : aV} {x : Int} {t : Nat} (y : Int) (h : x = y) (kk : gG E nL p l e R s m args below meth c Q pc L (a :: (t, y) :: st) Sh V z k n) : gG E nL p l e R s m args below meth c Q pc L (a :: (t, x) :: st) Sh V z k n := by
  rw [h]; exact kk
end ST0
theorem rfd9 {N : gN0} (hI : InvC N) {k0 f0 n0 : Int} (h2 : N 2 ≤ 1) (f1 : 0 ≤ f0) (f2 : f0 < 100) (n1 : 1 ≤ n0) : rfd N k0 (8822 + f0) n0 = if rfs N k0 (8822 + f0) n0 ≠ -1 then rfs N k0 (8822 + f0) n0 else if inS9 N f0 ∧ n0 < seF N 0 3 then 8822 + f0 else -1 := by
  have hsc := hI.1
  unfold iScal at hsc
  unfold rfd
  split
  · rfl
  · have e : lstN N (8822 + f0) = if inS9 N f0 then seF N 0 3 else 1 := by
      unfold lstN
      rcases (show N 2 = 0 ∨ N 2 = 1 by omega) with h | h
      · rw [if_neg (fun q => by have := q.1; omega), show (N 2).toNat = 0 by omega]; rfl
      · have hs := hI.2.2.1 0 (by omega) (by omega)
        unfold seOk at hs
        rw [show (N 2).toNat = 1 by omega]
        show (if _ then max 1 (seF N 0 3) else 1) = _
        unfold inS9
        by_cases g : (seF N 0 0 ≤ seF N 0 1 ∧ seF N 0 0 ≤ dateZ (8822 + f0) % 10000 ∧ dateZ (8822 + f0) % 10000 ≤ seF N 0 1) ∨ (seF N 0 1 < seF N 0 0 ∧ (seF N 0 0 ≤ dateZ (8822 + f0) % 10000 ∨ dateZ (8822 + f0) % 10000 ≤ seF N 0 1))
        · exact (if_pos g).trans ((show max 1 (seF N 0 3) = seF N 0 3 by omega).trans (if_pos (show inS9 N f0 from ⟨h, g⟩)).symm)
        · exact (if_neg g).trans (if_neg (show ¬ inS9 N f0 from fun q => g q.2)).symm
    rw [e]
    by_cases g : inS9 N f0
    · rw [if_pos g]
      by_cases g2 : n0 < seF N 0 3
      · rw [if_pos g2, if_pos ⟨g, g2⟩]
      · rw [if_neg g2, if_neg (fun q => g2 q.2)]
    · rw [if_neg g, if_neg (by omega), if_neg (fun q => g q.1)]
theorem nPr9 {N : gN0} (hI : InvC N) {k0 d0 : Int} (h2 : N 2 ≤ 1) (k1 : 0 ≤ k0) (k2 : k0 < 2) (d1 : 0 ≤ d0) (d2 : d0 < 100) : pct N k0 (8822 + d0) = 100 + 10 * (4 * cnt N k0 (8822 + d0) / kF N k0 0) + (if inS9 N d0 then seF N 0 2 else 0) + (if wdZ (8822 + d0) = 5 ∨ wdZ (8822 + d0) = 6 then N 3 else 0) := by
  have hsc := hI.1
  unfold iScal at hsc
  unfold pct
  congr 1
  rcases (show N 2 = 0 ∨ N 2 = 1 by omega) with h | h
  · rw [if_neg (fun q => by have := q.1; omega), show (N 2).toNat = 0 by omega]
    show _ = _ + (0 : Int)
    rw [Int.add_zero]
    rfl
  · rw [show (N 2).toNat = 1 by omega]
    show _ + (if _ then seF N 0 2 else 0) = _
    unfold inS9
    congr 1
    by_cases g : (seF N 0 0 ≤ seF N 0 1 ∧ seF N 0 0 ≤ dateZ (8822 + d0) % 10000 ∧ dateZ (8822 + d0) % 10000 ≤ seF N 0 1) ∨ (seF N 0 1 < seF N 0 0 ∧ (seF N 0 0 ≤ dateZ (8822 + d0) % 10000 ∨ dateZ (8822 + d0) % 10000 ≤ seF N 0 1))
    · exact (if_pos g).trans (if_pos (show inS9 N d0 from ⟨h, g⟩)).symm
    · exact (if_neg g).trans (if_neg (show ¬ inS9 N d0 from fun q => g q.2)).symm

theorem kL_refusing {E l Sh V z} {q w : Int} {N : gN0} {k0 f0 n0 : Int} (hL : LB q w N Sh V) (hI : InvC N) (h9 : N 2 ≤ 1) (h0 : 0 ≤ k0) (h1 : k0 < 2) (h2 : 0 ≤ f0) (h3 : 1 ≤ n0) (h4 : f0 + n0 ≤ 100) : gM E l yL_refusing (.code yL_refusing cL_refusing 5 (some .int)) (rmk 3 0 0 120) [(2, q), (0, k0), (0, f0), (0, n0)] Sh V z (gRi (m88 (rfd N k0 (8822 + f0) n0)) Sh V) := by
  refine gM_at (L0 := [(2, q), (0, k0), (0, f0), (0, n0), (9, 0)]) rfl rfl rfl ?_
  intro p e s m args below meth c hC hr hex hnm hz
  have hsc := hI.1
  unfold iScal at hsc
  obtain ⟨f9, t9, l9, hf9, ht9, hl9, hse⟩ : ∃ f9 t9 l9, V q 11 = f9 ∧ V q 12 = t9 ∧ V q 14 = l9 ∧ ((N 2 = 0 ∧ l9 = 0) ∨ (N 2 = 1 ∧ f9 = seF N 0 0 ∧ t9 = seF N 0 1 ∧ l9 = seF N 0 3)) := by
    refine ⟨_, _, _, rfl, rfl, rfl, ?_⟩
    rcases hL.ve with ⟨e1, e2⟩ | ⟨e1, e2, e3, e4, e5⟩
    · exact Or.inl ⟨e1, e2⟩
    · exact Or.inr ⟨e1, e2, e3, e5⟩
  have hsi : N 2 = 1 → seOk N 0 := fun h => hI.2.2.1 0 (by omega) (by omega)
  unfold seOk at hsi
  have hrin := rfs_in N k0 (8822 + f0) n0 (by omega) (by omega)
  have hrd := rfd9 hI (k0 := k0) h9 h2 (by omega) h3
  have hrg : rfs N k0 (8822 + f0) n0 = -1 ∨ 8822 + f0 ≤ rfs N k0 (8822 + f0) n0 := by rcases rfsT_in N k0 n0.toNat (8822 + f0) with h | h; exact Or.inl h; exact Or.inr h.1
  have hmm : (rfs N k0 (8822 + f0) n0 = -1 ∧ m88 (rfs N k0 (8822 + f0) n0) = -1) ∨ (8822 + f0 ≤ rfs N k0 (8822 + f0) n0 ∧ m88 (rfs N k0 (8822 + f0) n0) = rfs N k0 (8822 + f0) n0 - 8822) := by unfold m88; split <;> omega
  refine gB hC _ _ _ _ _ _ _ qL_refusing_0 rfl ?_
  refine g_cV1i hC dL_refusing_4 mL_81 vL_full (kL_full hL hI (by omega) (by omega) (by omega) (by omega) (by omega)) rfl hL.sL (by decide) rfl (Nat.le_of_ble_eq_true rfl) (RR rfl rfl rfl rfl) (fun z i4 => ?_)
  refine gB hC _ _ _ _ _ _ _ qL_refusing_7 rfl ?_
  refine g_if_lt hC 19 dL_refusing_11 rfl (by first | omega | exact cmpZ_in _ _ | exact bI_in _) (fun c11 => ?_) (fun c11 => ?_)
  · refine gB hC _ _ _ _ _ _ _ qL_refusing_19 rfl ?_
    refine g_cV1 hC dL_refusing_21 mL_85 vL_isInSeason (kL_isInSeason hL hI (by omega) (by omega)) rfl hL.sL (by decide) rfl (Nat.le_of_ble_eq_true rfl) (RR rfl rfl rfl rfl) (fun z => ?_)
    refine g_if_eq hC 39 dL_refusing_24 rfl (by first | omega | exact cmpZ_in _ _ | exact bI_in _) (fun c24 => ?_) (fun c24 => ?_)
    · have c24 := bI_0.mp c24
      refine gB hC _ _ _ _ _ _ _ qL_refusing_39 rfl ?_
      refine g_ireturn hC dL_refusing_40 hr ⟨?_, rfl, rfl, ?_⟩ gs_rfl ⟨Nat.le_of_ble_eq_true rfl, Nat.le_of_ble_eq_true rfl⟩
      · rw [hrd]
        first | (rw [if_pos (by omega)]; done) | (rw [if_neg (by omega), if_pos ⟨c24, by omega⟩]; unfold m88; rw [if_neg (by omega)]; congr 3; omega) | (rw [if_neg (by omega), if_neg (fun h => by have := h.2; omega)]; rfl) | (rw [if_neg (by omega), if_neg (fun h => c24 h.1)]; rfl)
      · rw [hrd]; unfold m88; (repeat' split) <;> omega
    · have c24x := (bI_n0.mp c24).1
      have c24 := bI_n0.mp c24
      refine gB hC _ _ _ _ _ _ _ qL_refusing_27 rfl ?_
      refine g_getiv hC dL_refusing_29 fL_68 hL.sL (by decide) rfl 14 rfl hl9 (fun i29 => ?_)
      refine g_icmp_ge hC 39 dL_refusing_32 rfl (by first | omega | exact cmpZ_in _ _ | exact bI_in _) (by first | omega | exact cmpZ_in _ _ | exact bI_in _) (fun c32 => ?_) (fun c32 => ?_)
      · refine gB hC _ _ _ _ _ _ _ qL_refusing_39 rfl ?_
        refine g_ireturn hC dL_refusing_40 hr ⟨?_, rfl, rfl, ?_⟩ gs_rfl ⟨Nat.le_of_ble_eq_true rfl, Nat.le_of_ble_eq_true rfl⟩
        · rw [hrd]
          first | (rw [if_pos (by omega)]; done) | (rw [if_neg (by omega), if_pos ⟨c24, by omega⟩]; unfold m88; rw [if_neg (by omega)]; congr 3; omega) | (rw [if_neg (by omega), if_neg (fun h => by have := h.2; omega)]; rfl) | (rw [if_neg (by omega), if_neg (fun h => c24 h.1)]; rfl)
        · rw [hrd]; unfold m88; (repeat' split) <;> omega
      · refine gB hC _ _ _ _ _ _ _ qL_refusing_35 rfl ?_
        refine g_ireturn hC dL_refusing_40 hr ⟨?_, rfl, rfl, ?_⟩ gs_rfl ⟨Nat.le_of_ble_eq_true rfl, Nat.le_of_ble_eq_true rfl⟩
        · rw [hrd]
          first | (rw [if_pos (by omega)]; done) | (rw [if_neg (by omega), if_pos ⟨c24, by omega⟩]; unfold m88; rw [if_neg (by omega)]; congr 3; omega) | (rw [if_neg (by omega), if_neg (fun h => by have := h.2; omega)]; rfl) | (rw [if_neg (by omega), if_neg (fun h => c24 h.1)]; rfl)
        · rw [hrd]; unfold m88; (repeat' split) <;> omega
  · refine gB hC _ _ _ _ _ _ _ qL_refusing_14 rfl ?_
    refine g_ireturn hC dL_refusing_40 hr ⟨?_, rfl, rfl, ?_⟩ gs_rfl ⟨Nat.le_of_ble_eq_true rfl, Nat.le_of_ble_eq_true rfl⟩
    · rw [hrd]
      first | (rw [if_pos (by omega)]; done) | (rw [if_neg (by omega), if_pos ⟨c24, by omega⟩]; unfold m88; rw [if_neg (by omega)]; congr 3; omega) | (rw [if_neg (by omega), if_neg (fun h => by have := h.2; omega)]; rfl) | (rw [if_neg (by omega), if_neg (fun h => c24 h.1)]; rfl)
    · rw [hrd]; unfold m88; (repeat' split) <;> omega

theorem kL_price {E l Sh V z} {q w : Int} {N : gN0} {k0 d0 : Int} (hL : LB q w N Sh V) (hI : InvC N) (h9 : N 2 ≤ 1) (h0 : 0 ≤ k0) (h1 : k0 < 2) (h2 : 0 ≤ d0) (h3 : d0 < 100) : gM E l yL_price (.code yL_price cL_price 4 (some .int)) (rmk 2 0 0 80) [(2, q), (0, k0), (0, d0)] Sh V z (gRi (nPr N k0 (8822 + d0)) Sh V) := by
  refine gM_at (L0 := [(2, q), (0, k0), (0, d0), (9, 0)]) rfl rfl rfl ?_
  intro p e s m args below meth c hC hr hex hnm hz
  have hsc := hI.1
  unfold iScal at hsc
  have hk := hI.2.1 k0 h0 (by omega)
  unfold kOk at hk
  have hcn := cnt_in hI k0 (8822 + d0)
  have hdv := div_in (a := 4 * cnt N k0 (8822 + d0)) (b := kF N k0 0) (A := 240) (by omega) (by omega) (by omega)
  have hnp := nPr_in hI h0 (by omega : k0 < N 1) (8822 + d0)
  have hpe := nPr9 hI (k0 := k0) h9 h0 h1 h2 h3
  have hpi := pct_in hI h0 (by omega : k0 < N 1) (8822 + d0)
  rw [Int.mul_comm 4] at hdv hpe
  obtain ⟨p9, hp9, hsp⟩ : ∃ p9, V q 13 = p9 ∧ (N 2 = 1 → p9 = seF N 0 2) := by
    refine ⟨_, rfl, fun h => ?_⟩
    rcases hL.ve with ⟨e1, e2⟩ | ⟨e1, e2, e3, e4, e5⟩
    · omega
    · exact e4
  have hsi : N 2 = 1 → seOk N 0 := fun h => hI.2.2.1 0 (by omega) (by omega)
  unfold seOk at hsi
  refine gB hC _ _ _ _ _ _ _ qL_price_0 rfl ?_
  refine g_cV1i hC dL_price_5 mL_77 vL_count (kL_count hL hI (by omega) (by omega)) rfl hL.sL (by decide) rfl (Nat.le_of_ble_eq_true rfl) (RR rfl rfl rfl rfl) (fun z i5 => ?_)
  refine gB hC _ _ _ _ _ _ _ qL_price_8 rfl ?_
  refine g_getr hC dL_price_11 fL_23 hL.sL (by decide) rfl 5 rfl hL.p5 ?_
  refine gB hC _ _ _ _ _ _ _ qL_price_14 rfl ?_
  refine g_iald hC dL_price_15 hL.srm (hL.k0 (by omega) (by omega)) (by omega) (by omega) (by decide) (fun i15 => ?_)
  refine g_idiv hC dL_price_16 (by first | omega | exact cmpZ_in _ _ | exact bI_in _) (by first | omega | exact cmpZ_in _ _ | exact bI_in _) (by omega) (by omega) ?_
  refine gB hC _ _ _ _ _ _ _ qL_price_17 rfl ?_
  refine g_cV1 hC dL_price_23 mL_85 vL_isInSeason (kL_isInSeason hL hI (by omega) (by omega)) rfl hL.sL (by decide) rfl (Nat.le_of_ble_eq_true rfl) (RR rfl rfl rfl rfl) (fun z => ?_)
  refine g_if_eq hC 36 dL_price_26 rfl (by first | omega | exact cmpZ_in _ _ | exact bI_in _) (fun c26 => ?_) (fun c26 => ?_)
  · have d26 := bI_0.mp c26
    rw [if_neg d26] at hpe
    have c26 := bI_0.mp c26
    refine gB hC _ _ _ _ _ _ _ qL_price_36 rfl ?_
    refine gB hC _ _ _ _ _ _ _ qL_price_37 rfl ?_
    refine g_getr hC dL_price_39 fL_20 hL.sL (by decide) rfl 3 rfl hL.p3 ?_
    refine gB hC _ _ _ _ _ _ _ qL_price_42 rfl ?_
    refine g_iald hC dL_price_43 hL.swk (hL.wk (by omega) (by omega)) (by omega) (by omega) (by decide) (fun i43 => ?_)
    refine gB hC _ _ _ _ _ _ _ qL_price_44 rfl ?_
    refine g_icmp_eq hC 59 dL_price_45 rfl (by first | omega | exact cmpZ_in _ _ | exact bI_in _) (by first | omega | exact cmpZ_in _ _ | exact bI_in _) (fun c45 => ?_) (fun c45 => ?_)
    · rw [if_pos (Or.inl c45)] at hpe
      refine gB hC _ _ _ _ _ _ _ qL_price_59 rfl ?_
      refine g_getiv hC dL_price_60 fL_91 hL.sL (by decide) rfl 9 rfl hL.v9 (fun i60 => ?_)
      refine gB hC _ _ _ _ _ _ _ qL_price_63 rfl ?_
      refine gB hC _ _ _ _ _ _ _ qL_price_67 rfl ?_
      refine g_getr hC dL_price_70 fL_26 hL.sL (by decide) rfl 6 rfl hL.p6 ?_
      refine gB hC _ _ _ _ _ _ _ qL_price_73 rfl ?_
      refine g_iald hC dL_price_74 hL.sbs (hL.k1 (by omega) (by omega)) (by omega) (by omega) (by decide) (fun i74 => ?_)
      refine gB hC _ _ _ _ _ _ _ qL_price_75 rfl ?_
      refine g_st1 (y := pct N k0 (8822 + d0)) (by omega) ?_
      have hml := mul_in (a := kF N k0 1) (b := max (pct N k0 (8822 + d0)) 0) (A := 100000) (B := 3100) (by omega) (by omega) (by omega) (by omega)
      refine g_max hC dL_price_77 mL_94 (by first | omega | exact cmpZ_in _ _ | exact bI_in _) (by first | omega | exact cmpZ_in _ _ | exact bI_in _) ⟨Nat.le_of_ble_eq_true rfl, Nat.le_of_ble_eq_true rfl, Nat.le_of_ble_eq_true rfl, Nat.le_of_ble_eq_true rfl⟩ ?_
      refine gB hC _ _ _ _ _ _ _ qL_price_80 rfl ?_
      refine g_idiv hC dL_price_86 (by first | omega | exact cmpZ_in _ _ | exact bI_in _) (by first | omega | exact cmpZ_in _ _ | exact bI_in _) (by omega) (by omega) ?_
      refine g_ireturn hC dL_price_87 hr ⟨?_, rfl, rfl, by omega⟩ gs_rfl ⟨Nat.le_of_ble_eq_true rfl, Nat.le_of_ble_eq_true rfl⟩
      unfold nPr
      by_cases hg : pct N k0 (8822 + d0) < 0
      · rw [if_pos hg, show max (pct N k0 (8822 + d0)) 0 = 0 by omega]; congr 3; omega
      · rw [if_neg hg, show max (pct N k0 (8822 + d0)) 0 = pct N k0 (8822 + d0) by omega]
    · refine gB hC _ _ _ _ _ _ _ qL_price_48 rfl ?_
      refine g_getr hC dL_price_49 fL_20 hL.sL (by decide) rfl 3 rfl hL.p3 ?_
      refine gB hC _ _ _ _ _ _ _ qL_price_52 rfl ?_
      refine g_iald hC dL_price_53 hL.swk (hL.wk (by omega) (by omega)) (by omega) (by omega) (by decide) (fun i53 => ?_)
      refine gB hC _ _ _ _ _ _ _ qL_price_54 rfl ?_
      refine g_icmp_ne hC 66 dL_price_56 rfl (by first | omega | exact cmpZ_in _ _ | exact bI_in _) (by first | omega | exact cmpZ_in _ _ | exact bI_in _) (fun c56 => ?_) (fun c56 => ?_)
      · rw [if_neg (by omega)] at hpe
        refine gB hC _ _ _ _ _ _ _ qL_price_66 rfl ?_
        refine gB hC _ _ _ _ _ _ _ qL_price_67 rfl ?_
        refine g_getr hC dL_price_70 fL_26 hL.sL (by decide) rfl 6 rfl hL.p6 ?_
        refine gB hC _ _ _ _ _ _ _ qL_price_73 rfl ?_
        refine g_iald hC dL_price_74 hL.sbs (hL.k1 (by omega) (by omega)) (by omega) (by omega) (by decide) (fun i74 => ?_)
        refine gB hC _ _ _ _ _ _ _ qL_price_75 rfl ?_
        refine g_st1 (y := pct N k0 (8822 + d0)) (by omega) ?_
        have hml := mul_in (a := kF N k0 1) (b := max (pct N k0 (8822 + d0)) 0) (A := 100000) (B := 3100) (by omega) (by omega) (by omega) (by omega)
        refine g_max hC dL_price_77 mL_94 (by first | omega | exact cmpZ_in _ _ | exact bI_in _) (by first | omega | exact cmpZ_in _ _ | exact bI_in _) ⟨Nat.le_of_ble_eq_true rfl, Nat.le_of_ble_eq_true rfl, Nat.le_of_ble_eq_true rfl, Nat.le_of_ble_eq_true rfl⟩ ?_
        refine gB hC _ _ _ _ _ _ _ qL_price_80 rfl ?_
        refine g_idiv hC dL_price_86 (by first | omega | exact cmpZ_in _ _ | exact bI_in _) (by first | omega | exact cmpZ_in _ _ | exact bI_in _) (by omega) (by omega) ?_
        refine g_ireturn hC dL_price_87 hr ⟨?_, rfl, rfl, by omega⟩ gs_rfl ⟨Nat.le_of_ble_eq_true rfl, Nat.le_of_ble_eq_true rfl⟩
        unfold nPr
        by_cases hg : pct N k0 (8822 + d0) < 0
        · rw [if_pos hg, show max (pct N k0 (8822 + d0)) 0 = 0 by omega]; congr 3; omega
        · rw [if_neg hg, show max (pct N k0 (8822 + d0)) 0 = pct N k0 (8822 + d0) by omega]
      · rw [if_pos (Or.inr (by omega))] at hpe
        refine gB hC _ _ _ _ _ _ _ qL_price_59 rfl ?_
        refine g_getiv hC dL_price_60 fL_91 hL.sL (by decide) rfl 9 rfl hL.v9 (fun i60 => ?_)
        refine gB hC _ _ _ _ _ _ _ qL_price_63 rfl ?_
        refine gB hC _ _ _ _ _ _ _ qL_price_67 rfl ?_
        refine g_getr hC dL_price_70 fL_26 hL.sL (by decide) rfl 6 rfl hL.p6 ?_
        refine gB hC _ _ _ _ _ _ _ qL_price_73 rfl ?_
        refine g_iald hC dL_price_74 hL.sbs (hL.k1 (by omega) (by omega)) (by omega) (by omega) (by decide) (fun i74 => ?_)
        refine gB hC _ _ _ _ _ _ _ qL_price_75 rfl ?_
        refine g_st1 (y := pct N k0 (8822 + d0)) (by omega) ?_
        have hml := mul_in (a := kF N k0 1) (b := max (pct N k0 (8822 + d0)) 0) (A := 100000) (B := 3100) (by omega) (by omega) (by omega) (by omega)
        refine g_max hC dL_price_77 mL_94 (by first | omega | exact cmpZ_in _ _ | exact bI_in _) (by first | omega | exact cmpZ_in _ _ | exact bI_in _) ⟨Nat.le_of_ble_eq_true rfl, Nat.le_of_ble_eq_true rfl, Nat.le_of_ble_eq_true rfl, Nat.le_of_ble_eq_true rfl⟩ ?_
        refine gB hC _ _ _ _ _ _ _ qL_price_80 rfl ?_
        refine g_idiv hC dL_price_86 (by first | omega | exact cmpZ_in _ _ | exact bI_in _) (by first | omega | exact cmpZ_in _ _ | exact bI_in _) (by omega) (by omega) ?_
        refine g_ireturn hC dL_price_87 hr ⟨?_, rfl, rfl, by omega⟩ gs_rfl ⟨Nat.le_of_ble_eq_true rfl, Nat.le_of_ble_eq_true rfl⟩
        unfold nPr
        by_cases hg : pct N k0 (8822 + d0) < 0
        · rw [if_pos hg, show max (pct N k0 (8822 + d0)) 0 = 0 by omega]; congr 3; omega
        · rw [if_neg hg, show max (pct N k0 (8822 + d0)) 0 = pct N k0 (8822 + d0) by omega]
  · have d26 := bI_n0.mp c26
    have hpp := hsp d26.1
    rw [if_pos d26] at hpe
    have hsj := hsi d26.1
    have c26 := bI_n0.mp c26
    refine gB hC _ _ _ _ _ _ _ qL_price_29 rfl ?_
    refine g_getiv hC dL_price_30 fL_88 hL.sL (by decide) rfl 13 rfl hp9 (fun i30 => ?_)
    refine gB hC _ _ _ _ _ _ _ qL_price_33 rfl ?_
    refine gB hC _ _ _ _ _ _ _ qL_price_37 rfl ?_
    refine g_getr hC dL_price_39 fL_20 hL.sL (by decide) rfl 3 rfl hL.p3 ?_
    refine gB hC _ _ _ _ _ _ _ qL_price_42 rfl ?_
    refine g_iald hC dL_price_43 hL.swk (hL.wk (by omega) (by omega)) (by omega) (by omega) (by decide) (fun i43 => ?_)
    refine gB hC _ _ _ _ _ _ _ qL_price_44 rfl ?_
    refine g_icmp_eq hC 59 dL_price_45 rfl (by first | omega | exact cmpZ_in _ _ | exact bI_in _) (by first | omega | exact cmpZ_in _ _ | exact bI_in _) (fun c45 => ?_) (fun c45 => ?_)
    · rw [if_pos (Or.inl c45)] at hpe
      refine gB hC _ _ _ _ _ _ _ qL_price_59 rfl ?_
      refine g_getiv hC dL_price_60 fL_91 hL.sL (by decide) rfl 9 rfl hL.v9 (fun i60 => ?_)
      refine gB hC _ _ _ _ _ _ _ qL_price_63 rfl ?_
      refine gB hC _ _ _ _ _ _ _ qL_price_67 rfl ?_
      refine g_getr hC dL_price_70 fL_26 hL.sL (by decide) rfl 6 rfl hL.p6 ?_
      refine gB hC _ _ _ _ _ _ _ qL_price_73 rfl ?_
      refine g_iald hC dL_price_74 hL.sbs (hL.k1 (by omega) (by omega)) (by omega) (by omega) (by decide) (fun i74 => ?_)
      refine gB hC _ _ _ _ _ _ _ qL_price_75 rfl ?_
      refine g_st1 (y := pct N k0 (8822 + d0)) (by omega) ?_
      have hml := mul_in (a := kF N k0 1) (b := max (pct N k0 (8822 + d0)) 0) (A := 100000) (B := 3100) (by omega) (by omega) (by omega) (by omega)
      refine g_max hC dL_price_77 mL_94 (by first | omega | exact cmpZ_in _ _ | exact bI_in _) (by first | omega | exact cmpZ_in _ _ | exact bI_in _) ⟨Nat.le_of_ble_eq_true rfl, Nat.le_of_ble_eq_true rfl, Nat.le_of_ble_eq_true rfl, Nat.le_of_ble_eq_true rfl⟩ ?_
      refine gB hC _ _ _ _ _ _ _ qL_price_80 rfl ?_
      refine g_idiv hC dL_price_86 (by first | omega | exact cmpZ_in _ _ | exact bI_in _) (by first | omega | exact cmpZ_in _ _ | exact bI_in _) (by omega) (by omega) ?_
      refine g_ireturn hC dL_price_87 hr ⟨?_, rfl, rfl, by omega⟩ gs_rfl ⟨Nat.le_of_ble_eq_true rfl, Nat.le_of_ble_eq_true rfl⟩
      unfold nPr
      by_cases hg : pct N k0 (8822 + d0) < 0
      · rw [if_pos hg, show max (pct N k0 (8822 + d0)) 0 = 0 by omega]; congr 3; omega
      · rw [if_neg hg, show max (pct N k0 (8822 + d0)) 0 = pct N k0 (8822 + d0) by omega]
    · refine gB hC _ _ _ _ _ _ _ qL_price_48 rfl ?_
      refine g_getr hC dL_price_49 fL_20 hL.sL (by decide) rfl 3 rfl hL.p3 ?_
      refine gB hC _ _ _ _ _ _ _ qL_price_52 rfl ?_
      refine g_iald hC dL_price_53 hL.swk (hL.wk (by omega) (by omega)) (by omega) (by omega) (by decide) (fun i53 => ?_)
      refine gB hC _ _ _ _ _ _ _ qL_price_54 rfl ?_
      refine g_icmp_ne hC 66 dL_price_56 rfl (by first | omega | exact cmpZ_in _ _ | exact bI_in _) (by first | omega | exact cmpZ_in _ _ | exact bI_in _) (fun c56 => ?_) (fun c56 => ?_)
      · rw [if_neg (by omega)] at hpe
        refine gB hC _ _ _ _ _ _ _ qL_price_66 rfl ?_
        refine gB hC _ _ _ _ _ _ _ qL_price_67 rfl ?_
        refine g_getr hC dL_price_70 fL_26 hL.sL (by decide) rfl 6 rfl hL.p6 ?_
        refine gB hC _ _ _ _ _ _ _ qL_price_73 rfl ?_
        refine g_iald hC dL_price_74 hL.sbs (hL.k1 (by omega) (by omega)) (by omega) (by omega) (by decide) (fun i74 => ?_)
        refine gB hC _ _ _ _ _ _ _ qL_price_75 rfl ?_
        refine g_st1 (y := pct N k0 (8822 + d0)) (by omega) ?_
        have hml := mul_in (a := kF N k0 1) (b := max (pct N k0 (8822 + d0)) 0) (A := 100000) (B := 3100) (by omega) (by omega) (by omega) (by omega)
        refine g_max hC dL_price_77 mL_94 (by first | omega | exact cmpZ_in _ _ | exact bI_in _) (by first | omega | exact cmpZ_in _ _ | exact bI_in _) ⟨Nat.le_of_ble_eq_true rfl, Nat.le_of_ble_eq_true rfl, Nat.le_of_ble_eq_true rfl, Nat.le_of_ble_eq_true rfl⟩ ?_
        refine gB hC _ _ _ _ _ _ _ qL_price_80 rfl ?_
        refine g_idiv hC dL_price_86 (by first | omega | exact cmpZ_in _ _ | exact bI_in _) (by first | omega | exact cmpZ_in _ _ | exact bI_in _) (by omega) (by omega) ?_
        refine g_ireturn hC dL_price_87 hr ⟨?_, rfl, rfl, by omega⟩ gs_rfl ⟨Nat.le_of_ble_eq_true rfl, Nat.le_of_ble_eq_true rfl⟩
        unfold nPr
        by_cases hg : pct N k0 (8822 + d0) < 0
        · rw [if_pos hg, show max (pct N k0 (8822 + d0)) 0 = 0 by omega]; congr 3; omega
        · rw [if_neg hg, show max (pct N k0 (8822 + d0)) 0 = pct N k0 (8822 + d0) by omega]
      · rw [if_pos (Or.inr (by omega))] at hpe
        refine gB hC _ _ _ _ _ _ _ qL_price_59 rfl ?_
        refine g_getiv hC dL_price_60 fL_91 hL.sL (by decide) rfl 9 rfl hL.v9 (fun i60 => ?_)
        refine gB hC _ _ _ _ _ _ _ qL_price_63 rfl ?_
        refine gB hC _ _ _ _ _ _ _ qL_price_67 rfl ?_
        refine g_getr hC dL_price_70 fL_26 hL.sL (by decide) rfl 6 rfl hL.p6 ?_
        refine gB hC _ _ _ _ _ _ _ qL_price_73 rfl ?_
        refine g_iald hC dL_price_74 hL.sbs (hL.k1 (by omega) (by omega)) (by omega) (by omega) (by decide) (fun i74 => ?_)
        refine gB hC _ _ _ _ _ _ _ qL_price_75 rfl ?_
        refine g_st1 (y := pct N k0 (8822 + d0)) (by omega) ?_
        have hml := mul_in (a := kF N k0 1) (b := max (pct N k0 (8822 + d0)) 0) (A := 100000) (B := 3100) (by omega) (by omega) (by omega) (by omega)
        refine g_max hC dL_price_77 mL_94 (by first | omega | exact cmpZ_in _ _ | exact bI_in _) (by first | omega | exact cmpZ_in _ _ | exact bI_in _) ⟨Nat.le_of_ble_eq_true rfl, Nat.le_of_ble_eq_true rfl, Nat.le_of_ble_eq_true rfl, Nat.le_of_ble_eq_true rfl⟩ ?_
        refine gB hC _ _ _ _ _ _ _ qL_price_80 rfl ?_
        refine g_idiv hC dL_price_86 (by first | omega | exact cmpZ_in _ _ | exact bI_in _) (by first | omega | exact cmpZ_in _ _ | exact bI_in _) (by omega) (by omega) ?_
        refine g_ireturn hC dL_price_87 hr ⟨?_, rfl, rfl, by omega⟩ gs_rfl ⟨Nat.le_of_ble_eq_true rfl, Nat.le_of_ble_eq_true rfl⟩
        unfold nPr
        by_cases hg : pct N k0 (8822 + d0) < 0
        · rw [if_pos hg, show max (pct N k0 (8822 + d0)) 0 = 0 by omega]; congr 3; omega
        · rw [if_neg hg, show max (pct N k0 (8822 + d0)) 0 = pct N k0 (8822 + d0) by omega]

theorem kL_price_ {E l Sh V z} {q w : Int} {N : gN0} {s0 : Int} (hL : LB q w N Sh V) (hI : InvC N) (h0 : 0 ≤ s0) (h1 : s0 < N 5) : gM E l yL_price_ (.code yL_price_ cL_price_ 4 (some .int)) (rmk 0 0 0 0) [(2, q), (0, s0)] Sh V z (gRi (sPr N s0) Sh V) := by
  refine gM_at (L0 := [(2, q), (0, s0), (9, 0), (9, 0)]) rfl rfl rfl ?_
  intro p e s m args below meth c hC hr hex hnm hz
  have hsc := hI.1
  unfold iScal at hsc
  have hs := hI.2.2.2.1 s0 h0 h1
  have hso := hs.1
  have hpi := sPr_in hs
  refine gB hC _ _ _ _ _ _ _ qL_price__0 rfl ?_
  refine g_loop (fun x : Int × Nat => x.1 = prT N s0 x.2 ∧ (x.2 : Int) ≤ sF N s0 3) (fun x => (sF N s0 3 - x.2).toNat) 4 (fun x => [(2, q), (0, s0), (0, x.1), (0, (x.2 : Int))]) (fun _ => V) (0, 0) ⟨rfl, by show (0 : Int) ≤ sF N s0 3; omega⟩ ?_
  rintro ⟨sum, t⟩ z ⟨hl, ht⟩ ih
  dsimp only at hl ht ih ⊢
  have hli := prT_in hs t ht
  refine gB hC _ _ _ _ _ _ _ qL_price__4 rfl ?_
  refine g_getr hC dL_price__6 fL_39 hL.sL (by decide) rfl 15 rfl hL.p15 ?_
  refine gB hC _ _ _ _ _ _ _ qL_price__9 rfl ?_
  refine g_aald hC (j := 8) dL_price__10 hL.ssO (by decide) (hL.ps (by omega) (by omega)) (by omega) (by omega) (by decide) ?_
  refine gB hC _ _ _ _ _ _ _ qL_price__11 rfl ?_
  refine g_iald hC dL_price__12 (hL.ssR (by omega) (by omega)) (hL.t3 (by omega) (by omega)) (by omega) (by omega) (by decide) (fun i12 => ?_)
  refine g_icmp_ge hC 33 dL_price__13 rfl (by first | omega | exact cmpZ_in _ _ | exact bI_in _) (by first | omega | exact cmpZ_in _ _ | exact bI_in _) (fun c13 => ?_) (fun c13 => ?_)
  · refine gB hC _ _ _ _ _ _ _ qL_price__33 rfl ?_
    refine g_ireturn hC dL_price__34 hr ⟨?_, rfl, rfl, by omega⟩ gs_rfl ⟨Nat.le_of_ble_eq_true rfl, Nat.le_of_ble_eq_true rfl⟩
    have : t = (sF N s0 3).toNat := by omega
    subst this
    rw [hl]; rfl
  · refine gB hC _ _ _ _ _ _ _ qL_price__16 rfl ?_
    refine g_getr hC dL_price__18 fL_42 hL.sL (by decide) rfl 16 rfl hL.p16 ?_
    refine gB hC _ _ _ _ _ _ _ qL_price__21 rfl ?_
    refine g_aald hC (j := 8) dL_price__22 hL.spO (by decide) (hL.pp (by omega) (by omega)) (by omega) (by omega) (by decide) ?_
    refine gB hC _ _ _ _ _ _ _ qL_price__23 rfl ?_
    refine g_iald hC dL_price__24 (hL.spR (by omega) (by omega)) (hL.tp (by omega) (by omega) (by omega) (by omega)) (by omega) (by omega) (by decide) (fun i24 => ?_)
    refine gB hC _ _ _ _ _ _ _ qL_price__25 rfl ?_
    refine ih (_, t + 1) _ ⟨?_, by show ((t + 1 : Nat) : Int) ≤ sF N s0 3; omega⟩ (by show (sF N s0 3 - ((t + 1 : Nat) : Int)).toNat < (sF N s0 3 - t).toNat; omega)
    rw [hl]; rfl
