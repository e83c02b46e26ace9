/-! the reference: readers (rows laid by wip/whole/m1.py) -/
abbrev RR {a b c d e f g h : Nat} (h1 : Nat.ble a b = true) (h2 : Nat.ble c d = true) (h3 : Nat.ble e f = true) (h4 : Nat.ble g h = true) : (a ≤ b ∧ c ≤ d) ∧ (e ≤ f ∧ g ≤ h) := ⟨⟨Nat.le_of_ble_eq_true h1, Nat.le_of_ble_eq_true h2⟩, Nat.le_of_ble_eq_true h3, Nat.le_of_ble_eq_true h4⟩
theorem kX12_in {E l Sh V z} {v lo hi : Int} (h1 : inI v) (h2 : inI lo) (h3 : inI hi) : gM E l yX12_in (.code yX12_in cX12_in 3 (some .boolean)) (rmk 0 0 0 0) [(0, v), (0, lo), (0, hi)] Sh V z (gR (some (0, bI (lo ≤ v ∧ v ≤ hi))) Sh V) := by
  refine gM_at (L0 := [(0, v), (0, lo), (0, hi)]) rfl rfl rfl ?_
  intro p e s m args below meth c hC hr hex hnm hz
  refine gB hC _ _ _ _ _ _ _ qX12_in_0 rfl ?_
  refine g_icmp_lt hC 14 dX12_in_2 rfl (by first | omega | exact bI_in _) (by first | omega | exact bI_in _) (fun c2 => ?_) (fun c2 => ?_)
  · refine gB hC _ _ _ _ _ _ _ qX12_in_14 rfl ?_
    refine g_zreturn hC dX12_in_15 hr ?_ ⟨?_, rfl, rfl⟩ gs_rfl ⟨Nat.le_of_ble_eq_true rfl, Nat.le_of_ble_eq_true rfl⟩
    · first | exact Or.inl rfl | exact Or.inr rfl | exact bI_01 _
    first | rw [bI_f (by omega)] | rw [bI_t (by omega)]
  · refine gB hC _ _ _ _ _ _ _ qX12_in_5 rfl ?_
    refine g_icmp_gt hC 14 dX12_in_7 rfl (by first | omega | exact bI_in _) (by first | omega | exact bI_in _) (fun c7 => ?_) (fun c7 => ?_)
    · refine gB hC _ _ _ _ _ _ _ qX12_in_14 rfl ?_
      refine g_zreturn hC dX12_in_15 hr ?_ ⟨?_, rfl, rfl⟩ gs_rfl ⟨Nat.le_of_ble_eq_true rfl, Nat.le_of_ble_eq_true rfl⟩
      · first | exact Or.inl rfl | exact Or.inr rfl | exact bI_01 _
      first | rw [bI_f (by omega)] | rw [bI_t (by omega)]
    · refine gB hC _ _ _ _ _ _ _ qX12_in_10 rfl ?_
      refine g_zreturn hC dX12_in_15 hr ?_ ⟨?_, rfl, rfl⟩ gs_rfl ⟨Nat.le_of_ble_eq_true rfl, Nat.le_of_ble_eq_true rfl⟩
      · first | exact Or.inl rfl | exact Or.inr rfl | exact bI_01 _
      first | rw [bI_f (by omega)] | rw [bI_t (by omega)]

theorem kX12_daysInMonth {E l Sh V z} {y m0 : Int} (h1 : inI y) (h0 : 0 ≤ y) (h2 : inI m0) : gM E l yX12_daysInMonth (.code yX12_daysInMonth cX12_daysInMonth 2 (some .int)) (rmk 0 0 0 0) [(0, y), (0, m0)] Sh V z (gRi (dIM y m0) Sh V) := by
  refine gM_at (L0 := [(0, y), (0, m0)]) rfl rfl rfl ?_
  intro p e s m args below meth c hC hr hex hnm hz
  refine gB hC _ _ _ _ _ _ _ qX12_daysInMonth_0 rfl ?_
  refine g_icmp_ne hC 21 dX12_daysInMonth_2 rfl (by first | omega | exact bI_in _) (by first | omega | exact bI_in _) (fun c2 => ?_) (fun c2 => ?_)
  · refine gB hC _ _ _ _ _ _ _ qX12_daysInMonth_21 rfl ?_
    refine g_icmp_eq hC 44 dX12_daysInMonth_23 rfl (by first | omega | exact bI_in _) (by first | omega | exact bI_in _) (fun c23 => ?_) (fun c23 => ?_)
    · refine gB hC _ _ _ _ _ _ _ qX12_daysInMonth_44 rfl ?_
      refine g_ireturn hC dX12_daysInMonth_51 hr ⟨?_, rfl, rfl, ?_⟩ gs_rfl ⟨Nat.le_of_ble_eq_true rfl, Nat.le_of_ble_eq_true rfl⟩
      · have : dIM y m0 = _ := rfl
        unfold dIM lp
        congr 3
        (repeat' split) <;> omega
      · unfold dIM lp; (repeat' split) <;> omega
    · refine gB hC _ _ _ _ _ _ _ qX12_daysInMonth_26 rfl ?_
      refine g_icmp_eq hC 44 dX12_daysInMonth_29 rfl (by first | omega | exact bI_in _) (by first | omega | exact bI_in _) (fun c29 => ?_) (fun c29 => ?_)
      · refine gB hC _ _ _ _ _ _ _ qX12_daysInMonth_44 rfl ?_
        refine g_ireturn hC dX12_daysInMonth_51 hr ⟨?_, rfl, rfl, ?_⟩ gs_rfl ⟨Nat.le_of_ble_eq_true rfl, Nat.le_of_ble_eq_true rfl⟩
        · have : dIM y m0 = _ := rfl
          unfold dIM lp
          congr 3
          (repeat' split) <;> omega
        · unfold dIM lp; (repeat' split) <;> omega
      · refine gB hC _ _ _ _ _ _ _ qX12_daysInMonth_32 rfl ?_
        refine g_icmp_eq hC 44 dX12_daysInMonth_35 rfl (by first | omega | exact bI_in _) (by first | omega | exact bI_in _) (fun c35 => ?_) (fun c35 => ?_)
        · refine gB hC _ _ _ _ _ _ _ qX12_daysInMonth_44 rfl ?_
          refine g_ireturn hC dX12_daysInMonth_51 hr ⟨?_, rfl, rfl, ?_⟩ gs_rfl ⟨Nat.le_of_ble_eq_true rfl, Nat.le_of_ble_eq_true rfl⟩
          · have : dIM y m0 = _ := rfl
            unfold dIM lp
            congr 3
            (repeat' split) <;> omega
          · unfold dIM lp; (repeat' split) <;> omega
        · refine gB hC _ _ _ _ _ _ _ qX12_daysInMonth_38 rfl ?_
          refine g_icmp_ne hC 49 dX12_daysInMonth_41 rfl (by first | omega | exact bI_in _) (by first | omega | exact bI_in _) (fun c41 => ?_) (fun c41 => ?_)
          · refine gB hC _ _ _ _ _ _ _ qX12_daysInMonth_49 rfl ?_
            refine g_ireturn hC dX12_daysInMonth_51 hr ⟨?_, rfl, rfl, ?_⟩ gs_rfl ⟨Nat.le_of_ble_eq_true rfl, Nat.le_of_ble_eq_true rfl⟩
            · have : dIM y m0 = _ := rfl
              unfold dIM lp
              congr 3
              (repeat' split) <;> omega
            · unfold dIM lp; (repeat' split) <;> omega
          · refine gB hC _ _ _ _ _ _ _ qX12_daysInMonth_44 rfl ?_
            refine g_ireturn hC dX12_daysInMonth_51 hr ⟨?_, rfl, rfl, ?_⟩ gs_rfl ⟨Nat.le_of_ble_eq_true rfl, Nat.le_of_ble_eq_true rfl⟩
            · have : dIM y m0 = _ := rfl
              unfold dIM lp
              congr 3
              (repeat' split) <;> omega
            · unfold dIM lp; (repeat' split) <;> omega
  · refine gB hC _ _ _ _ _ _ _ qX12_daysInMonth_5 rfl ?_
    refine g_irem hC dX12_daysInMonth_7 (by first | omega | exact bI_in _) (by first | omega | exact bI_in _) (by omega) (by omega) ?_
    refine g_if_ne hC 16 dX12_daysInMonth_8 rfl (by first | omega | exact bI_in _) (fun c8 => ?_) (fun c8 => ?_)
    · refine gB hC _ _ _ _ _ _ _ qX12_daysInMonth_16 rfl ?_
      refine g_ireturn hC dX12_daysInMonth_51 hr ⟨?_, rfl, rfl, ?_⟩ gs_rfl ⟨Nat.le_of_ble_eq_true rfl, Nat.le_of_ble_eq_true rfl⟩
      · have : dIM y m0 = _ := rfl
        unfold dIM lp
        congr 3
        (repeat' split) <;> omega
      · unfold dIM lp; (repeat' split) <;> omega
    · refine gB hC _ _ _ _ _ _ _ qX12_daysInMonth_11 rfl ?_
      refine g_ireturn hC dX12_daysInMonth_51 hr ⟨?_, rfl, rfl, ?_⟩ gs_rfl ⟨Nat.le_of_ble_eq_true rfl, Nat.le_of_ble_eq_true rfl⟩
      · have : dIM y m0 = _ := rfl
        unfold dIM lp
        congr 3
        (repeat' split) <;> omega
      · unfold dIM lp; (repeat' split) <;> omega

theorem kX12_weekday {E l Sh V z} {d : Int} (h0 : 0 ≤ d) (h1 : d ≤ 40000) : gM E l yX12_weekday (.code yX12_weekday cX12_weekday 1 (some .int)) (rmk 0 0 0 0) [(0, d)] Sh V z (gRi (wdZ d) Sh V) := by
  refine gM_at (L0 := [(0, d)]) rfl rfl rfl ?_
  intro p e s m args below meth c hC hr hex hnm hz
  refine gB hC _ _ _ _ _ _ _ qX12_weekday_0 rfl ?_
  refine g_irem hC dX12_weekday_5 (by first | omega | exact bI_in _) (by first | omega | exact bI_in _) (by omega) (by omega) ?_
  refine gB hC _ _ _ _ _ _ _ qX12_weekday_6 rfl ?_
  refine g_ireturn hC dX12_weekday_8 hr ⟨rfl, rfl, rfl, ?_⟩ gs_rfl ⟨Nat.le_of_ble_eq_true rfl, Nat.le_of_ble_eq_true rfl⟩
  unfold wdZ; omega

theorem kX12_ofKind {E l Sh V z} {b : Int} {N : gN0} {k0 w : Int} (hm : gMd b N Sh V) (h0 : 0 ≤ 31 + k0 * 3 + w) (h1 : 31 + k0 * 3 + w < 5022) : gM E l yX12_ofKind (.code yX12_ofKind cX12_ofKind 3 (some .int)) (rmk 0 0 0 0) [(2, b), (0, k0), (0, w)] Sh V z (gRi (kF N k0 w) Sh V) := by
  refine gM_at (L0 := [(2, b), (0, k0), (0, w)]) rfl rfl rfl ?_
  intro p e s m args below meth c hC hr hex hnm hz
  refine gB hC _ _ _ _ _ _ _ qX12_ofKind_0 rfl ?_
  refine g_getr hC dX12_ofKind_1 fX12_9 hm.1.1 (by decide) rfl 0 rfl hm.2.1.1 ?_
  refine gB hC _ _ _ _ _ _ _ qX12_ofKind_4 rfl ?_
  refine g_iald hC dX12_ofKind_12 hm.1.2.1 (gMd_at hm _) (by omega) (by omega) (by decide) (fun i12 => ?_)
  refine g_ireturn hC dX12_ofKind_13 hr ⟨rfl, rfl, rfl, ?_⟩ gs_rfl ⟨Nat.le_of_ble_eq_true rfl, Nat.le_of_ble_eq_true rfl⟩
  assumption

theorem kX12_of {E l Sh V z} {b : Int} {N : gN0} {s0 w : Int} (hm : gMd b N Sh V) (h0 : 0 ≤ 56 + s0 * 24 + w) (h1 : 56 + s0 * 24 + w < 5022) : gM E l yX12_of (.code yX12_of cX12_of 3 (some .int)) (rmk 0 0 0 0) [(2, b), (0, s0), (0, w)] Sh V z (gRi (sF N s0 w) Sh V) := by
  refine gM_at (L0 := [(2, b), (0, s0), (0, w)]) rfl rfl rfl ?_
  intro p e s m args below meth c hC hr hex hnm hz
  refine gB hC _ _ _ _ _ _ _ qX12_of_0 rfl ?_
  refine g_getr hC dX12_of_1 fX12_9 hm.1.1 (by decide) rfl 0 rfl hm.2.1.1 ?_
  refine gB hC _ _ _ _ _ _ _ qX12_of_4 rfl ?_
  refine g_iald hC dX12_of_13 hm.1.2.1 (gMd_at hm _) (by omega) (by omega) (by decide) (fun i13 => ?_)
  refine g_ireturn hC dX12_of_14 hr ⟨rfl, rfl, rfl, ?_⟩ gs_rfl ⟨Nat.le_of_ble_eq_true rfl, Nat.le_of_ble_eq_true rfl⟩
  assumption

theorem kX12_isAlive {E l Sh V z} {b : Int} {N : gN0} {s0 : Int} (hm : gMd b N Sh V) (h0 : 0 ≤ s0) (h1 : s0 < 60) : gM E l yX12_isAlive (.code yX12_isAlive cX12_isAlive 2 (some .boolean)) (rmk 1 0 0 22) [(2, b), (0, s0)] Sh V z (gR (some (0, bI (sF N s0 0 = 0 ∨ sF N s0 0 = 1))) Sh V) := by
  refine gM_at (L0 := [(2, b), (0, s0)]) rfl rfl rfl ?_
  intro p e s m args below meth c hC hr hex hnm hz
  refine gB hC _ _ _ _ _ _ _ qX12_isAlive_0 rfl ?_
  refine g_cV1i hC dX12_isAlive_3 mX12_43 vX12_of (kX12_of hm (by omega) (by omega)) rfl hm.1.1 (by decide) rfl (Nat.le_of_ble_eq_true rfl) (RR rfl rfl rfl rfl) (fun z i3 => ?_)
  refine g_if_eq hC 19 dX12_isAlive_6 rfl (by first | omega | exact bI_in _) (fun c6 => ?_) (fun c6 => ?_)
  · refine gB hC _ _ _ _ _ _ _ qX12_isAlive_19 rfl ?_
    refine g_zreturn hC dX12_isAlive_24 hr ?_ ⟨?_, rfl, rfl⟩ gs_rfl ⟨Nat.le_of_ble_eq_true rfl, Nat.le_of_ble_eq_true rfl⟩
    · first | exact Or.inl rfl | exact Or.inr rfl | exact bI_01 _
    first | rw [bI_f (by omega)] | rw [bI_t (by omega)]
  · refine gB hC _ _ _ _ _ _ _ qX12_isAlive_9 rfl ?_
    refine g_cV1i hC dX12_isAlive_12 mX12_43 vX12_of (kX12_of hm (by omega) (by omega)) rfl hm.1.1 (by decide) rfl (Nat.le_of_ble_eq_true rfl) (RR rfl rfl rfl rfl) (fun z i12 => ?_)
    refine gB hC _ _ _ _ _ _ _ qX12_isAlive_15 rfl ?_
    refine g_icmp_ne hC 23 dX12_isAlive_16 rfl (by first | omega | exact bI_in _) (by first | omega | exact bI_in _) (fun c16 => ?_) (fun c16 => ?_)
    · refine gB hC _ _ _ _ _ _ _ qX12_isAlive_23 rfl ?_
      refine g_zreturn hC dX12_isAlive_24 hr ?_ ⟨?_, rfl, rfl⟩ gs_rfl ⟨Nat.le_of_ble_eq_true rfl, Nat.le_of_ble_eq_true rfl⟩
      · first | exact Or.inl rfl | exact Or.inr rfl | exact bI_01 _
      first | rw [bI_f (by omega)] | rw [bI_t (by omega)]
    · refine gB hC _ _ _ _ _ _ _ qX12_isAlive_19 rfl ?_
      refine g_zreturn hC dX12_isAlive_24 hr ?_ ⟨?_, rfl, rfl⟩ gs_rfl ⟨Nat.le_of_ble_eq_true rfl, Nat.le_of_ble_eq_true rfl⟩
      · first | exact Or.inl rfl | exact Or.inr rfl | exact bI_01 _
      first | rw [bI_f (by omega)] | rw [bI_t (by omega)]

theorem kX12_last {E l Sh V z} {b : Int} {N : gN0} {s0 : Int} (hm : gMd b N Sh V) (h0 : 0 ≤ s0) (h1 : s0 < 60) (h2 : inI (sF N s0 2 + sF N s0 3 - 1)) : gM E l yX12_last (.code yX12_last cX12_last 2 (some .int)) (rmk 1 0 0 22) [(2, b), (0, s0)] Sh V z (gRi (sF N s0 2 + sF N s0 3 - 1) Sh V) := by
  refine gM_at (L0 := [(2, b), (0, s0)]) rfl rfl rfl ?_
  intro p e s m args below meth c hC hr hex hnm hz
  refine gB hC _ _ _ _ _ _ _ qX12_last_0 rfl ?_
  refine g_cV1i hC dX12_last_3 mX12_43 vX12_of (kX12_of hm (by omega) (by omega)) rfl hm.1.1 (by decide) rfl (Nat.le_of_ble_eq_true rfl) (RR rfl rfl rfl rfl) (fun z i3 => ?_)
  refine gB hC _ _ _ _ _ _ _ qX12_last_6 rfl ?_
  refine g_cV1i hC dX12_last_9 mX12_43 vX12_of (kX12_of hm (by omega) (by omega)) rfl hm.1.1 (by decide) rfl (Nat.le_of_ble_eq_true rfl) (RR rfl rfl rfl rfl) (fun z i9 => ?_)
  refine gB hC _ _ _ _ _ _ _ qX12_last_12 rfl ?_
  refine g_ireturn hC dX12_last_15 hr ⟨rfl, rfl, rfl, h2⟩ gs_rfl ⟨Nat.le_of_ble_eq_true rfl, Nat.le_of_ble_eq_true rfl⟩

theorem kX12_has {E l Sh V z} {b : Int} {N : gN0} {s0 d : Int} (hm : gMd b N Sh V) (h0 : 0 ≤ s0) (h1 : s0 < 60) (h2 : inI (sF N s0 2 + sF N s0 3 - 1)) (h3 : inI d) : gM E l yX12_has (.code yX12_has cX12_has 3 (some .boolean)) (rmk 2 0 0 44) [(2, b), (0, s0), (0, d)] Sh V z (gR (some (0, bI (sF N s0 2 ≤ d ∧ d ≤ sF N s0 2 + sF N s0 3 - 1))) Sh V) := by
  refine gM_at (L0 := [(2, b), (0, s0), (0, d)]) rfl rfl rfl ?_
  intro p e s m args below meth c hC hr hex hnm hz
  refine gB hC _ _ _ _ _ _ _ qX12_has_0 rfl ?_
  refine g_cV1i hC dX12_has_3 mX12_43 vX12_of (kX12_of hm (by omega) (by omega)) rfl hm.1.1 (by decide) rfl (Nat.le_of_ble_eq_true rfl) (RR rfl rfl rfl rfl) (fun z i3 => ?_)
  refine gB hC _ _ _ _ _ _ _ qX12_has_6 rfl ?_
  refine g_icmp_gt hC 23 dX12_has_7 rfl (by first | omega | exact bI_in _) (by first | omega | exact bI_in _) (fun c7 => ?_) (fun c7 => ?_)
  · refine gB hC _ _ _ _ _ _ _ qX12_has_23 rfl ?_
    refine g_zreturn hC dX12_has_24 hr ?_ ⟨?_, rfl, rfl⟩ gs_rfl ⟨Nat.le_of_ble_eq_true rfl, Nat.le_of_ble_eq_true rfl⟩
    · first | exact Or.inl rfl | exact Or.inr rfl | exact bI_01 _
    first | rw [bI_f (by omega)] | rw [bI_t (by omega)]
  · refine gB hC _ _ _ _ _ _ _ qX12_has_10 rfl ?_
    refine g_cV1i hC dX12_has_13 mX12_46 vX12_last (kX12_last hm (by omega) (by omega) (by omega)) rfl hm.1.1 (by decide) rfl (Nat.le_of_ble_eq_true rfl) (RR rfl rfl rfl rfl) (fun z i13 => ?_)
    refine g_icmp_gt hC 23 dX12_has_16 rfl (by first | omega | exact bI_in _) (by first | omega | exact bI_in _) (fun c16 => ?_) (fun c16 => ?_)
    · refine gB hC _ _ _ _ _ _ _ qX12_has_23 rfl ?_
      refine g_zreturn hC dX12_has_24 hr ?_ ⟨?_, rfl, rfl⟩ gs_rfl ⟨Nat.le_of_ble_eq_true rfl, Nat.le_of_ble_eq_true rfl⟩
      · first | exact Or.inl rfl | exact Or.inr rfl | exact bI_01 _
      first | rw [bI_f (by omega)] | rw [bI_t (by omega)]
    · refine gB hC _ _ _ _ _ _ _ qX12_has_19 rfl ?_
      refine g_zreturn hC dX12_has_24 hr ?_ ⟨?_, rfl, rfl⟩ gs_rfl ⟨Nat.le_of_ble_eq_true rfl, Nat.le_of_ble_eq_true rfl⟩
      · first | exact Or.inl rfl | exact Or.inr rfl | exact bI_01 _
      first | rw [bI_f (by omega)] | rw [bI_t (by omega)]

theorem kX12_counts {E l Sh V z} {b : Int} {N : gN0} {k0 d : Int} (hm : gMd b N Sh V) (hI : InvC N) (h1 : inI k0) (h2 : inI d) : gM E l yX12_counts (.code yX12_counts cX12_counts 5 (some .int)) (rmk 3 0 0 66) [(2, b), (0, k0), (0, d)] Sh V z (gRi (cnt N k0 d) Sh V) := by
  refine gM_at (L0 := [(2, b), (0, k0), (0, d), (9, 0), (9, 0)]) rfl rfl rfl ?_
  intro p e s m args below meth c hC hr hex hnm hz
  have hsc := hI.1
  unfold iScal at hsc
  have hcn := cnt_in hI k0 d
  refine gB hC _ _ _ _ _ _ _ qX12_counts_0 rfl ?_
  refine g_loop (fun x : Int × Nat => x.1 = cntT N k0 d x.2 ∧ (x.2 : Int) ≤ N 5) (fun x => (N 5 - x.2).toNat) 5 (fun x => [(2, b), (0, k0), (0, d), (0, x.1), (0, (x.2 : Int))]) (fun _ => V) (0, 0) ⟨rfl, by show (0 : Int) ≤ N 5; omega⟩ ?_
  rintro ⟨many, t⟩ z ⟨hmany, ht⟩ ih
  dsimp only at hmany ht ih ⊢
  have hct := cntT_in N k0 d t
  refine gB hC _ _ _ _ _ _ _ qX12_counts_5 rfl ?_
  refine g_getr hC dX12_counts_8 fX12_9 hm.1.1 (by decide) rfl 0 rfl hm.2.1.1 ?_
  refine gB hC _ _ _ _ _ _ _ qX12_counts_11 rfl ?_
  refine g_iald hC dX12_counts_12 hm.1.2.1 (gMd_at hm _) (by omega) (by omega) (by decide) (fun i12 => ?_)
  refine g_icmp_ge hC 60 dX12_counts_13 rfl (by first | omega | exact bI_in _) (by first | omega | exact bI_in _) (fun c13 => ?_) (fun c13 => ?_)
  · refine gB hC _ _ _ _ _ _ _ qX12_counts_60 rfl ?_
    refine g_ireturn hC dX12_counts_61 hr ⟨?_, rfl, rfl, by omega⟩ gs_rfl ⟨Nat.le_of_ble_eq_true rfl, Nat.le_of_ble_eq_true rfl⟩
    have : t = (N 5).toNat := by omega
    subst this
    rw [hmany]; rfl
  · have hs := hI.2.2.2.1 t (by omega) (by omega)
    unfold sOk at hs
    have hs := hs.1
    refine gB hC _ _ _ _ _ _ _ qX12_counts_16 rfl ?_
    refine g_cV1 hC dX12_counts_20 mX12_49 vX12_isAlive (kX12_isAlive hm (by omega) (by omega)) rfl hm.1.1 (by decide) rfl (Nat.le_of_ble_eq_true rfl) (RR rfl rfl rfl rfl) (fun z => ?_)
    refine g_if_eq hC 51 dX12_counts_23 rfl (by first | omega | exact bI_in _) (fun c23 => ?_) (fun c23 => ?_)
    · have c23 := bI_0.mp c23
      refine gB hC _ _ _ _ _ _ _ qX12_counts_51 rfl ?_
      refine gB hC _ _ _ _ _ _ _ qX12_counts_52 rfl ?_
      refine ih (_, t + 1) _ ⟨?_, by show ((t + 1 : Nat) : Int) ≤ N 5; omega⟩ (by show (N 5 - ((t + 1 : Nat) : Int)).toNat < (N 5 - t).toNat; omega)
      rw [hmany]
      first | rw [cntT, if_pos ⟨by omega, by omega, by omega, by omega⟩] | (rw [cntT, if_neg (by omega)])
    · have c23 := bI_n0.mp c23
      refine gB hC _ _ _ _ _ _ _ qX12_counts_26 rfl ?_
      refine g_cV1i hC dX12_counts_30 mX12_43 vX12_of (kX12_of hm (by omega) (by omega)) rfl hm.1.1 (by decide) rfl (Nat.le_of_ble_eq_true rfl) (RR rfl rfl rfl rfl) (fun z i30 => ?_)
      refine gB hC _ _ _ _ _ _ _ qX12_counts_33 rfl ?_
      refine g_icmp_ne hC 51 dX12_counts_34 rfl (by first | omega | exact bI_in _) (by first | omega | exact bI_in _) (fun c34 => ?_) (fun c34 => ?_)
      · refine gB hC _ _ _ _ _ _ _ qX12_counts_51 rfl ?_
        refine gB hC _ _ _ _ _ _ _ qX12_counts_52 rfl ?_
        refine ih (_, t + 1) _ ⟨?_, by show ((t + 1 : Nat) : Int) ≤ N 5; omega⟩ (by show (N 5 - ((t + 1 : Nat) : Int)).toNat < (N 5 - t).toNat; omega)
        rw [hmany]
        first | rw [cntT, if_pos ⟨by omega, by omega, by omega, by omega⟩] | (rw [cntT, if_neg (by omega)])
      · refine gB hC _ _ _ _ _ _ _ qX12_counts_37 rfl ?_
        refine g_cV1 hC dX12_counts_41 mX12_53 vX12_has (kX12_has hm (by omega) (by omega) (by omega) (by omega)) rfl hm.1.1 (by decide) rfl (Nat.le_of_ble_eq_true rfl) (RR rfl rfl rfl rfl) (fun z => ?_)
        refine g_if_eq hC 51 dX12_counts_44 rfl (by first | omega | exact bI_in _) (fun c44 => ?_) (fun c44 => ?_)
        · have c44 := bI_0.mp c44
          refine gB hC _ _ _ _ _ _ _ qX12_counts_51 rfl ?_
          refine gB hC _ _ _ _ _ _ _ qX12_counts_52 rfl ?_
          refine ih (_, t + 1) _ ⟨?_, by show ((t + 1 : Nat) : Int) ≤ N 5; omega⟩ (by show (N 5 - ((t + 1 : Nat) : Int)).toNat < (N 5 - t).toNat; omega)
          rw [hmany]
          first | rw [cntT, if_pos ⟨by omega, by omega, by omega, by omega⟩] | (rw [cntT, if_neg (by omega)])
        · have c44 := bI_n0.mp c44
          refine gB hC _ _ _ _ _ _ _ qX12_counts_47 rfl ?_
          refine gB hC _ _ _ _ _ _ _ qX12_counts_52 rfl ?_
          refine ih (_, t + 1) _ ⟨?_, by show ((t + 1 : Nat) : Int) ≤ N 5; omega⟩ (by show (N 5 - ((t + 1 : Nat) : Int)).toNat < (N 5 - t).toNat; omega)
          rw [hmany]
          first | rw [cntT, if_pos ⟨by omega, by omega, by omega, by omega⟩] | (rw [cntT, if_neg (by omega)])
