/-! the reference: dates, checks (rows laid by wip/whole/m2.py) -/
def fitC (x1 x2 x3 : Int) : Int := if x1 = 0 then 1 else if x2 = 0 then 2 else if x3 = 0 then 3 else 0
theorem fitC_in (x1 x2 x3 : Int) : 0 ≤ fitC x1 x2 x3 ∧ fitC x1 x2 x3 ≤ 3 := by unfold fitC; (repeat' split) <;> omega
theorem kX12_fits {E l Sh V z} {b : Int} {N : gN0} {x1 x2 x3 : Int} (hm : gMd b N Sh V) (h1 : inI x1) (h2 : inI x2) (h3 : inI x3) : gM E l yX12_fits (.code yX12_fits cX12_fits 4 (some .boolean)) (rmk 0 0 0 0) [(2, b), (0, x1), (0, x2), (0, x3)] Sh V z (gR (some (0, bI (fitC x1 x2 x3 = 0))) Sh (up V b 3 (fitC x1 x2 x3))) := by
  refine gM_at (L0 := [(2, b), (0, x1), (0, x2), (0, x3)]) rfl rfl rfl ?_
  intro p e s m args below meth c hC hr hex hnm hz
  refine gB hC _ _ _ _ _ _ _ qX12_fits_0 rfl ?_
  refine g_if_ne hC 9 dX12_fits_2 rfl (by first | omega | exact bI_in _) (fun c2 => ?_) (fun c2 => ?_)
  · refine gB hC _ _ _ _ _ _ _ qX12_fits_9 rfl ?_
    refine g_if_ne hC 17 dX12_fits_10 rfl (by first | omega | exact bI_in _) (fun c10 => ?_) (fun c10 => ?_)
    · refine gB hC _ _ _ _ _ _ _ qX12_fits_17 rfl ?_
      refine g_if_ne hC 25 dX12_fits_18 rfl (by first | omega | exact bI_in _) (fun c18 => ?_) (fun c18 => ?_)
      · refine gB hC _ _ _ _ _ _ _ qX12_fits_25 rfl ?_
        refine g_puti hC dX12_fits_26 fX12_31 hm.1.1 (by decide) rfl (fun _ h => by cases h; rfl) 3 rfl (by first | omega | exact bI_in _) (fun V26 e26 => ?_)
        have hm26 := gMd_o hm e26 (Or.inr ⟨rfl, by decide⟩)
        have hf : V26 b 3 = fitC x1 x2 x3 := by rw [e26, up_eq]; unfold fitC; (repeat' split) <;> omega
        refine gB hC _ _ _ _ _ _ _ qX12_fits_29 rfl ?_
        refine g_geti hC dX12_fits_30 fX12_31 hm26.1.1 (by decide) rfl 3 rfl (fun i30 => ?_)
        refine g_if_ne hC 40 dX12_fits_33 rfl (by first | omega | exact bI_in _) (fun c33 => ?_) (fun c33 => ?_)
        · refine gB hC _ _ _ _ _ _ _ qX12_fits_40 rfl ?_
          refine g_zreturn hC dX12_fits_41 hr ?_ ⟨?_, rfl, ?_⟩ gs_rfl ⟨Nat.le_of_ble_eq_true rfl, Nat.le_of_ble_eq_true rfl⟩
          · first | exact Or.inl rfl | exact Or.inr rfl | exact bI_01 _
          · first | rw [bI_t (by omega)] | rw [bI_f (by omega)]
          · rw [← hf]; rw [e26, up_eq]
        · refine gB hC _ _ _ _ _ _ _ qX12_fits_36 rfl ?_
          refine g_zreturn hC dX12_fits_41 hr ?_ ⟨?_, rfl, ?_⟩ gs_rfl ⟨Nat.le_of_ble_eq_true rfl, Nat.le_of_ble_eq_true rfl⟩
          · first | exact Or.inl rfl | exact Or.inr rfl | exact bI_01 _
          · first | rw [bI_t (by omega)] | rw [bI_f (by omega)]
          · rw [← hf]; rw [e26, up_eq]
      · refine gB hC _ _ _ _ _ _ _ qX12_fits_21 rfl ?_
        refine g_puti hC dX12_fits_26 fX12_31 hm.1.1 (by decide) rfl (fun _ h => by cases h; rfl) 3 rfl (by first | omega | exact bI_in _) (fun V26 e26 => ?_)
        have hm26 := gMd_o hm e26 (Or.inr ⟨rfl, by decide⟩)
        have hf : V26 b 3 = fitC x1 x2 x3 := by rw [e26, up_eq]; unfold fitC; (repeat' split) <;> omega
        refine gB hC _ _ _ _ _ _ _ qX12_fits_29 rfl ?_
        refine g_geti hC dX12_fits_30 fX12_31 hm26.1.1 (by decide) rfl 3 rfl (fun i30 => ?_)
        refine g_if_ne hC 40 dX12_fits_33 rfl (by first | omega | exact bI_in _) (fun c33 => ?_) (fun c33 => ?_)
        · refine gB hC _ _ _ _ _ _ _ qX12_fits_40 rfl ?_
          refine g_zreturn hC dX12_fits_41 hr ?_ ⟨?_, rfl, ?_⟩ gs_rfl ⟨Nat.le_of_ble_eq_true rfl, Nat.le_of_ble_eq_true rfl⟩
          · first | exact Or.inl rfl | exact Or.inr rfl | exact bI_01 _
          · first | rw [bI_t (by omega)] | rw [bI_f (by omega)]
          · rw [← hf]; rw [e26, up_eq]
        · refine gB hC _ _ _ _ _ _ _ qX12_fits_36 rfl ?_
          refine g_zreturn hC dX12_fits_41 hr ?_ ⟨?_, rfl, ?_⟩ gs_rfl ⟨Nat.le_of_ble_eq_true rfl, Nat.le_of_ble_eq_true rfl⟩
          · first | exact Or.inl rfl | exact Or.inr rfl | exact bI_01 _
          · first | rw [bI_t (by omega)] | rw [bI_f (by omega)]
          · rw [← hf]; rw [e26, up_eq]
    · refine gB hC _ _ _ _ _ _ _ qX12_fits_13 rfl ?_
      refine g_puti hC dX12_fits_26 fX12_31 hm.1.1 (by decide) rfl (fun _ h => by cases h; rfl) 3 rfl (by first | omega | exact bI_in _) (fun V26 e26 => ?_)
      have hm26 := gMd_o hm e26 (Or.inr ⟨rfl, by decide⟩)
      have hf : V26 b 3 = fitC x1 x2 x3 := by rw [e26, up_eq]; unfold fitC; (repeat' split) <;> omega
      refine gB hC _ _ _ _ _ _ _ qX12_fits_29 rfl ?_
      refine g_geti hC dX12_fits_30 fX12_31 hm26.1.1 (by decide) rfl 3 rfl (fun i30 => ?_)
      refine g_if_ne hC 40 dX12_fits_33 rfl (by first | omega | exact bI_in _) (fun c33 => ?_) (fun c33 => ?_)
      · refine gB hC _ _ _ _ _ _ _ qX12_fits_40 rfl ?_
        refine g_zreturn hC dX12_fits_41 hr ?_ ⟨?_, rfl, ?_⟩ gs_rfl ⟨Nat.le_of_ble_eq_true rfl, Nat.le_of_ble_eq_true rfl⟩
        · first | exact Or.inl rfl | exact Or.inr rfl | exact bI_01 _
        · first | rw [bI_t (by omega)] | rw [bI_f (by omega)]
        · rw [← hf]; rw [e26, up_eq]
      · refine gB hC _ _ _ _ _ _ _ qX12_fits_36 rfl ?_
        refine g_zreturn hC dX12_fits_41 hr ?_ ⟨?_, rfl, ?_⟩ gs_rfl ⟨Nat.le_of_ble_eq_true rfl, Nat.le_of_ble_eq_true rfl⟩
        · first | exact Or.inl rfl | exact Or.inr rfl | exact bI_01 _
        · first | rw [bI_t (by omega)] | rw [bI_f (by omega)]
        · rw [← hf]; rw [e26, up_eq]
  · refine gB hC _ _ _ _ _ _ _ qX12_fits_5 rfl ?_
    refine g_puti hC dX12_fits_26 fX12_31 hm.1.1 (by decide) rfl (fun _ h => by cases h; rfl) 3 rfl (by first | omega | exact bI_in _) (fun V26 e26 => ?_)
    have hm26 := gMd_o hm e26 (Or.inr ⟨rfl, by decide⟩)
    have hf : V26 b 3 = fitC x1 x2 x3 := by rw [e26, up_eq]; unfold fitC; (repeat' split) <;> omega
    refine gB hC _ _ _ _ _ _ _ qX12_fits_29 rfl ?_
    refine g_geti hC dX12_fits_30 fX12_31 hm26.1.1 (by decide) rfl 3 rfl (fun i30 => ?_)
    refine g_if_ne hC 40 dX12_fits_33 rfl (by first | omega | exact bI_in _) (fun c33 => ?_) (fun c33 => ?_)
    · refine gB hC _ _ _ _ _ _ _ qX12_fits_40 rfl ?_
      refine g_zreturn hC dX12_fits_41 hr ?_ ⟨?_, rfl, ?_⟩ gs_rfl ⟨Nat.le_of_ble_eq_true rfl, Nat.le_of_ble_eq_true rfl⟩
      · first | exact Or.inl rfl | exact Or.inr rfl | exact bI_01 _
      · first | rw [bI_t (by omega)] | rw [bI_f (by omega)]
      · rw [← hf]; rw [e26, up_eq]
    · refine gB hC _ _ _ _ _ _ _ qX12_fits_36 rfl ?_
      refine g_zreturn hC dX12_fits_41 hr ?_ ⟨?_, rfl, ?_⟩ gs_rfl ⟨Nat.le_of_ble_eq_true rfl, Nat.le_of_ble_eq_true rfl⟩
      · first | exact Or.inl rfl | exact Or.inr rfl | exact bI_01 _
      · first | rw [bI_t (by omega)] | rw [bI_f (by omega)]
      · rw [← hf]; rw [e26, up_eq]

theorem kX12_dayOf_neg {E l Sh V z} {d : Int} (h1 : inI d) (h0 : d < 0) : gM E l yX12_dayOf (.code yX12_dayOf cX12_dayOf 6 (some .int)) (rmk 1 0 0 22) [(0, d)] Sh V z (gRi (dayZ d) Sh V) := by
  refine gM_at (L0 := [(0, d), (9, 0), (9, 0), (9, 0), (9, 0), (9, 0)]) rfl rfl rfl ?_
  intro p e s m args below meth c hC hr hex hnm hz
  refine gB hC _ _ _ _ _ _ _ qX12_dayOf_0 rfl ?_
  refine g_idivT hC dX12_dayOf_4 (by omega) (by omega) (by omega) (Or.inr (by omega)) ?_
  refine gB hC _ _ _ _ _ _ _ qX12_dayOf_5 rfl ?_
  refine g_idivT hC dX12_dayOf_9 (by omega) (by omega) (by omega) (Or.inr (by omega)) ?_
  refine gB hC _ _ _ _ _ _ _ qX12_dayOf_10 rfl ?_
  refine g_iremT hC dX12_dayOf_12 (iI_tdiv (by omega) (by omega) (Or.inr (by omega))) (by omega) (by omega) (Or.inr (by omega)) ?_
  refine gB hC _ _ _ _ _ _ _ qX12_dayOf_13 rfl ?_
  refine g_iremT hC dX12_dayOf_17 (by omega) (by omega) (by omega) (Or.inr (by omega)) ?_
  refine gB hC _ _ _ _ _ _ _ qX12_dayOf_18 rfl ?_
  refine g_if_lt hC 59 dX12_dayOf_20 rfl (by first | omega | exact bI_in _) (fun c20 => ?_) (fun c20 => ?_)
  · refine gB hC _ _ _ _ _ _ _ qX12_dayOf_59 rfl ?_
    refine g_ireturn hC dX12_dayOf_60 hr ⟨?_, rfl, rfl, by have := dayZ_in d; omega⟩ gs_rfl ⟨Nat.le_of_ble_eq_true rfl, Nat.le_of_ble_eq_true rfl⟩
    unfold dayZ; rw [if_neg (by omega)]
  · exact absurd c20 (by omega) --stop

theorem kX12_dayOf_pos {E l Sh V z} {d : Int} (h1 : inI d) (h0 : 0 ≤ d) : gM E l yX12_dayOf (.code yX12_dayOf cX12_dayOf 6 (some .int)) (rmk 1 0 0 22) [(0, d)] Sh V z (gRi (dayZ d) Sh V) := by
  refine gM_at (L0 := [(0, d), (9, 0), (9, 0), (9, 0), (9, 0), (9, 0)]) rfl rfl rfl ?_
  intro p e s m args below meth c hC hr hex hnm hz
  refine gB hC _ _ _ _ _ _ _ qX12_dayOf_0 rfl ?_
  refine g_idiv hC dX12_dayOf_4 (by first | omega | exact bI_in _) (by first | omega | exact bI_in _) (by omega) (by omega) ?_
  refine gB hC _ _ _ _ _ _ _ qX12_dayOf_5 rfl ?_
  refine g_idiv hC dX12_dayOf_9 (by first | omega | exact bI_in _) (by first | omega | exact bI_in _) (by omega) (by omega) ?_
  refine gB hC _ _ _ _ _ _ _ qX12_dayOf_10 rfl ?_
  refine g_irem hC dX12_dayOf_12 (by first | omega | exact bI_in _) (by first | omega | exact bI_in _) (by omega) (by omega) ?_
  refine gB hC _ _ _ _ _ _ _ qX12_dayOf_13 rfl ?_
  refine g_irem hC dX12_dayOf_17 (by first | omega | exact bI_in _) (by first | omega | exact bI_in _) (by omega) (by omega) ?_
  refine gB hC _ _ _ _ _ _ _ qX12_dayOf_18 rfl ?_
  refine g_if_lt hC 59 dX12_dayOf_20 rfl (by first | omega | exact bI_in _) (fun c20 => ?_) (fun c20 => ?_)
  · exact absurd c20 (by omega) --stop
  · refine gB hC _ _ _ _ _ _ _ qX12_dayOf_23 rfl ?_
    refine g_cS1 hC dX12_dayOf_30 mX12_35 sX12_in (kX12_in (by omega) (by omega) (by omega)) rfl rfl (Nat.le_of_ble_eq_true rfl) (RR rfl rfl rfl rfl) (fun z => ?_)
    refine g_if_eq hC 59 dX12_dayOf_33 rfl (by first | omega | exact bI_in _) (fun c33 => ?_) (fun c33 => ?_)
    · have c33 := bI_0.mp c33
      refine gB hC _ _ _ _ _ _ _ qX12_dayOf_59 rfl ?_
      refine g_ireturn hC dX12_dayOf_60 hr ⟨?_, rfl, rfl, by have := dayZ_in d; omega⟩ gs_rfl ⟨Nat.le_of_ble_eq_true rfl, Nat.le_of_ble_eq_true rfl⟩
      unfold dayZ; rw [if_neg (by omega)]
    · have c33 := bI_n0.mp c33
      refine gB hC _ _ _ _ _ _ _ qX12_dayOf_36 rfl ?_
      refine g_cS1 hC dX12_dayOf_40 mX12_35 sX12_in (kX12_in (by omega) (by omega) (by omega)) rfl rfl (Nat.le_of_ble_eq_true rfl) (RR rfl rfl rfl rfl) (fun z => ?_)
      refine g_if_eq hC 59 dX12_dayOf_43 rfl (by first | omega | exact bI_in _) (fun c43 => ?_) (fun c43 => ?_)
      · have c43 := bI_0.mp c43
        refine gB hC _ _ _ _ _ _ _ qX12_dayOf_59 rfl ?_
        refine g_ireturn hC dX12_dayOf_60 hr ⟨?_, rfl, rfl, by have := dayZ_in d; omega⟩ gs_rfl ⟨Nat.le_of_ble_eq_true rfl, Nat.le_of_ble_eq_true rfl⟩
        unfold dayZ; rw [if_neg (by omega)]
      · have c43 := bI_n0.mp c43
        refine gB hC _ _ _ _ _ _ _ qX12_dayOf_46 rfl ?_
        refine g_cS1i hC dX12_dayOf_50 mX12_39 sX12_daysInMonth (kX12_daysInMonth (by omega) (by omega) (by omega)) rfl rfl (Nat.le_of_ble_eq_true rfl) (RR rfl rfl rfl rfl) (fun z i50 => ?_)
        refine g_cS1 hC dX12_dayOf_53 mX12_35 sX12_in (kX12_in (by omega) (by omega) (by omega)) rfl rfl (Nat.le_of_ble_eq_true rfl) (RR rfl rfl rfl rfl) (fun z => ?_)
        refine g_if_ne hC 61 dX12_dayOf_56 rfl (by first | omega | exact bI_in _) (fun c56 => ?_) (fun c56 => ?_)
        · have c56 := bI_n0.mp c56
          refine gB hC _ _ _ _ _ _ _ qX12_dayOf_61 rfl ?_
          have hbm := bM_in (y := d / 10000) (m := d / 100 % 100) (by omega) (by omega)
          have hyb := yB_in (y := d / 10000) (by omega) (by omega)
          refine g_loop (fun x : Int × Int => x.1 = d % 100 - 1 + yB x.2 ∧ 2000 ≤ x.2 ∧ x.2 ≤ d / 10000) (fun x => (d / 10000 - x.2).toNat) 71 (fun x => [(0, d), (0, d / 10000), (0, d / 100 % 100), (0, d % 100), (0, x.1), (0, x.2)]) (fun _ => V) (_, 2000) ⟨by show d % 100 - 1 = d % 100 - 1 + yB 2000; unfold yB; omega, by show (2000 : Int) ≤ 2000; decide, by show (2000 : Int) ≤ d / 10000; omega⟩ ?_
          rintro ⟨sum, y⟩ z ⟨hsum, hy1, hy2⟩ ih
          dsimp only at hsum hy1 hy2 ih ⊢
          refine gB hC _ _ _ _ _ _ _ qX12_dayOf_71 rfl ?_
          refine g_icmp_ge hC 104 dX12_dayOf_74 rfl (by first | omega | exact bI_in _) (by first | omega | exact bI_in _) (fun c74 => ?_) (fun c74 => ?_)
          · refine gB hC _ _ _ _ _ _ _ qX12_dayOf_104 rfl ?_
            have hy : y = d / 10000 := by omega
            subst hy
            refine g_loop (fun x : Int × Int => x.1 = d % 100 - 1 + yB (d / 10000) + bM (d / 10000) x.2 ∧ 1 ≤ x.2 ∧ x.2 ≤ d / 100 % 100) (fun x => (d / 100 % 100 - x.2).toNat) 107 (fun x => [(0, d), (0, d / 10000), (0, d / 100 % 100), (0, d % 100), (0, x.1), (0, x.2)]) (fun _ => V) (_, 1) ⟨by show sum = _; rw [bM_1]; omega, by show (1 : Int) ≤ 1; decide, by show (1 : Int) ≤ d / 100 % 100; omega⟩ ?_
            rintro ⟨sum2, m0⟩ z ⟨hsum2, hm1, hm2⟩ ih2
            dsimp only at hsum2 hm1 hm2 ih2 ⊢
            refine gB hC _ _ _ _ _ _ _ qX12_dayOf_107 rfl ?_
            refine g_icmp_ge hC 130 dX12_dayOf_110 rfl (by first | omega | exact bI_in _) (by first | omega | exact bI_in _) (fun c110 => ?_) (fun c110 => ?_)
            · refine gB hC _ _ _ _ _ _ _ qX12_dayOf_130 rfl ?_
              refine g_ireturn hC dX12_dayOf_132 hr ⟨?_, rfl, rfl, by have := dayZ_in d; omega⟩ gs_rfl ⟨Nat.le_of_ble_eq_true rfl, Nat.le_of_ble_eq_true rfl⟩
              have hmm : m0 = d / 100 % 100 := by omega
              subst hmm
              unfold dayZ; rw [if_pos ⟨by omega, by omega, by omega, by omega, by omega, by omega, by omega⟩, hsum2]; congr 3; omega
            · refine gB hC _ _ _ _ _ _ _ qX12_dayOf_113 rfl ?_
              refine g_cS1i hC dX12_dayOf_118 mX12_39 sX12_daysInMonth (kX12_daysInMonth (by omega) (by omega) (by omega)) rfl rfl (Nat.le_of_ble_eq_true rfl) (RR rfl rfl rfl rfl) (fun z i118 => ?_)
              refine gB hC _ _ _ _ _ _ _ qX12_dayOf_121 rfl ?_
              refine ih2 (_, m0 + 1) _ ⟨?_, by show (1 : Int) ≤ m0 + 1; omega, by show m0 + 1 ≤ d / 100 % 100; omega⟩ (by show (d / 100 % 100 - (m0 + 1)).toNat < (d / 100 % 100 - m0).toNat; omega)
              show _ = d % 100 - 1 + yB (d / 10000) + bM (d / 10000) (m0 + 1)
              rw [bM_next _ m0 hm1 (by omega), hsum2]; omega
          · refine gB hC _ _ _ _ _ _ _ qX12_dayOf_77 rfl ?_
            refine g_irem hC dX12_dayOf_82 (by first | omega | exact bI_in _) (by first | omega | exact bI_in _) (by omega) (by omega) ?_
            refine g_if_ne hC 92 dX12_dayOf_83 rfl (by first | omega | exact bI_in _) (fun c83 => ?_) (fun c83 => ?_)
            · refine gB hC _ _ _ _ _ _ _ qX12_dayOf_92 rfl ?_
              refine gB hC _ _ _ _ _ _ _ qX12_dayOf_95 rfl ?_
              refine ih (_, y + 1) _ ⟨?_, by show (2000 : Int) ≤ y + 1; omega, by show y + 1 ≤ d / 10000; omega⟩ (by show (d / 10000 - (y + 1)).toNat < (d / 10000 - y).toNat; omega)
              show _ = d % 100 - 1 + yB (y + 1)
              rw [yB_next y hy1, hsum]; unfold lp; split <;> omega
            · refine gB hC _ _ _ _ _ _ _ qX12_dayOf_86 rfl ?_
              refine gB hC _ _ _ _ _ _ _ qX12_dayOf_95 rfl ?_
              refine ih (_, y + 1) _ ⟨?_, by show (2000 : Int) ≤ y + 1; omega, by show y + 1 ≤ d / 10000; omega⟩ (by show (d / 10000 - (y + 1)).toNat < (d / 10000 - y).toNat; omega)
              show _ = d % 100 - 1 + yB (y + 1)
              rw [yB_next y hy1, hsum]; unfold lp; split <;> omega
        · have c56 := bI_0.mp c56
          refine gB hC _ _ _ _ _ _ _ qX12_dayOf_59 rfl ?_
          refine g_ireturn hC dX12_dayOf_60 hr ⟨?_, rfl, rfl, by have := dayZ_in d; omega⟩ gs_rfl ⟨Nat.le_of_ble_eq_true rfl, Nat.le_of_ble_eq_true rfl⟩
          unfold dayZ; rw [if_neg (by omega)]

theorem kX12_dayOf {E l Sh V z} {d : Int} (h1 : inI d) : gM E l yX12_dayOf (.code yX12_dayOf cX12_dayOf 6 (some .int)) (rmk 1 0 0 22) [(0, d)] Sh V z (gRi (dayZ d) Sh V) := by
  by_cases h : d < 0
  · exact kX12_dayOf_neg h1 h
  · exact kX12_dayOf_pos h1 (by omega)

theorem kX12_dateOf {E l Sh V z} {d : Int} (h0 : 0 ≤ d) (h1 : d ≤ 36524) : gM E l yX12_dateOf (.code yX12_dateOf cX12_dateOf 4 (some .int)) (rmk 1 0 0 22) [(0, d)] Sh V z (gRi (dateZ d) Sh V) := by
  refine gM_at (L0 := [(0, d), (9, 0), (9, 0), (9, 0)]) rfl rfl rfl ?_
  intro p e s m args below meth c hC hr hex hnm hz
  have hdz := dateZ_in h0 h1
  refine gB hC _ _ _ _ _ _ _ qX12_dateOf_0 rfl ?_
  refine g_loop (fun x : Int × Int => x.1 = d - yB x.2 ∧ 0 ≤ x.1 ∧ 2000 ≤ x.2) (fun x => x.1.toNat) 6 (fun x => [(0, d), (0, x.1), (0, x.2), (9, 0)]) (fun _ => V) (_, 2000) ⟨by show d = d - yB 2000; unfold yB; omega, h0, by show (2000 : Int) ≤ 2000; decide⟩ ?_
  rintro ⟨left, y⟩ z ⟨hl, hl0, hy1⟩ ih
  dsimp only at hl hl0 hy1 ih ⊢
  have hyn := yB_next y hy1
  have hyu : y ≤ 2099 := by unfold yB at hl; omega
  have hyb := yB_in hy1 hyu
  have hlp : lp y = if y % 4 = 0 then 1 else 0 := rfl
  refine gB hC _ _ _ _ _ _ _ qX12_dateOf_6 rfl ?_
  refine g_irem hC dX12_dateOf_9 (by first | omega | exact bI_in _) (by first | omega | exact bI_in _) (by omega) (by omega) ?_
  refine g_if_ne hC 19 dX12_dateOf_10 rfl (by first | omega | exact bI_in _) (fun c10 => ?_) (fun c10 => ?_)
  · refine gB hC _ _ _ _ _ _ _ qX12_dateOf_19 rfl ?_
    refine g_icmp_lt hC 49 dX12_dateOf_22 rfl (by first | omega | exact bI_in _) (by first | omega | exact bI_in _) (fun c22 => ?_) (fun c22 => ?_)
    · refine gB hC _ _ _ _ _ _ _ qX12_dateOf_49 rfl ?_
      have hyy : yr d = y := yr_of hy1 (by omega) (by rw [hyn, hlp]; split <;> omega)
      have hll : left < 365 + lp y := by rw [hlp]; split <;> omega
      refine g_loop (fun x : Int × Int => x.1 = d - yB y - bM y x.2 ∧ 0 ≤ x.1 ∧ 1 ≤ x.2 ∧ x.2 ≤ 12) (fun x => x.1.toNat) 51 (fun x => [(0, d), (0, x.1), (0, y), (0, x.2)]) (fun _ => V) (_, 1) ⟨by show left = _; rw [bM_1]; omega, hl0, by show (1 : Int) ≤ 1; decide, by show (1 : Int) ≤ 12; decide⟩ ?_
      rintro ⟨left2, m0⟩ z ⟨hq, hq0, hm1, hm2⟩ ih2
      dsimp only at hq hq0 hm1 hm2 ih2 ⊢
      have hbm := bM_in (y := y) hm1 hm2
      refine gB hC _ _ _ _ _ _ _ qX12_dateOf_51 rfl ?_
      refine g_cS1i hC dX12_dateOf_54 mX12_39 sX12_daysInMonth (kX12_daysInMonth (by omega) (by omega) (by omega)) rfl rfl (Nat.le_of_ble_eq_true rfl) (RR rfl rfl rfl rfl) (fun z i54 => ?_)
      refine g_icmp_lt hC 74 dX12_dateOf_57 rfl (by first | omega | exact bI_in _) (by first | omega | exact bI_in _) (fun c57 => ?_) (fun c57 => ?_)
      · refine gB hC _ _ _ _ _ _ _ qX12_dateOf_74 rfl ?_
        refine g_ireturn hC dX12_dateOf_88 hr ⟨?_, rfl, rfl, by omega⟩ gs_rfl ⟨Nat.le_of_ble_eq_true rfl, Nat.le_of_ble_eq_true rfl⟩
        have hmz : mZ y (d - yB y) = m0 := by
          refine mZ_of hm1 hm2 (by omega) ?_
          by_cases h12 : m0 = 12
          · exact Or.inl h12
          · right; rw [bM_next y m0 hm1 (by omega)]; omega
        unfold dateZ
        rw [hyy, hmz]
        congr 3
        omega
      · refine gB hC _ _ _ _ _ _ _ qX12_dateOf_60 rfl ?_
        refine g_cS1i hC dX12_dateOf_63 mX12_39 sX12_daysInMonth (kX12_daysInMonth (by omega) (by omega) (by omega)) rfl rfl (Nat.le_of_ble_eq_true rfl) (RR rfl rfl rfl rfl) (fun z i63 => ?_)
        refine gB hC _ _ _ _ _ _ _ qX12_dateOf_66 rfl ?_
        have hm12 : m0 ≠ 12 := by intro q; subst q; have := bM_13 y; omega
        refine ih2 (_, m0 + 1) _ ⟨?_, ?_, by show (1 : Int) ≤ m0 + 1; omega, by show m0 + 1 ≤ 12; omega⟩ ?_
        · show _ = d - yB y - bM y (m0 + 1)
          rw [bM_next y m0 hm1 (by omega)]; omega
        · show 0 ≤ left2 - _; omega
        · show (left2 - _).toNat < left2.toNat; omega
    · refine gB hC _ _ _ _ _ _ _ qX12_dateOf_25 rfl ?_
      refine g_irem hC dX12_dateOf_28 (by first | omega | exact bI_in _) (by first | omega | exact bI_in _) (by omega) (by omega) ?_
      refine g_if_ne hC 38 dX12_dateOf_29 rfl (by first | omega | exact bI_in _) (fun c29 => ?_) (fun c29 => ?_)
      · refine gB hC _ _ _ _ _ _ _ qX12_dateOf_38 rfl ?_
        refine gB hC _ _ _ _ _ _ _ qX12_dateOf_41 rfl ?_
        refine ih (_, y + 1) _ ⟨?_, ?_, by show (2000 : Int) ≤ y + 1; omega⟩ ?_
        · show _ = d - yB (y + 1)
          rw [hyn, hlp]; split <;> omega
        · show 0 ≤ left - _; omega
        · show (left - _).toNat < left.toNat; omega
      · refine gB hC _ _ _ _ _ _ _ qX12_dateOf_32 rfl ?_
        refine gB hC _ _ _ _ _ _ _ qX12_dateOf_41 rfl ?_
        refine ih (_, y + 1) _ ⟨?_, ?_, by show (2000 : Int) ≤ y + 1; omega⟩ ?_
        · show _ = d - yB (y + 1)
          rw [hyn, hlp]; split <;> omega
        · show 0 ≤ left - _; omega
        · show (left - _).toNat < left.toNat; omega
  · refine gB hC _ _ _ _ _ _ _ qX12_dateOf_13 rfl ?_
    refine g_icmp_lt hC 49 dX12_dateOf_22 rfl (by first | omega | exact bI_in _) (by first | omega | exact bI_in _) (fun c22 => ?_) (fun c22 => ?_)
    · refine gB hC _ _ _ _ _ _ _ qX12_dateOf_49 rfl ?_
      have hyy : yr d = y := yr_of hy1 (by omega) (by rw [hyn, hlp]; split <;> omega)
      have hll : left < 365 + lp y := by rw [hlp]; split <;> omega
      refine g_loop (fun x : Int × Int => x.1 = d - yB y - bM y x.2 ∧ 0 ≤ x.1 ∧ 1 ≤ x.2 ∧ x.2 ≤ 12) (fun x => x.1.toNat) 51 (fun x => [(0, d), (0, x.1), (0, y), (0, x.2)]) (fun _ => V) (_, 1) ⟨by show left = _; rw [bM_1]; omega, hl0, by show (1 : Int) ≤ 1; decide, by show (1 : Int) ≤ 12; decide⟩ ?_
      rintro ⟨left2, m0⟩ z ⟨hq, hq0, hm1, hm2⟩ ih2
      dsimp only at hq hq0 hm1 hm2 ih2 ⊢
      have hbm := bM_in (y := y) hm1 hm2
      refine gB hC _ _ _ _ _ _ _ qX12_dateOf_51 rfl ?_
      refine g_cS1i hC dX12_dateOf_54 mX12_39 sX12_daysInMonth (kX12_daysInMonth (by omega) (by omega) (by omega)) rfl rfl (Nat.le_of_ble_eq_true rfl) (RR rfl rfl rfl rfl) (fun z i54 => ?_)
      refine g_icmp_lt hC 74 dX12_dateOf_57 rfl (by first | omega | exact bI_in _) (by first | omega | exact bI_in _) (fun c57 => ?_) (fun c57 => ?_)
      · refine gB hC _ _ _ _ _ _ _ qX12_dateOf_74 rfl ?_
        refine g_ireturn hC dX12_dateOf_88 hr ⟨?_, rfl, rfl, by omega⟩ gs_rfl ⟨Nat.le_of_ble_eq_true rfl, Nat.le_of_ble_eq_true rfl⟩
        have hmz : mZ y (d - yB y) = m0 := by
          refine mZ_of hm1 hm2 (by omega) ?_
          by_cases h12 : m0 = 12
          · exact Or.inl h12
          · right; rw [bM_next y m0 hm1 (by omega)]; omega
        unfold dateZ
        rw [hyy, hmz]
        congr 3
        omega
      · refine gB hC _ _ _ _ _ _ _ qX12_dateOf_60 rfl ?_
        refine g_cS1i hC dX12_dateOf_63 mX12_39 sX12_daysInMonth (kX12_daysInMonth (by omega) (by omega) (by omega)) rfl rfl (Nat.le_of_ble_eq_true rfl) (RR rfl rfl rfl rfl) (fun z i63 => ?_)
        refine gB hC _ _ _ _ _ _ _ qX12_dateOf_66 rfl ?_
        have hm12 : m0 ≠ 12 := by intro q; subst q; have := bM_13 y; omega
        refine ih2 (_, m0 + 1) _ ⟨?_, ?_, by show (1 : Int) ≤ m0 + 1; omega, by show m0 + 1 ≤ 12; omega⟩ ?_
        · show _ = d - yB y - bM y (m0 + 1)
          rw [bM_next y m0 hm1 (by omega)]; omega
        · show 0 ≤ left2 - _; omega
        · show (left2 - _).toNat < left2.toNat; omega
    · refine gB hC _ _ _ _ _ _ _ qX12_dateOf_25 rfl ?_
      refine g_irem hC dX12_dateOf_28 (by first | omega | exact bI_in _) (by first | omega | exact bI_in _) (by omega) (by omega) ?_
      refine g_if_ne hC 38 dX12_dateOf_29 rfl (by first | omega | exact bI_in _) (fun c29 => ?_) (fun c29 => ?_)
      · refine gB hC _ _ _ _ _ _ _ qX12_dateOf_38 rfl ?_
        refine gB hC _ _ _ _ _ _ _ qX12_dateOf_41 rfl ?_
        refine ih (_, y + 1) _ ⟨?_, ?_, by show (2000 : Int) ≤ y + 1; omega⟩ ?_
        · show _ = d - yB (y + 1)
          rw [hyn, hlp]; split <;> omega
        · show 0 ≤ left - _; omega
        · show (left - _).toNat < left.toNat; omega
      · refine gB hC _ _ _ _ _ _ _ qX12_dateOf_32 rfl ?_
        refine gB hC _ _ _ _ _ _ _ qX12_dateOf_41 rfl ?_
        refine ih (_, y + 1) _ ⟨?_, ?_, by show (2000 : Int) ≤ y + 1; omega⟩ ?_
        · show _ = d - yB (y + 1)
          rw [hyn, hlp]; split <;> omega
        · show 0 ≤ left - _; omega
        · show (left - _).toNat < left.toNat; omega

theorem kX12_isDate {E l Sh V z} {d : Int} (h1 : inI d) : gM E l yX12_isDate (.code yX12_isDate cX12_isDate 1 (some .boolean)) (rmk 2 0 0 47) [(0, d)] Sh V z (gR (some (0, bI (dayZ d ≠ -1))) Sh V) := by
  refine gM_at (L0 := [(0, d)]) rfl rfl rfl ?_
  intro p e s m args below meth c hC hr hex hnm hz
  refine gB hC _ _ _ _ _ _ _ qX12_isDate_0 rfl ?_
  refine g_cS1i hC dX12_isDate_1 mX12_27 sX12_dayOf (kX12_dayOf (by omega)) rfl rfl (Nat.le_of_ble_eq_true rfl) (RR rfl rfl rfl rfl) (fun z i1 => ?_)
  refine gB hC _ _ _ _ _ _ _ qX12_isDate_4 rfl ?_
  refine g_icmp_eq hC 12 dX12_isDate_5 rfl (by first | omega | exact bI_in _) (by first | omega | exact bI_in _) (fun c5 => ?_) (fun c5 => ?_)
  · refine gB hC _ _ _ _ _ _ _ qX12_isDate_12 rfl ?_
    refine g_zreturn hC dX12_isDate_13 hr ?_ ⟨?_, rfl, rfl⟩ gs_rfl ⟨Nat.le_of_ble_eq_true rfl, Nat.le_of_ble_eq_true rfl⟩
    · first | exact Or.inl rfl | exact Or.inr rfl | exact bI_01 _
    first | rw [bI_f (by omega)] | rw [bI_t (by omega)]
  · refine gB hC _ _ _ _ _ _ _ qX12_isDate_8 rfl ?_
    refine g_zreturn hC dX12_isDate_13 hr ?_ ⟨?_, rfl, rfl⟩ gs_rfl ⟨Nat.le_of_ble_eq_true rfl, Nat.le_of_ble_eq_true rfl⟩
    · first | exact Or.inl rfl | exact Or.inr rfl | exact bI_01 _
    first | rw [bI_f (by omega)] | rw [bI_t (by omega)]

theorem kX12_isKind {E l Sh V z} {b : Int} {N : gN0} {k0 : Int} (hm : gMd b N Sh V) (h1 : inI k0) (h2 : inI (N 1 - 1)) : gM E l yX12_isKind (.code yX12_isKind cX12_isKind 2 (some .boolean)) (rmk 1 0 0 22) [(2, b), (0, k0)] Sh V z (gR (some (0, bI (0 ≤ k0 ∧ k0 ≤ N 1 - 1))) Sh V) := by
  refine gM_at (L0 := [(2, b), (0, k0)]) rfl rfl rfl ?_
  intro p e s m args below meth c hC hr hex hnm hz
  refine gB hC _ _ _ _ _ _ _ qX12_isKind_0 rfl ?_
  refine g_getr hC dX12_isKind_3 fX12_9 hm.1.1 (by decide) rfl 0 rfl hm.2.1.1 ?_
  refine gB hC _ _ _ _ _ _ _ qX12_isKind_6 rfl ?_
  refine g_iald hC dX12_isKind_7 hm.1.2.1 (gMd_at hm _) (by omega) (by omega) (by decide) (fun i7 => ?_)
  refine gB hC _ _ _ _ _ _ _ qX12_isKind_8 rfl ?_
  refine g_cS1 hC dX12_isKind_10 mX12_35 sX12_in (kX12_in (by omega) (by omega) (by omega)) rfl rfl (Nat.le_of_ble_eq_true rfl) (RR rfl rfl rfl rfl) (fun z => ?_)
  refine g_zreturn hC dX12_isKind_13 hr ?_ ⟨?_, rfl, rfl⟩ gs_rfl ⟨Nat.le_of_ble_eq_true rfl, Nat.le_of_ble_eq_true rfl⟩
  · first | exact Or.inl rfl | exact Or.inr rfl | exact bI_01 _
  rfl

theorem kX12_isStay {E l Sh V z} {b : Int} {N : gN0} {k0 : Int} (hm : gMd b N Sh V) (h1 : inI k0) (h2 : inI (N 5 - 1)) : gM E l yX12_isStay (.code yX12_isStay cX12_isStay 2 (some .boolean)) (rmk 1 0 0 22) [(2, b), (0, k0)] Sh V z (gR (some (0, bI (0 ≤ k0 ∧ k0 ≤ N 5 - 1))) Sh V) := by
  refine gM_at (L0 := [(2, b), (0, k0)]) rfl rfl rfl ?_
  intro p e s m args below meth c hC hr hex hnm hz
  refine gB hC _ _ _ _ _ _ _ qX12_isStay_0 rfl ?_
  refine g_getr hC dX12_isStay_3 fX12_9 hm.1.1 (by decide) rfl 0 rfl hm.2.1.1 ?_
  refine gB hC _ _ _ _ _ _ _ qX12_isStay_6 rfl ?_
  refine g_iald hC dX12_isStay_7 hm.1.2.1 (gMd_at hm _) (by omega) (by omega) (by decide) (fun i7 => ?_)
  refine gB hC _ _ _ _ _ _ _ qX12_isStay_8 rfl ?_
  refine g_cS1 hC dX12_isStay_10 mX12_35 sX12_in (kX12_in (by omega) (by omega) (by omega)) rfl rfl (Nat.le_of_ble_eq_true rfl) (RR rfl rfl rfl rfl) (fun z => ?_)
  refine g_zreturn hC dX12_isStay_13 hr ?_ ⟨?_, rfl, rfl⟩ gs_rfl ⟨Nat.le_of_ble_eq_true rfl, Nat.le_of_ble_eq_true rfl⟩
  · first | exact Or.inl rfl | exact Or.inr rfl | exact bI_01 _
  rfl
