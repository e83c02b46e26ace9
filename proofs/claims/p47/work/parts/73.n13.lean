/-! the class: what is kept (rows laid by wip/whole/n73.py) -/
/-- the history's cells at y .. y + 973 -/
def shY (y : Int) (Sh : gSh) : Prop := Sh y = some (0, 0) ∧ Sh (y + 1) = some (103, 6) ∧ ∀ i, 0 ≤ i → i < 6 → shH (y + 2 + 162 * i) Sh
def ptY (y : Int) (V : gV) : Prop := V y 0 = y + 1 ∧ ∀ i, 0 ≤ i → i < 6 → V (y + 1) i = y + 2 + 162 * i ∧ ptH (y + 2 + 162 * i) V
/-- the states that can be taken back: row c - 1 is the latest one -/
def HY (y : Int) (P : Int → gN0) (c : Int) (Sh : gSh) (V : gV) : Prop := V y 2 = c ∧ 0 ≤ c ∧ c ≤ 6 ∧ 0 ≤ V y 1 ∧ V y 1 < 6 ∧ ∀ i, 0 ≤ i → i < c → RH (y + 2 + 162 * ((V y 1 + 5 - i) % 6)) (P (c - 1 - i)) Sh V ∧ INV (P (c - 1 - i))
def kpP (P : Int → gN0) (c : Int) (N : gN0) : Int → gN0 := fun j => if c = 6 then (if j = 5 then N else P (j + 1)) else if j = c then N else P j
def OUTY (y : Int) (V V' : gV) : Prop := ∀ a, (a < y ∨ y + 974 ≤ a) → V' a = V a
theorem ptY_out {y : Int} {V V' : gV} (H : ptY y V) (e : ∀ a, y ≤ a → a < y + 974 → V' a = V a) : ptY y V' := by
  refine ⟨by rw [e y (by omega) (by omega)]; exact H.1, fun i i0 i1 => ⟨by rw [e (y + 1) (by omega) (by omega)]; exact (H.2 i i0 i1).1, ptH_ag (H.2 i i0 i1).2 (fun c j hc => ?_)⟩⟩
  unfold isPt at hc
  rw [e _ (by omega) (by omega)]
theorem HY_out {y c : Int} {P : Int → gN0} {Sh : gSh} {V V' : gV} (H : HY y P c Sh V) (e : ∀ a, y ≤ a → a < y + 974 → V' a = V a) : HY y P c Sh V' := by
  obtain ⟨h1, h2, h3, h4, h5, h6⟩ := H
  have e0 := e y (by omega) (by omega)
  refine ⟨by rw [e0]; exact h1, h2, h3, by rw [e0]; exact h4, by rw [e0]; exact h5, fun i i0 i1 => ?_⟩
  obtain ⟨g1, g2⟩ := h6 i i0 i1
  rw [e0]
  exact ⟨RH_ag g1 g2.szO (fun _ _ _ => rfl) (fun a a0 a1 => e a (by omega) (by omega)), g2⟩

theorem kX1_keep {E l Sh V z} {h9 y9 cc9 : Int} {N : gN0} {P9 : Int → gN0} (hyS : shY y9 Sh) (hyP : ptY y9 V) (hY : HY y9 P9 cc9 Sh V) (hm : RH h9 N Sh V) (hI0 : INV N) (hd9 : h9 + 162 ≤ y9 ∨ y9 + 974 ≤ h9) : gM E l yX1_keep (.code yX1_keep cX1_keep 2 none) (rmk 4 0 0 140) [(2, y9), (2, h9)] Sh V z (gRe none (fun V' => HY y9 (kpP P9 cc9 N) (min (cc9 + 1) 6) Sh V' ∧ ptY y9 V' ∧ OUTY y9 V V') Sh) := by
  refine gM_at (L0 := [(2, y9), (2, h9)]) rfl rfl rfl ?_
  intro p e s m args below meth c hC hr hex hnm hz
  obtain ⟨hsz, hc0, hc6, hx0, hx6, hrow⟩ := hY
  generalize hnx : V y9 1 = x9 at hx0 hx6 hrow
  refine gB hC _ _ _ _ _ _ _ qX1_keep_0 rfl ?_
  refine g_getr hC dX1_keep_1 fX1_11 hyS.1 (by decide) rfl 0 rfl hyP.1 ?_
  refine gB hC _ _ _ _ _ _ _ qX1_keep_4 rfl ?_
  refine g_getiv hC dX1_keep_5 fX1_18 hyS.1 (by decide) rfl 1 rfl hnx (fun i5 => ?_)
  refine g_aald hC (j := 3) dX1_keep_8 hyS.2.1 (by decide) (hyP.2 _ (by omega) (by omega)).1 (by omega) (by omega) (by decide) ?_
  refine gB hC _ _ _ _ _ _ _ qX1_keep_9 rfl ?_
  refine g_cV0e hC dX1_keep_10 mX1_22 vX2_copyFrom (kX2_copyFrom (hyS.2.2 x9 hx0 hx6) (hyP.2 x9 hx0 hx6).2 hm hI0 (by omega)) rfl (hyS.2.2 _ (by omega) (by omega)).sH (by decide) rfl (Nat.le_of_ble_eq_true rfl) (RR rfl rfl rfl rfl) (fun z V10 e10 => ?_)
  have hpy : ptY y9 V10 := by
    refine ⟨by rw [e10.2 y9 (by omega)]; exact hyP.1, fun i i0 i1 => ⟨by rw [e10.2 (y9 + 1) (by omega)]; exact (hyP.2 i i0 i1).1, ?_⟩⟩
    by_cases hi : i = x9
    · rw [hi]; exact e10.1.2.1
    · refine ptH_ag (hyP.2 i i0 i1).2 (fun c j hc => ?_)
      unfold isPt at hc
      rw [e10.2 _ (by omega)]
  have hn1 : V10 y9 1 = x9 := by rw [e10.2 y9 (by omega)]; exact hnx
  have hs1 : V10 y9 2 = cc9 := by rw [e10.2 y9 (by omega)]; exact hsz
  refine gB hC _ _ _ _ _ _ _ qX1_keep_13 rfl ?_
  refine g_getiv hC dX1_keep_15 fX1_18 hyS.1 (by decide) rfl 1 rfl hn1 (fun i15 => ?_)
  refine gB hC _ _ _ _ _ _ _ qX1_keep_18 rfl ?_
  refine g_irem hC dX1_keep_22 (by first | omega | exact cmpZ_in _ _ | exact bI_in _) (by first | omega | exact cmpZ_in _ _ | exact bI_in _) (by omega) (by omega) ?_
  refine g_puti hC dX1_keep_23 fX1_18 hyS.1 (by decide) rfl (fun _ h => by cases h; rfl) 1 rfl (by first | omega | exact cmpZ_in _ _ | exact bI_in _) (fun V23 e23 => ?_)
  refine gB hC _ _ _ _ _ _ _ qX1_keep_26 rfl ?_
  refine g_getiv hC dX1_keep_28 fX1_26 hyS.1 (by decide) rfl 2 rfl ((congrFun (congrFun e23 _) _).trans ((up_ne _ _ (by omega)).trans hs1)) (fun i28 => ?_)
  refine gB hC _ _ _ _ _ _ _ qX1_keep_31 rfl ?_
  refine g_min hC dX1_keep_35 mX1_29 (by first | omega | exact cmpZ_in _ _ | exact bI_in _) (by first | omega | exact cmpZ_in _ _ | exact bI_in _) ⟨Nat.le_of_ble_eq_true rfl, Nat.le_of_ble_eq_true rfl, Nat.le_of_ble_eq_true rfl, Nat.le_of_ble_eq_true rfl⟩ ?_
  refine g_puti hC dX1_keep_38 fX1_26 hyS.1 (by decide) rfl (fun _ h => by cases h; rfl) 2 rfl (by first | omega | exact cmpZ_in _ _ | exact bI_in _) (fun V38 e38 => ?_)
  refine g_return hC dX1_keep_41 hr ⟨rfl, rfl, ?_, ?_, ?_⟩ gs_rfl ⟨Nat.le_of_ble_eq_true rfl, Nat.le_of_ble_eq_true rfl⟩
  · have er : ∀ a, a ≠ y9 → V38 a = V10 a := fun a ha => by rw [e38, up_row _ _ _ ha, e23, up_row _ _ _ ha]
    have f1 : V38 y9 1 = (x9 + 1) % 6 := by rw [e38, up_ne _ _ (Or.inr (by decide)), e23, up_eq]
    have f2 : V38 y9 2 = min (cc9 + 1) 6 := by rw [e38, up_eq]
    refine ⟨f2, by omega, by omega, by rw [f1]; omega, by rw [f1]; omega, fun i i0 i1 => ?_⟩
    rw [f1]
    by_cases hi : i = 0
    · subst hi
      have ek : kpP P9 cc9 N (min (cc9 + 1) 6 - 1 - 0) = N := by
        unfold kpP
        by_cases h6 : cc9 = 6
        · rw [if_pos h6, if_pos (by omega)]
        · rw [if_neg h6, if_pos (by omega)]
      rw [ek, show ((x9 + 1) % 6 + 5 - 0) % 6 = x9 by omega]
      exact ⟨RH_ag e10.1 hI0.szO (fun _ _ _ => rfl) (fun a a0 a1 => er a (by omega)), hI0⟩
    · have ek : kpP P9 cc9 N (min (cc9 + 1) 6 - 1 - i) = P9 (cc9 - 1 - (i - 1)) := by
        unfold kpP
        by_cases h6 : cc9 = 6
        · rw [if_pos h6, if_neg (by omega)]; congr 1; omega
        · rw [if_neg h6, if_neg (by omega)]; congr 1; omega
      obtain ⟨g1, g2⟩ := hrow (i - 1) (by omega) (by omega)
      rw [ek, show ((x9 + 1) % 6 + 5 - i) % 6 = (x9 + 5 - (i - 1)) % 6 by omega]
      refine ⟨RH_ag g1 g2.szO (fun _ _ _ => rfl) (fun a a0 a1 => ?_), g2⟩
      rw [er a (by omega), e10.2 a (by omega)]
  · refine ⟨by rw [e38, up_ne _ _ (Or.inr (by decide)), e23, up_ne _ _ (Or.inr (by decide))]; exact hpy.1, fun i i0 i1 => ⟨by rw [e38, up_row _ _ _ (by omega), e23, up_row _ _ _ (by omega)]; exact (hpy.2 i i0 i1).1, ptH_ag (hpy.2 i i0 i1).2 (fun c j hc => ?_)⟩⟩
    unfold isPt at hc
    rw [e38, up_row _ _ _ (by omega), e23, up_row _ _ _ (by omega)]
  · intro a ha
    rw [e38, up_row _ _ _ (by omega), e23, up_row _ _ _ (by omega), e10.2 a (by omega)]

theorem kX1_takeBack {E l Sh V z} {h9 y9 cc9 : Int} {N : gN0} {P9 : Int → gN0} (hyS : shY y9 Sh) (hyP : ptY y9 V) (hY : HY y9 P9 cc9 Sh V) (hm : RH h9 N Sh V) (hI0 : INV N) (hd9 : h9 + 162 ≤ y9 ∨ y9 + 974 ≤ h9) : gM E l yX1_takeBack (.code yX1_takeBack cX1_takeBack 2 (some .int)) (rmk 4 0 0 140) [(2, y9), (2, h9)] Sh V z (gRe (some (0, cc9 - 1)) (fun V' => HY y9 P9 (if cc9 = 0 then 0 else cc9 - 1) Sh V' ∧ ptY y9 V' ∧ RH h9 (if cc9 = 0 then N else P9 (cc9 - 1)) Sh V' ∧ ∀ a, (a < y9 ∨ y9 + 974 ≤ a) → (a < h9 ∨ h9 + 162 ≤ a) → V' a = V a) Sh) := by
  refine gM_at (L0 := [(2, y9), (2, h9)]) rfl rfl rfl ?_
  intro p e s m args below meth c hC hr hex hnm hz
  have hY0 := hY
  obtain ⟨hsz, hc0, hc6, hx0, hx6, hrow⟩ := hY
  generalize hnx : V y9 1 = x9 at hx0 hx6 hrow
  refine gB hC _ _ _ _ _ _ _ qX1_takeBack_0 rfl ?_
  refine g_getiv hC dX1_takeBack_1 fX1_26 hyS.1 (by decide) rfl 2 rfl hsz (fun i1 => ?_)
  refine gB hC _ _ _ _ _ _ _ qX1_takeBack_4 rfl ?_
  refine g_icmp_ge hC 10 dX1_takeBack_5 rfl (by first | omega | exact cmpZ_in _ _ | exact bI_in _) (by first | omega | exact cmpZ_in _ _ | exact bI_in _) (fun c5 => ?_) (fun c5 => ?_)
  · refine gB hC _ _ _ _ _ _ _ qX1_takeBack_10 rfl ?_
    refine g_getiv hC dX1_takeBack_12 fX1_18 hyS.1 (by decide) rfl 1 rfl hnx (fun i12 => ?_)
    refine gB hC _ _ _ _ _ _ _ qX1_takeBack_15 rfl ?_
    refine g_irem hC dX1_takeBack_22 (by first | omega | exact cmpZ_in _ _ | exact bI_in _) (by first | omega | exact cmpZ_in _ _ | exact bI_in _) (by omega) (by omega) ?_
    refine g_puti hC dX1_takeBack_23 fX1_18 hyS.1 (by decide) rfl (fun _ h => by cases h; rfl) 1 rfl (by first | omega | exact cmpZ_in _ _ | exact bI_in _) (fun V23 e23 => ?_)
    refine gB hC _ _ _ _ _ _ _ qX1_takeBack_26 rfl ?_
    refine g_getiv hC dX1_takeBack_28 fX1_26 hyS.1 (by decide) rfl 2 rfl ((congrFun (congrFun e23 _) _).trans ((up_ne _ _ (by omega)).trans hsz)) (fun i28 => ?_)
    refine gB hC _ _ _ _ _ _ _ qX1_takeBack_31 rfl ?_
    refine g_puti hC dX1_takeBack_33 fX1_26 hyS.1 (by decide) rfl (fun _ h => by cases h; rfl) 2 rfl (by first | omega | exact cmpZ_in _ _ | exact bI_in _) (fun V33 e33 => ?_)
    have hin : 0 ≤ (x9 + 6 - 1) % 6 ∧ (x9 + 6 - 1) % 6 < 6 := by omega
    have hr0 := hrow 0 (Int.le_refl _) (by omega)
    rw [show (x9 + 5 - 0) % 6 = (x9 + 6 - 1) % 6 by omega, show cc9 - 1 - 0 = cc9 - 1 by omega] at hr0
    have er : ∀ a, a ≠ y9 → V33 a = V a := fun a ha => by rw [e33, up_row _ _ _ ha, e23, up_row _ _ _ ha]
    have hr1 : RH (y9 + 2 + 162 * ((x9 + 6 - 1) % 6)) (P9 (cc9 - 1)) Sh V33 := RH_ag hr0.1 hr0.2.szO (fun _ _ _ => rfl) (fun a a0 a1 => er a (by omega))
    refine gB hC _ _ _ _ _ _ _ qX1_takeBack_36 rfl ?_
    refine g_getr hC dX1_takeBack_38 fX1_11 hyS.1 (by decide) rfl 0 rfl ((congrFun (congrFun e33 _) _).trans ((up_ne _ _ (by omega)).trans ((congrFun (congrFun e23 _) _).trans ((up_ne _ _ (by omega)).trans hyP.1)))) ?_
    refine gB hC _ _ _ _ _ _ _ qX1_takeBack_41 rfl ?_
    refine g_getiv hC dX1_takeBack_42 fX1_18 hyS.1 (by decide) rfl 1 rfl ((congrFun (congrFun e33 _) _).trans ((up_ne _ _ (by omega)).trans ((congrFun (congrFun e23 _) _).trans (up_eq _ _ _ _)))) (fun i42 => ?_)
    refine g_aald hC (j := 3) dX1_takeBack_45 hyS.2.1 (by decide) ((congrFun (congrFun e33 _) _).trans ((up_ne _ _ (by omega)).trans ((congrFun (congrFun e23 _) _).trans ((up_ne _ _ (by omega)).trans (hyP.2 _ (by omega) (by omega)).1)))) (by omega) (by omega) (by decide) ?_
    refine g_cV0e hC dX1_takeBack_46 mX1_22 vX2_copyFrom (kX2_copyFrom hm.1 (ptH_ag hm.2.1 (fun c j hc => by unfold isPt at hc; rw [er _ (by omega)])) hr1 hr0.2 (by omega)) rfl hm.1.sH (by decide) rfl (Nat.le_of_ble_eq_true rfl) (RR rfl rfl rfl rfl) (fun z V46 e46 => ?_)
    have hv2 : V46 y9 2 = cc9 - 1 := by rw [e46.2 y9 (by omega), e33, up_eq]
    have hv1 : V46 y9 1 = (x9 + 6 - 1) % 6 := by rw [e46.2 y9 (by omega), e33, up_ne _ _ (Or.inr (by decide)), e23, up_eq]
    have hall : ∀ a, (a < h9 ∨ h9 + 162 ≤ a) → a ≠ y9 → V46 a = V a := fun a ha hy => by rw [e46.2 a ha, er a hy]
    refine gB hC _ _ _ _ _ _ _ qX1_takeBack_49 rfl ?_
    refine g_getiv hC dX1_takeBack_50 fX1_26 hyS.1 (by decide) rfl 2 rfl hv2 (fun i50 => ?_)
    refine g_ireturn hC dX1_takeBack_53 hr ⟨?_, rfl, ?_, ?_, ?_, ?_⟩ gs_rfl ⟨Nat.le_of_ble_eq_true rfl, Nat.le_of_ble_eq_true rfl⟩
    all_goals (have e9 : cc9 ≠ 0 := by omega)
    · rfl
    · rw [if_neg e9]
      refine ⟨hv2, by omega, by omega, by rw [hv1]; omega, by rw [hv1]; omega, fun i i0 i1 => ?_⟩
      obtain ⟨g1, g2⟩ := hrow (i + 1) (by omega) (by omega)
      rw [hv1, show ((x9 + 6 - 1) % 6 + 5 - i) % 6 = (x9 + 5 - (i + 1)) % 6 by omega, show cc9 - 1 - 1 - i = cc9 - 1 - (i + 1) by omega]
      exact ⟨RH_ag g1 g2.szO (fun _ _ _ => rfl) (fun a a0 a1 => hall a (by omega) (by omega)), g2⟩
    · refine ⟨by rw [e46.2 y9 (by omega), e33, up_ne _ _ (Or.inr (by decide)), e23, up_ne _ _ (Or.inr (by decide))]; exact hyP.1, fun i i0 i1 => ⟨by rw [hall (y9 + 1) (by omega) (by omega)]; exact (hyP.2 i i0 i1).1, ptH_ag (hyP.2 i i0 i1).2 (fun c j hc => ?_)⟩⟩
      unfold isPt at hc
      rw [hall _ (by omega) (by omega)]
    · rw [if_neg e9]; exact e46.1
    · exact fun a h1 h2 => hall a h2 (by omega)
  · refine gB hC _ _ _ _ _ _ _ qX1_takeBack_8 rfl ?_
    refine g_ireturn hC dX1_takeBack_9 hr ⟨?_, rfl, ?_, ?_, ?_, ?_⟩ gs_rfl ⟨Nat.le_of_ble_eq_true rfl, Nat.le_of_ble_eq_true rfl⟩
    all_goals (have e9 : cc9 = 0 := by omega)
    · rw [e9]; rfl
    · rw [if_pos e9]; rw [← e9]; exact hY0
    · exact hyP
    · rw [if_pos e9]; exact hm
    · exact fun _ _ _ => rfl

