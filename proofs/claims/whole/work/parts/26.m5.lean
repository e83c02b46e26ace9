/-! the reference: what is kept (rows laid by wip/whole/m5.py) -/
/-- how many changes are kept when one more is to be -/
def kpC (V : gV) (b : Int) : Int := if V b 2 = 6 then 5 else V b 2
/-- the memory with the state kept -/
def kpV (V : gV) (b : Int) : gV := fun a j => if a = b + 2 then (if kpC V b * 5022 ≤ j ∧ j < kpC V b * 5022 + 5022 then V (b + 1) (j - kpC V b * 5022) else if V b 2 = 6 ∧ 0 ≤ j ∧ j < 25110 then V (b + 2) (5022 + j) else V (b + 2) j) else if a = b ∧ j = 2 then kpC V b + 1 else V a j
theorem gMd_cp {b : Int} {N : gN0} {Sh : gSh} {V V1 : gV} {a0 sp dp n : Int} (h : gMd b N Sh V) (e : V1 = cpV V a0 sp (b + 2) dp n) : gMd b N Sh V1 ∧ V1 b = V b := by
  subst e
  obtain ⟨h1, ⟨h2, h3, h4, h5, h6⟩, h7⟩ := h
  have k : ∀ a, a ≠ b + 2 → cpV V a0 sp (b + 2) dp n a = V a := by
    intro a ha
    funext j
    unfold cpV
    rw [if_neg (by omega)]
  have kb := k b (by omega)
  refine ⟨⟨h1, ⟨?_, ?_, ?_, ?_, ?_⟩, ?_⟩, kb⟩
  · rw [kb]; exact h2
  · rw [kb]; exact h3
  · rw [kb]; exact h4
  · rw [kb]; exact h5
  · rw [kb]; exact h6
  · rw [k (b + 1) (by omega)]; exact h7
theorem gMd_kp {b : Int} {N : gN0} {Sh : gSh} {V V1 : gV} (h : gMd b N Sh V) (e : V1 = kpV V b) : gMd b N Sh V1 := by
  subst e
  obtain ⟨h1, ⟨h2, h3, h4, h5, h6⟩, h7⟩ := h
  have k : ∀ j, j ≠ 2 → kpV V b b j = V b j := by
    intro j hj
    unfold kpV
    rw [if_neg (by omega), if_neg (by omega)]
  refine ⟨h1, ⟨?_, ?_, ?_, ?_, ?_⟩, ?_⟩
  · rw [k _ (by decide)]; exact h2
  · rw [k _ (by decide)]; exact h3
  · rw [k _ (by decide)]; exact h4
  · rw [k _ (by decide)]; exact h5
  · rw [k _ (by decide)]; exact h6
  · funext j
    unfold kpV
    rw [if_neg (by omega), if_neg (by omega)]
    exact congrFun h7 j
theorem fit_eq {x1 x2 x3 y1 y2 y3 : Int} (h1 : x1 = y1) (h2 : x2 = y2) (h3 : x3 = y3) : fitC x1 x2 x3 = fitC y1 y2 y3 := by rw [h1, h2, h3]
theorem fit_n1 {x1 x2 x3 : Int} (h : x1 = 0) : fitC x1 x2 x3 ≠ 0 := by unfold fitC; (repeat' split) <;> omega
theorem fit_n2 {x1 x2 x3 : Int} (h : x2 = 0) : fitC x1 x2 x3 ≠ 0 := by unfold fitC; (repeat' split) <;> omega
theorem fit_n3 {x1 x2 x3 : Int} (h : x3 = 0) : fitC x1 x2 x3 ≠ 0 := by unfold fitC; (repeat' split) <;> omega
theorem fit_ok {x1 x2 x3 : Int} (h1 : x1 = 1) (h2 : x2 = 1) (h3 : x3 = 1) : fitC x1 x2 x3 = 0 := by subst h1; subst h2; subst h3; rfl
theorem fit_p1 {P : Prop} [Decidable P] {x2 x3 : Int} (h : fitC (bI P) x2 x3 = 0) : P := by
  unfold fitC at h
  by_cases hp : P
  · exact hp
  · rw [bI_f hp, if_pos rfl] at h; omega
theorem fit_p2 {P : Prop} [Decidable P] {x1 x3 : Int} (h : fitC x1 (bI P) x3 = 0) : P := by
  by_cases hp : P
  · exact hp
  · exact absurd h (fit_n2 (bI_f hp))
theorem fit_p3 {P : Prop} [Decidable P] {x1 x2 : Int} (h : fitC x1 x2 (bI P) = 0) : P := by
  by_cases hp : P
  · exact hp
  · exact absurd h (fit_n3 (bI_f hp))
theorem kX12_fitsC {E l Sh V z} {b : Int} {N : gN0} {x1 x2 x3 C : Int} (hm : gMd b N Sh V) (h1 : inI x1) (h2 : inI x2) (h3 : inI x3) (hC : fitC x1 x2 x3 = C) : gM E l yX12_fits (.code yX12_fits cX12_fits 4 (some .boolean)) (rmk 0 0 0 0) [(2, b), (0, x1), (0, x2), (0, x3)] Sh V z (gR (some (0, bI (C = 0))) Sh (up V b 3 C)) := by
  subst hC
  exact kX12_fits hm h1 h2 h3

theorem kX12_keeps {E l Sh V z} {b : Int} {N : gN0} (hm : gMd b N Sh V) (h0 : 0 ≤ V b 2) (h1 : V b 2 ≤ 6) : gM E l yX12_keeps (.code yX12_keeps cX12_keeps 1 none) (rmk 1 0 0 40) [(2, b)] Sh V z (gR none Sh (kpV V b)) := by
  refine gM_at (L0 := [(2, b)]) rfl rfl rfl ?_
  intro p e s m args below meth c hC hr hex hnm hz
  refine gB hC _ _ _ _ _ _ _ qX12_keeps_0 rfl ?_
  refine g_geti hC dX12_keeps_1 fX12_101 hm.1.1 (by decide) rfl 2 rfl (fun i1 => ?_)
  refine gB hC _ _ _ _ _ _ _ qX12_keeps_4 rfl ?_
  refine g_icmp_ne hC 37 dX12_keeps_6 rfl (by first | omega | exact bI_in _) (by first | omega | exact bI_in _) (fun c6 => ?_) (fun c6 => ?_)
  · refine gB hC _ _ _ _ _ _ _ qX12_keeps_37 rfl ?_
    refine g_getr hC dX12_keeps_38 fX12_9 hm.1.1 (by decide) rfl 0 rfl hm.2.1.1 ?_
    refine gB hC _ _ _ _ _ _ _ qX12_keeps_41 rfl ?_
    refine g_getr hC dX12_keeps_43 fX12_13 hm.1.1 (by decide) rfl 1 rfl hm.2.1.2.1 ?_
    refine gB hC _ _ _ _ _ _ _ qX12_keeps_46 rfl ?_
    refine g_geti hC dX12_keeps_47 fX12_101 hm.1.1 (by decide) rfl 2 rfl (fun i47 => ?_)
    refine gB hC _ _ _ _ _ _ _ qX12_keeps_50 rfl ?_
    refine g_copy_int hC dX12_keeps_57 mX12_104 gCpN gCpS gCpI hm.1.2.1 hm.1.2.2.1 ⟨by decide, by decide⟩ (by decide) (by omega) (by decide) (by decide) (by omega) ⟨Nat.le_of_ble_eq_true rfl, Nat.le_of_ble_eq_true rfl⟩ ?_
    generalize eB : cpV _ (b + 1) 0 (b + 2) _ 5022 = VB
    have hmB := gMd_cp hm eB.symm
    have eBb := congrFun hmB.2 2
    refine gB hC _ _ _ _ _ _ _ qX12_keeps_60 rfl ?_
    refine g_geti hC dX12_keeps_62 fX12_101 hmB.1.1.1 (by decide) rfl 2 rfl (fun i62 => ?_)
    refine gB hC _ _ _ _ _ _ _ qX12_keeps_65 rfl ?_
    refine g_puti hC dX12_keeps_67 fX12_101 hmB.1.1.1 (by decide) rfl (fun _ h => by cases h; rfl) 2 rfl (by first | omega | exact bI_in _) (fun V67 e67 => ?_)
    have hm67 := gMd_o hmB.1 e67 (Or.inr ⟨rfl, by decide⟩)
    refine g_return hC dX12_keeps_70 hr ⟨rfl, rfl, ?_⟩ gs_rfl ⟨Nat.le_of_ble_eq_true rfl, Nat.le_of_ble_eq_true rfl⟩
    rw [e67, eBb, ← eB]
    funext a j
    unfold kpV kpC up cpV
    rw [if_neg c6]
    by_cases ha : a = b + 2
    · subst ha
      rw [if_neg (by omega), if_pos rfl]
      by_cases hj : V b 2 * 5022 ≤ j ∧ j < V b 2 * 5022 + 5022
      · rw [if_pos ⟨rfl, hj⟩, if_pos hj]; congr 1; omega
      · rw [if_neg (fun q => hj q.2), if_neg hj, if_neg (fun q => c6 q.1)]
    · rw [if_neg ha]
      by_cases h2 : a = b ∧ j = 2
      · rw [if_pos h2, if_pos h2]
      · rw [if_neg h2, if_neg (fun q => ha q.1), if_neg h2]
  · refine gB hC _ _ _ _ _ _ _ qX12_keeps_9 rfl ?_
    refine g_getr hC dX12_keeps_10 fX12_13 hm.1.1 (by decide) rfl 1 rfl hm.2.1.2.1 ?_
    refine gB hC _ _ _ _ _ _ _ qX12_keeps_13 rfl ?_
    refine g_getr hC dX12_keeps_17 fX12_13 hm.1.1 (by decide) rfl 1 rfl hm.2.1.2.1 ?_
    refine gB hC _ _ _ _ _ _ _ qX12_keeps_20 rfl ?_
    refine g_copy_int hC dX12_keeps_24 mX12_104 gCpN gCpS gCpI hm.1.2.2.1 hm.1.2.2.1 ⟨by decide, by decide⟩ (by decide) (by decide) (by decide) (by decide) (by decide) ⟨Nat.le_of_ble_eq_true rfl, Nat.le_of_ble_eq_true rfl⟩ ?_
    generalize eA : cpV V (b + 2) 5022 (b + 2) 0 25110 = VA
    have hmA := gMd_cp hm eA.symm
    have eAb : VA b 2 = V b 2 := by rw [hmA.2]
    refine gB hC _ _ _ _ _ _ _ qX12_keeps_27 rfl ?_
    refine g_geti hC dX12_keeps_29 fX12_101 hmA.1.1.1 (by decide) rfl 2 rfl (fun i29 => ?_)
    refine gB hC _ _ _ _ _ _ _ qX12_keeps_32 rfl ?_
    refine g_puti hC dX12_keeps_34 fX12_101 hmA.1.1.1 (by decide) rfl (fun _ h => by cases h; rfl) 2 rfl (by first | omega | exact bI_in _) (fun V34 e34 => ?_)
    have hm34 := gMd_o hmA.1 e34 (Or.inr ⟨rfl, by decide⟩)
    have e34b : V34 b 2 = 5 := by rw [e34, up_eq, eAb]; omega
    refine gB hC _ _ _ _ _ _ _ qX12_keeps_37 rfl ?_
    refine g_getr hC dX12_keeps_38 fX12_9 hm34.1.1 (by decide) rfl 0 rfl hm34.2.1.1 ?_
    refine gB hC _ _ _ _ _ _ _ qX12_keeps_41 rfl ?_
    refine g_getr hC dX12_keeps_43 fX12_13 hm34.1.1 (by decide) rfl 1 rfl hm34.2.1.2.1 ?_
    refine gB hC _ _ _ _ _ _ _ qX12_keeps_46 rfl ?_
    refine g_geti hC dX12_keeps_47 fX12_101 hm34.1.1 (by decide) rfl 2 rfl (fun i47 => ?_)
    refine gB hC _ _ _ _ _ _ _ qX12_keeps_50 rfl ?_
    refine g_copy_int hC dX12_keeps_57 mX12_104 gCpN gCpS gCpI hm34.1.2.1 hm34.1.2.2.1 ⟨by decide, by decide⟩ (by decide) (by omega) (by decide) (by decide) (by omega) ⟨Nat.le_of_ble_eq_true rfl, Nat.le_of_ble_eq_true rfl⟩ ?_
    generalize eB : cpV _ (b + 1) 0 (b + 2) _ 5022 = VB
    have hmB := gMd_cp hm34 eB.symm
    have eBb := congrFun hmB.2 2
    refine gB hC _ _ _ _ _ _ _ qX12_keeps_60 rfl ?_
    refine g_geti hC dX12_keeps_62 fX12_101 hmB.1.1.1 (by decide) rfl 2 rfl (fun i62 => ?_)
    refine gB hC _ _ _ _ _ _ _ qX12_keeps_65 rfl ?_
    refine g_puti hC dX12_keeps_67 fX12_101 hmB.1.1.1 (by decide) rfl (fun _ h => by cases h; rfl) 2 rfl (by first | omega | exact bI_in _) (fun V67 e67 => ?_)
    have hm67 := gMd_o hmB.1 e67 (Or.inr ⟨rfl, by decide⟩)
    refine g_return hC dX12_keeps_70 hr ⟨rfl, rfl, ?_⟩ gs_rfl ⟨Nat.le_of_ble_eq_true rfl, Nat.le_of_ble_eq_true rfl⟩
    have hk : kpC V b = 5 := if_pos (by omega)
    have c6' : V b 2 = 6 := by omega
    rw [e67, eBb, ← eB, e34b]
    funext a j
    unfold kpV
    rw [hk]
    unfold up cpV
    by_cases ha : a = b + 2
    · subst ha
      rw [if_neg (by omega), if_pos rfl]
      by_cases hj : 5 * 5022 ≤ j ∧ j < 5 * 5022 + 5022
      · rw [if_pos ⟨rfl, hj⟩, if_pos hj, e34, up_ne _ _ (Or.inl (by omega)), ← eA]
        unfold cpV
        rw [if_neg (by omega)]
        congr 1
        omega
      · rw [if_neg (fun q => hj q.2), if_neg hj, e34, up_ne _ _ (Or.inl (by omega)), ← eA]
        unfold cpV
        by_cases hj2 : 0 ≤ j ∧ j < 25110
        · rw [if_pos ⟨rfl, by omega⟩, if_pos ⟨c6', hj2⟩]
          congr 1
          omega
        · rw [if_neg (by omega), if_neg (by omega)]
    · rw [if_neg ha]
      by_cases h2 : a = b ∧ j = 2
      · rw [if_pos h2, if_pos h2]
      · rw [if_neg h2, if_neg (fun q => ha q.1), if_neg h2, e34]
        unfold up
        rw [if_neg h2, ← eA]
        unfold cpV
        rw [if_neg (fun q => ha q.1)]
