/-! the class is made: the small ones (rows laid by wip/whole/n91.py) -/
/-- an object is made: its cells lie at a .. a + n - 1, the first one lay there before -/
def gNw (a n : Int) (G : gSh → gV → Prop) (Sh : gSh) (V : gV) : gPo := fun o Sh' V' z' => o = .inl none ∧ z' = a + n ∧ (∀ c, (c ≤ a ∨ a + n ≤ c) → Sh' c = Sh c) ∧ (∀ c, c < a → V' c = V c) ∧ G Sh' V'

theorem kX3_init {E l Sh V} {a9 : Int} (hs : Sh a9 = some (2, 0)) (ha : 0 ≤ a9) : gM E l yX3_init (.code yX3_init cX3_init 1 none) (rmk 1 1 571 30) [(2, a9)] Sh V (a9 + 1) (gNw a9 2 (fun S W => S (a9 + 1) = some (101, 571) ∧ W a9 3 = a9 + 1) Sh V) := by
  refine gM_at (L0 := [(2, a9)]) rfl rfl rfl ?_
  intro p e s m args below meth c hC hr hex hnm hz
  refine gB hC _ _ _ _ _ _ _ qX3_init_0 rfl ?_
  refine g_objInit hC dX3_init_1 mX3_1 gObjI gObjC (by omega) ⟨by decide, by decide⟩ ?_
  refine gB hC _ _ _ _ _ _ _ qX3_init_4 rfl ?_
  refine g_puti hC dX3_init_6 fX3_7 hs (by decide) rfl (fun _ h => by cases h; rfl) 0 rfl (by first | omega | exact cmpZ_in _ _ | exact bI_in _) (fun V6 e6 => ?_)
  refine gB hC _ _ _ _ _ _ _ qX3_init_9 rfl ?_
  refine g_new_longs hC dX3_init_13 gArr_long rfl (by decide) ⟨by decide, by decide⟩ (fun hz13 => ?_)
  refine g_putr hC dX3_init_15 fX3_15 ((shp_ne _ _ (by omega)).trans hs) (by decide) rfl (fun _ h => by cases h; exact ⟨rfl, rfl⟩) hnm 3 rfl (fun V15 e15 => ?_)
  refine g_return hC dX3_init_18 hr ⟨rfl, by omega, fun c hc => ?_, fun c hc => ?_, ?_⟩ gs_rfl ⟨Nat.le_of_ble_eq_true rfl, Nat.le_of_ble_eq_true rfl⟩
  · rw [shp_ne _ _ (by omega)]
  · rw [e15, up_row _ _ _ (by omega), vn_ne _ _ (by omega), e6, up_row _ _ _ (by omega)]
  · exact ⟨shp_eq _ _ _, by rw [e15, up_eq]⟩

theorem kX4_init {E l Sh V} {a9 : Int} (hs : Sh a9 = some (3, 0)) (ha : 0 ≤ a9) : gM E l yX4_init (.code yX4_init cX4_init 1 none) (rmk 1 2 8 30) [(2, a9)] Sh V (a9 + 1) (gNw a9 3 (fun S W => S (a9 + 1) = some (100, 4) ∧ S (a9 + 2) = some (100, 4) ∧ W a9 0 = a9 + 1 ∧ W a9 1 = a9 + 2 ∧ (∀ j, W (a9 + 1) j = 0) ∧ ∀ j, W (a9 + 2) j = 0) Sh V) := by
  refine gM_at (L0 := [(2, a9)]) rfl rfl rfl ?_
  intro p e s m args below meth c hC hr hex hnm hz
  refine gB hC _ _ _ _ _ _ _ qX4_init_0 rfl ?_
  refine g_objInit hC dX4_init_1 mX4_3 gObjI gObjC (by omega) ⟨by decide, by decide⟩ ?_
  refine gB hC _ _ _ _ _ _ _ qX4_init_4 rfl ?_
  refine g_new_ints hC dX4_init_6 gArr_int rfl (by decide) ⟨by decide, by decide⟩ (fun hz6 => ?_)
  refine g_putr hC dX4_init_8 fX4_9 ((shp_ne _ _ (by omega)).trans hs) (by decide) rfl (fun _ h => by cases h; exact ⟨rfl, rfl⟩) hnm 0 rfl (fun V8 e8 => ?_)
  refine gB hC _ _ _ _ _ _ _ qX4_init_11 rfl ?_
  refine g_new_ints hC dX4_init_13 gArr_int rfl (by decide) ⟨by decide, by decide⟩ (fun hz13 => ?_)
  refine g_putr hC dX4_init_15 fX4_15 ((shp_ne _ _ (by omega)).trans ((shp_ne _ _ (by omega)).trans hs)) (by decide) rfl (fun _ h => by cases h; exact ⟨rfl, rfl⟩) hnm 1 rfl (fun V15 e15 => ?_)
  refine g_return hC dX4_init_18 hr ⟨rfl, by omega, fun c hc => ?_, fun c hc => ?_, ?_⟩ gs_rfl ⟨Nat.le_of_ble_eq_true rfl, Nat.le_of_ble_eq_true rfl⟩
  · rw [shp_ne _ _ (by omega), shp_ne _ _ (by omega)]
  · rw [e15, up_row _ _ _ (by omega), vn_ne _ _ (by omega), e8, up_row _ _ _ (by omega), vn_ne _ _ (by omega)]
  · have ez : a9 + 1 + 1 = a9 + 2 := by omega
    rw [ez] at e15 ⊢
    refine ⟨(shp_ne _ _ (by omega)).trans (shp_eq _ _ _), shp_eq _ _ _, by rw [e15, up_ne _ _ (Or.inr (by decide)), vn_ne _ _ (by omega), e8, up_eq], by rw [e15, up_eq], fun j => by rw [e15, up_row _ _ _ (by omega), vn_ne _ _ (by omega), e8, up_row _ _ _ (by omega), vn_eq], fun j => by rw [e15, up_row _ _ _ (by omega), vn_eq]⟩

theorem kX5_init {E l Sh V} {a9 : Int} (hs : Sh a9 = some (4, 0)) (ha : 0 ≤ a9) : gM E l yX5_init (.code yX5_init cX5_init 1 none) (rmk 1 3 126 30) [(2, a9)] Sh V (a9 + 1) (gNw a9 4 (fun S W => S (a9 + 1) = some (100, 60) ∧ S (a9 + 2) = some (100, 60) ∧ S (a9 + 3) = some (100, 6) ∧ W a9 0 = a9 + 1 ∧ W a9 2 = a9 + 2 ∧ W a9 4 = a9 + 3) Sh V) := by
  refine gM_at (L0 := [(2, a9)]) rfl rfl rfl ?_
  intro p e s m args below meth c hC hr hex hnm hz
  refine gB hC _ _ _ _ _ _ _ qX5_init_0 rfl ?_
  refine g_objInit hC dX5_init_1 mX5_3 gObjI gObjC (by omega) ⟨by decide, by decide⟩ ?_
  refine gB hC _ _ _ _ _ _ _ qX5_init_4 rfl ?_
  refine g_new_ints hC dX5_init_7 gArr_int rfl (by decide) ⟨by decide, by decide⟩ (fun hz7 => ?_)
  refine g_putr hC dX5_init_9 fX5_9 ((shp_ne _ _ (by omega)).trans hs) (by decide) rfl (fun _ h => by cases h; exact ⟨rfl, rfl⟩) hnm 0 rfl (fun V9 e9 => ?_)
  refine gB hC _ _ _ _ _ _ _ qX5_init_12 rfl ?_
  refine g_new_ints hC dX5_init_15 gArr_int rfl (by decide) ⟨by decide, by decide⟩ (fun hz15 => ?_)
  refine g_putr hC dX5_init_17 fX5_15 ((shp_ne _ _ (by omega)).trans ((shp_ne _ _ (by omega)).trans hs)) (by decide) rfl (fun _ h => by cases h; exact ⟨rfl, rfl⟩) hnm 2 rfl (fun V17 e17 => ?_)
  refine gB hC _ _ _ _ _ _ _ qX5_init_20 rfl ?_
  refine g_new_ints hC dX5_init_23 gArr_int rfl (by decide) ⟨by decide, by decide⟩ (fun hz23 => ?_)
  refine g_putr hC dX5_init_25 fX5_18 ((shp_ne _ _ (by omega)).trans ((shp_ne _ _ (by omega)).trans ((shp_ne _ _ (by omega)).trans hs))) (by decide) rfl (fun _ h => by cases h; exact ⟨rfl, rfl⟩) hnm 4 rfl (fun V25 e25 => ?_)
  refine g_return hC dX5_init_28 hr ⟨rfl, by omega, fun c hc => ?_, fun c hc => ?_, ?_⟩ gs_rfl ⟨Nat.le_of_ble_eq_true rfl, Nat.le_of_ble_eq_true rfl⟩
  · rw [shp_ne _ _ (by omega), shp_ne _ _ (by omega), shp_ne _ _ (by omega)]
  · rw [e25, up_row _ _ _ (by omega), vn_ne _ _ (by omega), e17, up_row _ _ _ (by omega), vn_ne _ _ (by omega), e9, up_row _ _ _ (by omega), vn_ne _ _ (by omega)]
  · have ez : a9 + 1 + 1 = a9 + 2 := by omega
    have ey : a9 + 2 + 1 = a9 + 3 := by omega
    rw [ez] at e17 e25 ⊢
    rw [ey] at e25 ⊢
    refine ⟨(shp_ne _ _ (by omega)).trans ((shp_ne _ _ (by omega)).trans (shp_eq _ _ _)), (shp_ne _ _ (by omega)).trans (shp_eq _ _ _), shp_eq _ _ _, by rw [e25, up_ne _ _ (Or.inr (by decide)), vn_ne _ _ (by omega), e17, up_ne _ _ (Or.inr (by decide)), vn_ne _ _ (by omega), e9, up_eq], by rw [e25, up_ne _ _ (Or.inr (by decide)), vn_ne _ _ (by omega), e17, up_eq], by rw [e25, up_eq]⟩

theorem kX6_init {E l Sh V} {a9 : Int} (hs : Sh a9 = some (5, 0)) (ha : 0 ≤ a9) : gM E l yX6_init (.code yX6_init cX6_init 1 none) (rmk 1 1 4 30) [(2, a9)] Sh V (a9 + 1) (gNw a9 2 (fun S W => S (a9 + 1) = some (100, 4) ∧ W a9 6 = a9 + 1 ∧ ∀ j, j ≠ 6 → W a9 j = V a9 j) Sh V) := by
  refine gM_at (L0 := [(2, a9)]) rfl rfl rfl ?_
  intro p e s m args below meth c hC hr hex hnm hz
  refine gB hC _ _ _ _ _ _ _ qX6_init_0 rfl ?_
  refine g_objInit hC dX6_init_1 mX6_3 gObjI gObjC (by omega) ⟨by decide, by decide⟩ ?_
  refine gB hC _ _ _ _ _ _ _ qX6_init_4 rfl ?_
  refine g_new_ints hC dX6_init_6 gArr_int rfl (by decide) ⟨by decide, by decide⟩ (fun hz6 => ?_)
  refine g_putr hC dX6_init_8 fX6_9 ((shp_ne _ _ (by omega)).trans hs) (by decide) rfl (fun _ h => by cases h; exact ⟨rfl, rfl⟩) hnm 6 rfl (fun V8 e8 => ?_)
  refine g_return hC dX6_init_11 hr ⟨rfl, by omega, fun c hc => ?_, fun c hc => ?_, ?_⟩ gs_rfl ⟨Nat.le_of_ble_eq_true rfl, Nat.le_of_ble_eq_true rfl⟩
  · rw [shp_ne _ _ (by omega)]
  · rw [e8, up_row _ _ _ (by omega), vn_ne _ _ (by omega)]
  · exact ⟨shp_eq _ _ _, by rw [e8, up_eq], fun j hj => by rw [e8, up_ne _ _ (Or.inr hj), vn_ne _ _ (by omega)]⟩

theorem kX7_init {E l Sh V z} {a9 : Int} (hs : Sh a9 = some (6, 0)) (ha : 0 ≤ a9) : gM E l yX7_init (.code yX7_init cX7_init 1 none) (rmk 1 0 0 30) [(2, a9)] Sh V z (gR none Sh V) := by
  refine gM_at (L0 := [(2, a9)]) rfl rfl rfl ?_
  intro p e s m args below meth c hC hr hex hnm hz
  refine gB hC _ _ _ _ _ _ _ qX7_init_0 rfl ?_
  refine g_objInit hC dX7_init_1 mX7_1 gObjI gObjC (by omega) ⟨by decide, by decide⟩ ?_
  refine g_return hC dX7_init_4 hr ⟨rfl, rfl, rfl⟩ gs_rfl ⟨Nat.le_of_ble_eq_true rfl, Nat.le_of_ble_eq_true rfl⟩

theorem kX8_init {E l Sh V} {a9 : Int} (hs : Sh a9 = some (7, 0)) (ha : 0 ≤ a9) : gM E l yX8_init (.code yX8_init cX8_init 1 none) (rmk 1 1 14 30) [(2, a9)] Sh V (a9 + 1) (gNw a9 2 (fun S W => S (a9 + 1) = some (100, 14) ∧ W a9 11 = a9 + 1) Sh V) := by
  refine gM_at (L0 := [(2, a9)]) rfl rfl rfl ?_
  intro p e s m args below meth c hC hr hex hnm hz
  refine gB hC _ _ _ _ _ _ _ qX8_init_0 rfl ?_
  refine g_objInit hC dX8_init_1 mX8_3 gObjI gObjC (by omega) ⟨by decide, by decide⟩ ?_
  refine gB hC _ _ _ _ _ _ _ qX8_init_4 rfl ?_
  refine g_new_ints hC dX8_init_7 gArr_int rfl (by decide) ⟨by decide, by decide⟩ (fun hz7 => ?_)
  refine g_putr hC dX8_init_9 fX8_9 ((shp_ne _ _ (by omega)).trans hs) (by decide) rfl (fun _ h => by cases h; exact ⟨rfl, rfl⟩) hnm 11 rfl (fun V9 e9 => ?_)
  refine g_return hC dX8_init_12 hr ⟨rfl, by omega, fun c hc => ?_, fun c hc => ?_, ?_⟩ gs_rfl ⟨Nat.le_of_ble_eq_true rfl, Nat.le_of_ble_eq_true rfl⟩
  · rw [shp_ne _ _ (by omega)]
  · rw [e9, up_row _ _ _ (by omega), vn_ne _ _ (by omega)]
  · exact ⟨shp_eq _ _ _, by rw [e9, up_eq]⟩

