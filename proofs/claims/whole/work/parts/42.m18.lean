/-! the reference: it is made (rows laid by wip/whole/m18.py) -/
theorem shp_ne (Sh : gSh) {a c : Int} (sh : Nat × Nat) (h : c ≠ a) : shp Sh a sh c = Sh c := if_neg h
theorem shp_eq (Sh : gSh) (a : Int) (sh : Nat × Nat) : shp Sh a sh a = some sh := if_pos rfl
theorem vn_ne (V : gV) {a c : Int} (f : Int → Int) (h : c ≠ a) : vnew V a f c = V c := if_neg h
theorem vn_eq (V : gV) (a : Int) (f : Int → Int) : vnew V a f a = f := if_pos rfl
theorem up_row (V : gV) {a c : Int} (i x : Int) (h : c ≠ a) : up V a i x c = V c := by
  funext j
  exact up_ne V x (Or.inl h)
/-- the state at first -/
def iniN : gN0 := upN (upN (upN (upN (upN (upN (fun _ => 0) 0 8822) 1 2) 31 3) 32 10000) 34 1) 35 25000
def iniSh (Sh : gSh) (b : Int) : gSh := shp (shp (shp (shp (shp (Sh) (b + 1) (100, 5022)) (b + 2) (100, 30132)) (b + 3) (100, 60)) (b + 4) (101, 30)) (b + 5) (101, 44)
/-- the reference is made -/
def gRn (b : Int) (Sh : gSh) (V : gV) : gPo := fun o Sh' V' _ => o = .inl none ∧ Sh' = iniSh Sh b ∧ gMd b iniN Sh' V' ∧ V' b 2 = 0 ∧ V' b 3 = 0 ∧ ∀ a, a < b → V' a = V a

theorem kX12_init {E l Sh V} {b : Int} (hs : Sh b = some (11, 0)) (hv2 : V b 2 = 0) (hv3 : V b 3 = 0) (hb : 0 ≤ b) : gM E l yX12_init (.code yX12_init cX12_init 1 none) (rmk 3 5 35288 60) [(2, b)] Sh V (b + 1) (gRn b Sh V) := by
  refine gM_at (L0 := [(2, b)]) rfl rfl rfl ?_
  intro p e s m args below meth c hC hr hex hnm hz
  refine gB hC _ _ _ _ _ _ _ qX12_init_0 rfl ?_
  refine g_objInit hC dX12_init_1 mX12_3 gObjI gObjC (by omega) ⟨by decide, by decide⟩ ?_
  refine gB hC _ _ _ _ _ _ _ qX12_init_4 rfl ?_
  refine g_new_ints hC dX12_init_8 gArr_int rfl (by decide) ⟨by decide, by decide⟩ (fun hz8 => ?_)
  rw [show b + 1 + 1 = b + 2 by omega]
  have hs8 : (shp (Sh) (b + 1) (100, 5022)) b = some (11, 0) := (shp_ne _ _ (by omega)).trans hs
  refine g_putr hC dX12_init_10 fX12_9 hs8 (by decide) rfl (fun _ h => by cases h; exact ⟨rfl, rfl⟩) hnm 0 rfl (fun V10 e10 => ?_)
  refine gB hC _ _ _ _ _ _ _ qX12_init_13 rfl ?_
  refine g_new_ints hC dX12_init_17 gArr_int rfl (by decide) ⟨by decide, by decide⟩ (fun hz17 => ?_)
  rw [show b + 2 + 1 = b + 3 by omega]
  have hs17 : (shp (shp (Sh) (b + 1) (100, 5022)) (b + 2) (100, 30132)) b = some (11, 0) := (shp_ne _ _ (by omega)).trans hs8
  refine g_putr hC dX12_init_19 fX12_13 hs17 (by decide) rfl (fun _ h => by cases h; exact ⟨rfl, rfl⟩) hnm 1 rfl (fun V19 e19 => ?_)
  refine gB hC _ _ _ _ _ _ _ qX12_init_22 rfl ?_
  refine g_new_ints hC dX12_init_25 gArr_int rfl (by decide) ⟨by decide, by decide⟩ (fun hz25 => ?_)
  rw [show b + 3 + 1 = b + 4 by omega]
  have hs25 : (shp (shp (shp (Sh) (b + 1) (100, 5022)) (b + 2) (100, 30132)) (b + 3) (100, 60)) b = some (11, 0) := (shp_ne _ _ (by omega)).trans hs17
  refine g_putr hC dX12_init_27 fX12_16 hs25 (by decide) rfl (fun _ h => by cases h; exact ⟨rfl, rfl⟩) hnm 4 rfl (fun V27 e27 => ?_)
  refine gB hC _ _ _ _ _ _ _ qX12_init_30 rfl ?_
  refine g_new_longs hC dX12_init_33 gArr_long rfl (by decide) ⟨by decide, by decide⟩ (fun hz33 => ?_)
  rw [show b + 4 + 1 = b + 5 by omega]
  have hs33 : (shp (shp (shp (shp (Sh) (b + 1) (100, 5022)) (b + 2) (100, 30132)) (b + 3) (100, 60)) (b + 4) (101, 30)) b = some (11, 0) := (shp_ne _ _ (by omega)).trans hs25
  refine g_putr hC dX12_init_35 fX12_19 hs33 (by decide) rfl (fun _ h => by cases h; exact ⟨rfl, rfl⟩) hnm 5 rfl (fun V35 e35 => ?_)
  refine gB hC _ _ _ _ _ _ _ qX12_init_38 rfl ?_
  refine g_new_longs hC dX12_init_41 gArr_long rfl (by decide) ⟨by decide, by decide⟩ (fun hz41 => ?_)
  rw [show b + 5 + 1 = b + 6 by omega]
  have hs41 : (shp (shp (shp (shp (shp (Sh) (b + 1) (100, 5022)) (b + 2) (100, 30132)) (b + 3) (100, 60)) (b + 4) (101, 30)) (b + 5) (101, 44)) b = some (11, 0) := (shp_ne _ _ (by omega)).trans hs33
  refine g_putr hC dX12_init_43 fX12_23 hs41 (by decide) rfl (fun _ h => by cases h; exact ⟨rfl, rfl⟩) hnm 6 rfl (fun V43 e43 => ?_)
  have e5 : ∀ j, (j = 0 ∨ j = 1 ∨ j = 4 ∨ j = 5 ∨ j = 6 ∨ j = 2 ∨ j = 3) → V43 b j = if j = 0 then b + 1 else if j = 1 then b + 2 else if j = 4 then b + 3 else if j = 5 then b + 4 else if j = 6 then b + 5 else 0 := by
    intro j hj
    rw [e43]
    unfold up
    rw [vn_ne _ _ (by omega), e35]
    unfold up
    rw [vn_ne _ _ (by omega), e27]
    unfold up
    rw [vn_ne _ _ (by omega), e19]
    unfold up
    rw [vn_ne _ _ (by omega), e10]
    unfold up
    rw [vn_ne _ _ (by omega)]
    rcases hj with rfl | rfl | rfl | rfl | rfl | rfl | rfl <;> simp [hv2, hv3]
  have e6 : V43 (b + 1) = fun _ => 0 := by
    rw [e43, up_row _ _ _ (by omega), vn_ne _ _ (by omega), e35, up_row _ _ _ (by omega), vn_ne _ _ (by omega), e27, up_row _ _ _ (by omega), vn_ne _ _ (by omega), e19, up_row _ _ _ (by omega), vn_ne _ _ (by omega), e10, up_row _ _ _ (by omega), vn_eq]
  have e7 : ∀ a, a < b → V43 a = V a := by
    intro a ha
    rw [e43, up_row _ _ _ (by omega), vn_ne _ _ (by omega), e35, up_row _ _ _ (by omega), vn_ne _ _ (by omega), e27, up_row _ _ _ (by omega), vn_ne _ _ (by omega), e19, up_row _ _ _ (by omega), vn_ne _ _ (by omega), e10, up_row _ _ _ (by omega), vn_ne _ _ (by omega)]
  have hm46 : gMd b (fun _ => 0) (shp (shp (shp (shp (shp (Sh) (b + 1) (100, 5022)) (b + 2) (100, 30132)) (b + 3) (100, 60)) (b + 4) (101, 30)) (b + 5) (101, 44)) V43 := by
    refine ⟨⟨hs41, ?_, ?_, ?_, ?_, ?_⟩, ⟨e5 0 (by decide), e5 1 (by decide), e5 4 (by decide), e5 5 (by decide), e5 6 (by decide)⟩, e6⟩
    · rw [shp_ne _ _ (by omega), shp_ne _ _ (by omega), shp_ne _ _ (by omega), shp_ne _ _ (by omega), shp_eq]
    · rw [shp_ne _ _ (by omega), shp_ne _ _ (by omega), shp_ne _ _ (by omega), shp_eq]
    · rw [shp_ne _ _ (by omega), shp_ne _ _ (by omega), shp_eq]
    · rw [shp_ne _ _ (by omega), shp_eq]
    · rw [shp_eq]
  refine gB hC _ _ _ _ _ _ _ qX12_init_46 rfl ?_
  refine g_getr hC dX12_init_47 fX12_9 hm46.1.1 (by decide) rfl 0 rfl hm46.2.1.1 ?_
  refine gB hC _ _ _ _ _ _ _ qX12_init_50 rfl ?_
  refine g_ldc hC 20240226 kX12_26 rfl dX12_init_51 ?_
  refine g_cS1i hC dX12_init_53 mX12_27 sX12_dayOf (kX12_dayOf (d := 20240226) (by omega)) rfl rfl (Nat.le_of_ble_eq_true rfl) (RR rfl rfl rfl rfl) (fun z i53 => ?_)
  rw [show dayZ 20240226 = 8822 by decide +kernel]
  refine g_ast hC dX12_init_56 hm46.1.2.1 (by omega) (by omega) (by decide) (by first | omega | exact bI_in _) (fun V56 e56 => ?_)
  have hw56 := gMw_up (gMw_in hm46) e56
  refine gB hC _ _ _ _ _ _ _ qX12_init_57 rfl ?_
  refine g_getr hC dX12_init_58 fX12_9 hw56.1.1.1 (by decide) rfl 0 rfl hw56.1.2.1.1 ?_
  refine gB hC _ _ _ _ _ _ _ qX12_init_61 rfl ?_
  refine g_ast hC dX12_init_63 hw56.1.1.2.1 (by omega) (by omega) (by decide) (by first | omega | exact bI_in _) (fun V63 e63 => ?_)
  have hw63 := gMw_up hw56 e63
  refine gB hC _ _ _ _ _ _ _ qX12_init_64 rfl ?_
  refine g_getr hC dX12_init_65 fX12_9 hw63.1.1.1 (by decide) rfl 0 rfl hw63.1.2.1.1 ?_
  refine gB hC _ _ _ _ _ _ _ qX12_init_68 rfl ?_
  refine g_ast hC dX12_init_71 hw63.1.1.2.1 (by omega) (by omega) (by decide) (by first | omega | exact bI_in _) (fun V71 e71 => ?_)
  have hw71 := gMw_up hw63 e71
  refine gB hC _ _ _ _ _ _ _ qX12_init_72 rfl ?_
  refine g_getr hC dX12_init_73 fX12_9 hw71.1.1.1 (by decide) rfl 0 rfl hw71.1.2.1.1 ?_
  refine gB hC _ _ _ _ _ _ _ qX12_init_76 rfl ?_
  refine g_ast hC dX12_init_81 hw71.1.1.2.1 (by omega) (by omega) (by decide) (by first | omega | exact bI_in _) (fun V81 e81 => ?_)
  have hw81 := gMw_up hw71 e81
  refine gB hC _ _ _ _ _ _ _ qX12_init_82 rfl ?_
  refine g_getr hC dX12_init_83 fX12_9 hw81.1.1.1 (by decide) rfl 0 rfl hw81.1.2.1.1 ?_
  refine gB hC _ _ _ _ _ _ _ qX12_init_86 rfl ?_
  refine g_ast hC dX12_init_89 hw81.1.1.2.1 (by omega) (by omega) (by decide) (by first | omega | exact bI_in _) (fun V89 e89 => ?_)
  have hw89 := gMw_up hw81 e89
  refine gB hC _ _ _ _ _ _ _ qX12_init_90 rfl ?_
  refine g_getr hC dX12_init_91 fX12_9 hw89.1.1.1 (by decide) rfl 0 rfl hw89.1.2.1.1 ?_
  refine gB hC _ _ _ _ _ _ _ qX12_init_94 rfl ?_
  refine g_ast hC dX12_init_99 hw89.1.1.2.1 (by omega) (by omega) (by decide) (by first | omega | exact bI_in _) (fun V99 e99 => ?_)
  have hw99 := gMw_up hw89 e99
  refine g_return hC dX12_init_100 hr ⟨rfl, rfl, ?_, ?_, ?_, ?_⟩ gs_rfl ⟨Nat.le_of_ble_eq_true rfl, Nat.le_of_ble_eq_true rfl⟩
  · exact hw99.1
  · rw [hw99.2]; unfold wrN; rw [if_neg (by omega)]; exact e5 2 (by decide)
  · rw [hw99.2]; unfold wrN; rw [if_neg (by omega)]; exact e5 3 (by decide)
  · intro a ha; rw [hw99.2]; unfold wrN; rw [if_neg (by omega)]; exact e7 a ha
