/-! the mean price, both sides (rows laid by wip/whole/n90.py) -/
/-- the prices of stays that are alive, and their nights -/
def mpP (N : gN0) : Nat → Int
  | 0 => 0
  | n + 1 => mpP N n + (if sF N n 0 = 0 ∨ sF N n 0 = 1 then sPr N n else 0)
def mpN (N : gN0) : Nat → Int
  | 0 => 0
  | n + 1 => mpN N n + (if sF N n 0 = 0 ∨ sF N n 0 = 1 then sF N n 3 else 0)
theorem mp_in {N : gN0} (h : InvC N) : ∀ n : Nat, (n : Int) ≤ N 5 → (0 ≤ mpP N n ∧ mpP N n ≤ 20000000 * n) ∧ 0 ≤ mpN N n ∧ mpN N n ≤ 14 * n := by
  intro n
  induction n with
  | zero => intro _; exact ⟨⟨Int.le_refl _, Int.le_refl _⟩, Int.le_refl _, Int.le_refl _⟩
  | succ n ih =>
    intro hn
    have ih := ih (by omega)
    have hs := h.2.2.2.1 n (by omega) (by omega)
    have hp := sPr_in hs
    have hs1 := hs.1
    unfold mpP mpN
    split <;> omega
/-- an answer that is a double -/
def gRd (x : UInt64) (Sh : gSh) (V : gV) : gPo := fun o Sh' V' _ => o = .inl (some (4, db x)) ∧ Sh' = Sh ∧ V' = V

theorem kX9_meanNightPrice {E l Sh V z} {h9 : Int} {N : gN0} (hm : RH h9 N Sh V) (hI : InvC N) : gM E l yX9_meanNightPrice (.code yX9_meanNightPrice cX9_meanNightPrice 5 (some .double)) (rmk 1 0 0 40) [(2, h9 + 4)] Sh V z (gRd (meB (mpP N (N 5).toNat) (mpN N (N 5).toNat)) Sh V) := by
  refine gM_at (L0 := [(2, h9 + 4), (9, 0), (9, 0), (9, 0), (9, 0)]) rfl rfl rfl ?_
  intro p e s m args below meth c hC hr hex hnm hz
  have hsc := hI.1
  unfold iScal at hsc
  refine gB hC _ _ _ _ _ _ _ qX9_meanNightPrice_0 rfl ?_
  refine g_loop (fun x : Int × Int × Nat => x.1 = mpP N x.2.2 ∧ x.2.1 = mpN N x.2.2 ∧ (x.2.2 : Int) ≤ N 5) (fun x => (N 5 - x.2.2).toNat) 7 (fun x => [(2, h9 + 4), (1, x.1), (9, 0), (0, x.2.1), (0, (x.2.2 : Int))]) (fun _ => V) (0, 0, 0) ⟨rfl, rfl, by show (0 : Int) ≤ N 5; omega⟩ ?_
  rintro ⟨pr, nt, i⟩ z ⟨hpr, hnt, hi9⟩ ih
  dsimp only at hpr hnt hi9 ih ⊢
  have hmp := mp_in hI i hi9
  refine gB hC _ _ _ _ _ _ _ qX9_meanNightPrice_7 rfl ?_
  refine g_getiv hC dX9_meanNightPrice_10 fX9_18 hm.1.sT (by decide) rfl 1 rfl hm.tS (fun i10 => ?_)
  refine g_icmp_ge hC 62 dX9_meanNightPrice_13 rfl (by first | omega | exact cmpZ_in _ _ | exact bI_in _) (by first | omega | exact cmpZ_in _ _ | exact bI_in _) (fun c13 => ?_) (fun c13 => ?_)
  · obtain rfl : i = (N 5).toNat := by omega
    refine gB hC _ _ _ _ _ _ _ qX9_meanNightPrice_62 rfl ?_
    refine g_icmp_ge hC 71 dX9_meanNightPrice_64 rfl (by first | omega | exact cmpZ_in _ _ | exact bI_in _) (by first | omega | exact cmpZ_in _ _ | exact bI_in _) (fun c64 => ?_) (fun c64 => ?_)
    · refine gB hC _ _ _ _ _ _ _ qX9_meanNightPrice_71 rfl ?_
      refine g_l2d hC dX9_meanNightPrice_72 ?_
      refine gB hC _ _ _ _ _ _ _ qX9_meanNightPrice_73 rfl ?_
      refine g_i2d hC dX9_meanNightPrice_74 ?_
      refine g_ddiv hC dX9_meanNightPrice_75 (ddiv_n (l2d_n _) (i2d_f (by omega) (by omega))) ?_
      first
      | (refine g_dreturn hC dX9_meanNightPrice_76 hr ⟨?_, rfl, rfl⟩ gs_rfl ⟨Nat.le_of_ble_eq_true rfl, Nat.le_of_ble_eq_true rfl⟩; (show Sum.inl (some ((4 : Nat), db FP.dconst0)) = _); unfold meB; rw [if_pos (by omega)]; done)
      | (refine g_dreturn hC dX9_meanNightPrice_76 hr ⟨?_, rfl, rfl⟩ gs_rfl ⟨Nat.le_of_ble_eq_true rfl, Nat.le_of_ble_eq_true rfl⟩; unfold meB; rw [if_neg (by omega), hpr, hnt]; done)
    · refine g_dconst0 hC dX9_meanNightPrice_67 ?_
      refine gB hC _ _ _ _ _ _ _ qX9_meanNightPrice_68 rfl ?_
      first
      | (refine g_dreturn hC dX9_meanNightPrice_76 hr ⟨?_, rfl, rfl⟩ gs_rfl ⟨Nat.le_of_ble_eq_true rfl, Nat.le_of_ble_eq_true rfl⟩; (show Sum.inl (some ((4 : Nat), db FP.dconst0)) = _); unfold meB; rw [if_pos (by omega)]; done)
      | (refine g_dreturn hC dX9_meanNightPrice_76 hr ⟨?_, rfl, rfl⟩ gs_rfl ⟨Nat.le_of_ble_eq_true rfl, Nat.le_of_ble_eq_true rfl⟩; unfold meB; rw [if_neg (by omega), hpr, hnt]; done)
  · have hso := hI.2.2.2.1 (i : Int) (by omega) (by omega)
    have hs1 := hso.1
    have hp9 := sPr_in hso
    refine gB hC _ _ _ _ _ _ _ qX9_meanNightPrice_16 rfl ?_
    refine g_getr hC dX9_meanNightPrice_17 fX9_11 hm.1.sT (by decide) rfl 0 rfl hm.2.1.pR ?_
    refine gB hC _ _ _ _ _ _ _ qX9_meanNightPrice_20 rfl ?_
    refine g_aald hC (j := 6) dX9_meanNightPrice_22 hm.1.sR (by decide) (hm.2.1.ps (by omega) (by omega)) (by omega) (by omega) (by decide) ?_
    refine g_cV1 hC dX9_meanNightPrice_23 mX9_29 vX8_isAlive (kX8_isAlive (hm.1.ss (by omega) (by omega)) (hm.st (by omega) (by omega))) rfl (hm.1.ss (by omega) (by omega)) (by decide) rfl (Nat.le_of_ble_eq_true rfl) (RR rfl rfl rfl rfl) (fun z => ?_)
    refine g_if_eq hC 56 dX9_meanNightPrice_26 rfl (by first | omega | exact cmpZ_in _ _ | exact bI_in _) (fun c26 => ?_) (fun c26 => ?_)
    · have c26 := bI_0.mp c26
      refine gB hC _ _ _ _ _ _ _ qX9_meanNightPrice_56 rfl ?_
      refine ih (_, _, i + 1) _ ⟨?_, ?_, by show ((i + 1 : Nat) : Int) ≤ N 5; omega⟩ (by show (N 5 - ((i + 1 : Nat) : Int)).toNat < (N 5 - i).toNat; omega)
      · show _ = mpP N i + _
        rw [hpr]; first | rw [if_pos (by omega)] | (rw [if_neg (by omega)]; dsimp only; omega)
      · show _ = mpN N i + _
        rw [hnt]; first | rw [if_pos (by omega)] | (rw [if_neg (by omega)]; dsimp only; omega)
    · have c26 := bI_n0.mp c26
      refine gB hC _ _ _ _ _ _ _ qX9_meanNightPrice_29 rfl ?_
      refine g_getr hC dX9_meanNightPrice_31 fX9_11 hm.1.sT (by decide) rfl 0 rfl hm.2.1.pR ?_
      refine gB hC _ _ _ _ _ _ _ qX9_meanNightPrice_34 rfl ?_
      refine g_aald hC (j := 6) dX9_meanNightPrice_36 hm.1.sR (by decide) (hm.2.1.ps (by omega) (by omega)) (by omega) (by omega) (by decide) ?_
      refine g_getiv hC dX9_meanNightPrice_37 fX9_75 (hm.1.ss (by omega) (by omega)) (by decide) rfl 7 rfl (hm.st (by omega) (by omega)).f7 (fun i37 => ?_)
      refine g_i2l hC dX9_meanNightPrice_40 (by first | omega | exact cmpZ_in _ _ | exact bI_in _) ?_
      refine gB hC _ _ _ _ _ _ _ qX9_meanNightPrice_41 rfl ?_
      refine g_getr hC dX9_meanNightPrice_45 fX9_11 hm.1.sT (by decide) rfl 0 rfl hm.2.1.pR ?_
      refine gB hC _ _ _ _ _ _ _ qX9_meanNightPrice_48 rfl ?_
      refine g_aald hC (j := 6) dX9_meanNightPrice_50 hm.1.sR (by decide) (hm.2.1.ps (by omega) (by omega)) (by omega) (by omega) (by decide) ?_
      refine g_getiv hC dX9_meanNightPrice_51 fX9_78 (hm.1.ss (by omega) (by omega)) (by decide) rfl 3 rfl (hm.st (by omega) (by omega)).f3 (fun i51 => ?_)
      refine gB hC _ _ _ _ _ _ _ qX9_meanNightPrice_54 rfl ?_
      refine gB hC _ _ _ _ _ _ _ qX9_meanNightPrice_56 rfl ?_
      refine ih (_, _, i + 1) _ ⟨?_, ?_, by show ((i + 1 : Nat) : Int) ≤ N 5; omega⟩ (by show (N 5 - ((i + 1 : Nat) : Int)).toNat < (N 5 - i).toNat; omega)
      · show _ = mpP N i + _
        rw [hpr]; first | rw [if_pos (by omega)] | (rw [if_neg (by omega)]; dsimp only; omega)
      · show _ = mpN N i + _
        rw [hnt]; first | rw [if_pos (by omega)] | (rw [if_neg (by omega)]; dsimp only; omega)

theorem kX11_meanPrice {E l Sh V z} {x9 cc9 : Int} {N : gN0} {P9 : Int → gN0} (hx : XR x9 N P9 cc9 Sh V) (hI0 : INV N) : gM E l yX11_meanPrice (.code yX11_meanPrice cX11_meanPrice 1 (some .double)) (rmk 11 60 600 420) [(2, x9)] Sh V z (gRe (some (4, db (meB (mpP N (N 5).toNat) (mpN N (N 5).toNat)))) (fun V' => XR x9 N P9 cc9 Sh V' ∧ OUX x9 Sh V V') Sh) := by
  refine gM_at (L0 := [(2, x9)]) rfl rfl rfl ?_
  intro p e s m args below meth c hC hr hex hnm hz
  have hI := hI0.1
  have hsc := hI.1
  unfold iScal at hsc
  refine gB hC _ _ _ _ _ _ _ qX11_meanPrice_0 rfl ?_
  refine g_getr hC dX11_meanPrice_1 fX11_10 hx.sX (by decide) rfl 0 rfl hx.p0 ?_
  refine g_getr hC dX11_meanPrice_4 fX11_106 hx.1.2.1.sH (by decide) rfl 11 rfl hx.rh.2.1.p11 ?_
  refine g_cV1 hC dX11_meanPrice_7 mX11_298 vX9_meanNightPrice (kX9_meanNightPrice hx.rh hI) rfl hx.1.2.1.sT (by decide) rfl (Nat.le_of_ble_eq_true rfl) (RR rfl rfl rfl rfl) (fun z => ?_)
  refine g_dreturn hC dX11_meanPrice_10 hr ⟨rfl, rfl, hx, OUX.rfl' _ _ _⟩ gs_rfl ⟨Nat.le_of_ble_eq_true rfl, Nat.le_of_ble_eq_true rfl⟩
theorem kX12_meanPrice {E l Sh V z} {b : Int} {N : gN0} (hm : gMd b N Sh V) (hI : INV N) : gM E l yX12_meanPrice (.code yX12_meanPrice cX12_meanPrice 5 (some .double)) (rmk 3 0 0 80) [(2, b)] Sh V z (gRd (meB (mpP N (N 5).toNat) (mpN N (N 5).toNat)) Sh (up V b 3 0)) := by
  refine gM_at (L0 := [(2, b), (9, 0), (9, 0), (9, 0), (9, 0)]) rfl rfl rfl ?_
  intro p e s m args below meth c hC hr hex hnm hz
  have hsc := hI.1.1
  unfold iScal at hsc
  refine gB hC _ _ _ _ _ _ _ qX12_meanPrice_0 rfl ?_
  refine g_puti hC dX12_meanPrice_2 fX12_31 hm.1.1 (by decide) rfl (fun _ h => by cases h; rfl) 3 rfl (by first | omega | exact cmpZ_in _ _ | exact bI_in _) (fun V2 e2 => ?_)
  have hm2 := gMd_o hm e2 (Or.inr ⟨rfl, by decide⟩)
  refine gB hC _ _ _ _ _ _ _ qX12_meanPrice_5 rfl ?_
  refine g_loop (fun x : Int × Int × Nat => x.1 = mpP N x.2.2 ∧ x.2.1 = mpN N x.2.2 ∧ (x.2.2 : Int) ≤ N 5) (fun x => (N 5 - x.2.2).toNat) 12 (fun x => [(2, b), (1, x.1), (9, 0), (0, x.2.1), (0, (x.2.2 : Int))]) (fun _ => V2) (0, 0, 0) ⟨rfl, rfl, by show (0 : Int) ≤ N 5; omega⟩ ?_
  rintro ⟨pr, nt, i⟩ z ⟨hpr, hnt, hi9⟩ ih
  dsimp only at hpr hnt hi9 ih ⊢
  have hmp := mp_in hI.1 i hi9
  refine gB hC _ _ _ _ _ _ _ qX12_meanPrice_12 rfl ?_
  refine g_getr hC dX12_meanPrice_15 fX12_9 hm2.1.1 (by decide) rfl 0 rfl hm2.2.1.1 ?_
  refine gB hC _ _ _ _ _ _ _ qX12_meanPrice_18 rfl ?_
  refine g_iald hC dX12_meanPrice_19 hm2.1.2.1 (gMd_at hm2 _) (by omega) (by omega) (by decide) (fun i19 => ?_)
  refine g_icmp_ge hC 61 dX12_meanPrice_20 rfl (by first | omega | exact cmpZ_in _ _ | exact bI_in _) (by first | omega | exact cmpZ_in _ _ | exact bI_in _) (fun c20 => ?_) (fun c20 => ?_)
  · obtain rfl : i = (N 5).toNat := by omega
    refine gB hC _ _ _ _ _ _ _ qX12_meanPrice_61 rfl ?_
    refine g_if_ne hC 69 dX12_meanPrice_62 rfl (by first | omega | exact cmpZ_in _ _ | exact bI_in _) (fun c62 => ?_) (fun c62 => ?_)
    · refine gB hC _ _ _ _ _ _ _ qX12_meanPrice_69 rfl ?_
      refine g_l2d hC dX12_meanPrice_70 ?_
      refine gB hC _ _ _ _ _ _ _ qX12_meanPrice_71 rfl ?_
      refine g_i2d hC dX12_meanPrice_72 ?_
      refine g_ddiv hC dX12_meanPrice_73 (ddiv_n (l2d_n _) (i2d_f (by omega) (by omega))) ?_
      first
      | (refine g_dreturn hC dX12_meanPrice_74 hr ⟨?_, rfl, e2⟩ gs_rfl ⟨Nat.le_of_ble_eq_true rfl, Nat.le_of_ble_eq_true rfl⟩; (show Sum.inl (some ((4 : Nat), db FP.dconst0)) = _); unfold meB; rw [if_pos (by omega)]; done)
      | (refine g_dreturn hC dX12_meanPrice_74 hr ⟨?_, rfl, e2⟩ gs_rfl ⟨Nat.le_of_ble_eq_true rfl, Nat.le_of_ble_eq_true rfl⟩; unfold meB; rw [if_neg (by omega), hpr, hnt]; done)
    · refine g_dconst0 hC dX12_meanPrice_65 ?_
      refine gB hC _ _ _ _ _ _ _ qX12_meanPrice_66 rfl ?_
      first
      | (refine g_dreturn hC dX12_meanPrice_74 hr ⟨?_, rfl, e2⟩ gs_rfl ⟨Nat.le_of_ble_eq_true rfl, Nat.le_of_ble_eq_true rfl⟩; (show Sum.inl (some ((4 : Nat), db FP.dconst0)) = _); unfold meB; rw [if_pos (by omega)]; done)
      | (refine g_dreturn hC dX12_meanPrice_74 hr ⟨?_, rfl, e2⟩ gs_rfl ⟨Nat.le_of_ble_eq_true rfl, Nat.le_of_ble_eq_true rfl⟩; unfold meB; rw [if_neg (by omega), hpr, hnt]; done)
  · have hso := hI.1.2.2.2.1 (i : Int) (by omega) (by omega)
    have hs1 := hso.1
    have hp9 := sPr_in hso
    refine gB hC _ _ _ _ _ _ _ qX12_meanPrice_23 rfl ?_
    refine g_cV1 hC dX12_meanPrice_26 mX12_49 vX12_isAlive (kX12_isAlive hm2 (by omega) (by omega)) rfl hm2.1.1 (by decide) rfl (Nat.le_of_ble_eq_true rfl) (RR rfl rfl rfl rfl) (fun z => ?_)
    refine g_if_ne hC 35 dX12_meanPrice_29 rfl (by first | omega | exact cmpZ_in _ _ | exact bI_in _) (fun c29 => ?_) (fun c29 => ?_)
    · have c29 := bI_n0.mp c29
      refine gB hC _ _ _ _ _ _ _ qX12_meanPrice_35 rfl ?_
      refine g_cV1i hC dX12_meanPrice_39 mX12_146 vX12_price (kX12_price hm2 hso (by omega) (by omega)) rfl hm2.1.1 (by decide) rfl (Nat.le_of_ble_eq_true rfl) (RR rfl rfl rfl rfl) (fun z i39 => ?_)
      refine g_i2l hC dX12_meanPrice_42 (by first | omega | exact cmpZ_in _ _ | exact bI_in _) ?_
      refine gB hC _ _ _ _ _ _ _ qX12_meanPrice_43 rfl ?_
      refine g_cV1i hC dX12_meanPrice_50 mX12_43 vX12_of (kX12_of hm2 (by omega) (by omega)) rfl hm2.1.1 (by decide) rfl (Nat.le_of_ble_eq_true rfl) (RR rfl rfl rfl rfl) (fun z i50 => ?_)
      refine gB hC _ _ _ _ _ _ _ qX12_meanPrice_53 rfl ?_
      refine gB hC _ _ _ _ _ _ _ qX12_meanPrice_55 rfl ?_
      refine ih (_, _, i + 1) _ ⟨?_, ?_, by show ((i + 1 : Nat) : Int) ≤ N 5; omega⟩ (by show (N 5 - ((i + 1 : Nat) : Int)).toNat < (N 5 - i).toNat; omega)
      · show _ = mpP N i + _
        rw [hpr]; first | rw [if_pos (by omega)] | (rw [if_neg (by omega)]; dsimp only; omega)
      · show _ = mpN N i + _
        rw [hnt]; first | rw [if_pos (by omega)] | (rw [if_neg (by omega)]; dsimp only; omega)
    · have c29 := bI_0.mp c29
      refine gB hC _ _ _ _ _ _ _ qX12_meanPrice_32 rfl ?_
      refine gB hC _ _ _ _ _ _ _ qX12_meanPrice_55 rfl ?_
      refine ih (_, _, i + 1) _ ⟨?_, ?_, by show ((i + 1 : Nat) : Int) ≤ N 5; omega⟩ (by show (N 5 - ((i + 1 : Nat) : Int)).toNat < (N 5 - i).toNat; omega)
      · show _ = mpP N i + _
        rw [hpr]; first | rw [if_pos (by omega)] | (rw [if_neg (by omega)]; dsimp only; omega)
      · show _ = mpN N i + _
        rw [hnt]; first | rw [if_pos (by omega)] | (rw [if_neg (by omega)]; dsimp only; omega)
