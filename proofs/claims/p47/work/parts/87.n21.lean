/-! the class: rooms (rows laid by wip/whole/n87.py) -/
theorem kX11_needed {E l Sh V z} {x9 cc9 : Int} {N : gN0} {P9 : Int → gN0} {k9 : Int} (hx : XR x9 N P9 cc9 Sh V) (hI0 : INV N) (h1 : inI k9) : gM E l yX11_needed (.code yX11_needed cX11_needed 2 (some .int)) (rmk 11 60 600 420) [(2, x9), (0, k9)] Sh V z (gRk (fitC (bI (0 ≤ k9 ∧ k9 ≤ N 1 - 1)) 1 1) gxI "" "" (0, (gvT N k9 60 (N 5).toNat).2.2.2) (fun V' => XR x9 N P9 cc9 Sh V' ∧ OUX x9 Sh V V') (fun V' => XR x9 N P9 cc9 Sh V' ∧ OUX x9 Sh V V') Sh) := by
  refine gM_at (L0 := [(2, x9), (0, k9)]) rfl rfl rfl ?_
  intro p e s m args below meth c hC hr hex hnm hz
  have hI := hI0.1
  have hsc := hI.1
  unfold iScal at hsc
  refine gB hC _ _ _ _ _ _ _ qX11_needed_0 rfl ?_
  refine g_getr hC dX11_needed_2 fX11_10 hx.sX (by decide) rfl 0 rfl hx.p0 ?_
  refine g_getiv hC dX11_needed_5 fX11_39 hx.1.2.1.sH (by decide) rfl 2 rfl hx.rh.t2 (fun i5 => ?_)
  refine g_chkS hC dX11_needed_8 mX11_51 sX11_checkIndex (kX11_checkIndex (by omega) (by omega)) rfl rfl (Nat.le_of_ble_eq_true rfl) (RR rfl rfl rfl rfl) (fun z q8 => ?_) (fun z q8 => ?_)
  rotate_left
  · exact g_out hC hex ⟨rfl, Or.inr ⟨⟨hx, OUX.rfl' _ _ _⟩, (by first | exact Or.inl ⟨fl1 (fun h => by omega), rfl⟩ | exact Or.inr (Or.inl ⟨fl2 (by omega) (fun h => by omega), rfl⟩) | exact Or.inr (Or.inr ⟨fl3 (by omega) (by omega) (fun h => by omega), rfl⟩))⟩⟩ gs_rfl ⟨Nat.le_of_ble_eq_true rfl, Nat.le_of_ble_eq_true rfl⟩
  refine gB hC _ _ _ _ _ _ _ qX11_needed_11 rfl ?_
  refine g_getr hC dX11_needed_12 fX11_10 hx.sX (by decide) rfl 0 rfl hx.p0 ?_
  refine g_getr hC dX11_needed_15 fX11_106 hx.1.2.1.sH (by decide) rfl 11 rfl hx.rh.2.1.p11 ?_
  refine gB hC _ _ _ _ _ _ _ qX11_needed_18 rfl ?_
  refine g_cV1i hC dX11_needed_19 mX11_238 vX9_mostOnAnyNight (kX9_mostOnAnyNight hx.rh hI (by omega)) rfl hx.1.2.1.sT (by decide) rfl (Nat.le_of_ble_eq_true rfl) (RR rfl rfl rfl rfl) (fun z i19 => ?_)
  refine g_ireturn hC dX11_needed_22 hr ⟨rfl, Or.inl ⟨fk1 (by omega), ?_, ?_, ?_⟩⟩ gs_rfl ⟨Nat.le_of_ble_eq_true rfl, Nat.le_of_ble_eq_true rfl⟩
  · rw [gv_mo hI]
  · exact hx
  · exact OUX.rfl' _ _ _

theorem kX11_roomOf {E l Sh V z} {x9 cc9 : Int} {N : gN0} {P9 : Int → gN0} {s9 : Int} (hx : XR x9 N P9 cc9 Sh V) (hI0 : INV N) (h1 : inI s9) : gM E l yX11_roomOf (.code yX11_roomOf cX11_roomOf 3 (some .int)) (rmk 11 60 600 420) [(2, x9), (0, s9)] Sh V z (gRk (fitC (bI (0 ≤ s9 ∧ s9 ≤ N 5 - 1)) (bI ((0 ≤ s9 ∧ s9 ≤ N 5 - 1) ∧ (sF N s9 0 = 0 ∨ sF N s9 0 = 1))) 1) gxI gxS "" (0, (gvT N (sF N s9 1) (kF N (sF N s9 1) 0) (N 5).toNat).1 s9) (fun V' => XR x9 N P9 cc9 Sh V' ∧ OUX x9 Sh V V') (fun V' => XR x9 N P9 cc9 Sh V' ∧ OUX x9 Sh V V') Sh) := by
  refine gM_at (L0 := [(2, x9), (0, s9), (9, 0)]) rfl rfl rfl ?_
  intro p e s m args below meth c hC hr hex hnm hz
  have hI := hI0.1
  have hsc := hI.1
  unfold iScal at hsc
  refine gB hC _ _ _ _ _ _ _ qX11_roomOf_0 rfl ?_
  refine g_chkVo hC dX11_roomOf_2 mX11_135 vX11_checkedStay (kX11_checkedStay hx hI0 (by omega)) rfl hx.sX (by decide) rfl (Nat.le_of_ble_eq_true rfl) (RR rfl rfl rfl rfl) (fun z q2 => ?_) (fun z q2 => ?_)
  rotate_left
  · exact g_out hC hex ⟨rfl, Or.inr ⟨⟨hx, OUX.rfl' _ _ _⟩, (by first | exact Or.inl ⟨fl1 (fun h => by omega), rfl⟩ | exact Or.inr (Or.inl ⟨fl2 (by omega) (fun h => by omega), rfl⟩) | exact Or.inr (Or.inr ⟨fl3 (by omega) (by omega) (fun h => by omega), rfl⟩))⟩⟩ gs_rfl ⟨Nat.le_of_ble_eq_true rfl, Nat.le_of_ble_eq_true rfl⟩
  have hso := hI.2.2.2.1 s9 (by omega) (by omega)
  have hs1 := hso.1
  refine gB hC _ _ _ _ _ _ _ qX11_roomOf_5 rfl ?_
  refine g_cV1 hC dX11_roomOf_7 mX11_148 vX8_isAlive (kX8_isAlive (hx.1.2.1.ss (by omega) (by omega)) (hx.rh.st (by omega) (by omega))) rfl (hx.1.2.1.ss (by omega) (by omega)) (by decide) rfl (Nat.le_of_ble_eq_true rfl) (RR rfl rfl rfl rfl) (fun z => ?_)
  refine g_chkS hC dX11_roomOf_10 mX11_43 sX11_checkState (kX11_checkState (by first | omega | exact bI_in _)) rfl rfl (Nat.le_of_ble_eq_true rfl) (RR rfl rfl rfl rfl) (fun z q10 => ?_) (fun z q10 => ?_)
  rotate_left
  · have q10 : ¬ _ := fun h => q10 (bI_n0.mpr h)
    exact g_out hC hex ⟨rfl, Or.inr ⟨⟨hx, OUX.rfl' _ _ _⟩, (by first | exact Or.inl ⟨fl1 (fun h => by omega), rfl⟩ | exact Or.inr (Or.inl ⟨fl2 (by omega) (fun h => by omega), rfl⟩) | exact Or.inr (Or.inr ⟨fl3 (by omega) (by omega) (fun h => by omega), rfl⟩))⟩⟩ gs_rfl ⟨Nat.le_of_ble_eq_true rfl, Nat.le_of_ble_eq_true rfl⟩
  have q10 := bI_n0.mp q10
  refine gB hC _ _ _ _ _ _ _ qX11_roomOf_13 rfl ?_
  refine g_getr hC dX11_roomOf_14 fX11_26 hx.sX (by decide) rfl 2 rfl hx.p2 ?_
  refine gB hC _ _ _ _ _ _ _ qX11_roomOf_17 rfl ?_
  refine g_getr hC dX11_roomOf_18 fX11_10 hx.sX (by decide) rfl 0 rfl hx.p0 ?_
  refine gB hC _ _ _ _ _ _ _ qX11_roomOf_21 rfl ?_
  refine g_getiv hC dX11_roomOf_22 fX11_247 (hx.1.2.1.ss (by omega) (by omega)) (by decide) rfl 1 rfl (hx.rh.st (by omega) (by omega)).f1 (fun i22 => ?_)
  refine g_cV0e hC dX11_roomOf_25 mX11_250 vX5_give (kX5_give hx.sP hx.sO hx.pO hx.sM hx.pM hx.sL hx.pL hx.rh hI0 (Or.inl (by omega)) (by omega) (by omega)) rfl hx.sP (by decide) rfl (Nat.le_of_ble_eq_true rfl) (RR rfl rfl rfl rfl) (fun z V25 e25 => ?_)
  have hx2 := XR_P hx hI0 e25.2.1 e25.2.2
  have hou2 := (OUX.rfl' x9 Sh V).pl e25.2.2
  obtain ⟨⟨m, hsz, hsr, hrv, hw01, hwi⟩, _, _⟩ := e25
  obtain ⟨j9, j0, j1, ej⟩ := hsr.2.2.1 s9 (by omega) (by omega) ⟨by omega, rfl⟩
  have ev := hrv j9 j0 j1
  rw [ej] at ev
  refine gB hC _ _ _ _ _ _ _ qX11_roomOf_28 rfl ?_
  refine g_getr hC dX11_roomOf_29 fX11_26 hx2.sX (by decide) rfl 2 rfl hx2.p2 ?_
  refine g_getr hC dX11_roomOf_32 fX11_254 hx2.sP (by decide) rfl 2 rfl hx2.pM ?_
  refine gB hC _ _ _ _ _ _ _ qX11_roomOf_35 rfl ?_
  refine g_iald hC dX11_roomOf_36 hx2.sM ev (by omega) (by omega) (by decide) (fun i36 => ?_)
  refine g_ireturn hC dX11_roomOf_37 hr ⟨rfl, Or.inl ⟨fk2 (by omega) (by omega), ?_, ?_, ?_⟩⟩ gs_rfl ⟨Nat.le_of_ble_eq_true rfl, Nat.le_of_ble_eq_true rfl⟩
  · rfl
  · exact hx2
  · exact hou2

def gcl (N rho : gN0) (mm d : Int) : Int → Int := fun s => if rho s ≠ -1 ∧ (sF N s 2 ≤ d ∧ d ≤ sF N s 2 + sF N s 3 - 1) ∧ (mm = 45 ↔ sF N s 2 + sF N s 3 - 1 = d) then 1 else 0
theorem nd_gcl {N : gN0} {k R : Int} {f : gN0} {m : Nat} (hI : InvC N) (H : SRT N k f m (N 5).toNat) (mm d : Int) : ndR N (gvT N k R (N 5).toNat).1 mm d (gvT N k R (N 5).toNat).2.2.2.toNat = smF (gcl N (gvT N k R (N 5).toNat).1 mm d) f m := nd_sm hI H mm d
theorem smF_gcl (N rho : gN0) (mm d : Int) (f : gN0) : ∀ n : Nat, 0 ≤ smF (gcl N rho mm d) f n ∧ smF (gcl N rho mm d) f n ≤ n := by
  intro n
  induction n with
  | zero => exact ⟨Int.le_refl _, Int.le_refl _⟩
  | succ n ih => unfold smF gcl; unfold gcl at ih; split <;> omega

