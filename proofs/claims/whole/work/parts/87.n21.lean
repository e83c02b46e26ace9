/-! the class: rooms (rows laid by wip/whole/n87.py) -/
theorem kX11_needed {E l Sh V z} {x9 cc9 : Int} {N : gN0} {P9 : Int → gN0} {k9 : Int} (hx : XR x9 N P9 cc9 Sh V) (hI0 : INV N) (h1 : inI k9) : gM E l yX11_needed (.code yX11_needed cX11_needed 2 (some .int)) (rmk 11 60 600 420) [(2, x9), (0, k9)] Sh V z (gRk (fitC (bI (0 ≤ k9 ∧ k9 ≤ N 1 - 1)) 1 1) gxI "" "" (0, (gvT N k9 60 (N 5).toNat).2.2.2) (fun V' => XR x9 N P9 cc9 Sh V' ∧ OUX x9 Sh V V') (fun V' => XR x9 N P9 cc9 Sh V' ∧ OUX x9 Sh V V') Sh) := by
  refine gM_at (L0 := [(2, x9), (0, k9)]) rfl rfl rfl ?_
  intro p e s m args below meth c hC hr hex hnm hz
  have hI := hI0.1
  have hsc := hI.1
  unfold iScal at hsc
  refine gB hC _ _ _ _ _ _ _ qX11_needed_0 rfl ?_
  refine g_getr hC dX11_needed_2 fX11_10 hx.sX (by decide) rfl 0 rfl hx.p0 ?_
  refine g_getiv hC dX11_needed_5 fX11_39 hx.1.2.1.sH (by decide) rfl 2 rfl hx.rh.t2 (fun i5 => ?_)
  refine g_chkS hC dX11_needed_8 mX11_51 sX11_checkIndex (kX11_checkIndex (by omega) (by omega)) rfl rfl (Nat.le_of_ble_eq_true rfl) (RR rfl rfl rfl rfl) (fun z q8 => ?_) (fun z q8 => ?_)
  rotate_left
  · exact g_out hC hex ⟨rfl, Or.inr ⟨⟨hx, OUX.rfl' _ _ _⟩, (by first | exact Or.inl ⟨fl1 (fun h => by omega), rfl⟩ | exact Or.inr (Or.inl ⟨fl2 (by omega) (fun h => by omega), rfl⟩) | exact Or.inr (Or.inr ⟨fl3 (by omega) (by omega) (fun h => by omega), rfl⟩))⟩⟩ gs_rfl ⟨Nat.le_of_ble_eq_true rfl, Nat.le_of_ble_eq_true rfl⟩
  refine gB hC _ _ _ _ _ _ _ qX11_needed_11 rfl ?_
  refine g_getr hC dX11_needed_12 fX11_10 hx.sX (by decide) rfl 0 rfl hx.p0 ?_
  refine g_getr hC dX11_needed_15 fX11_106 hx.1.2.1.sH (by decide) rfl 11 rfl hx.rh.2.1.p11 ?_
  refine gB hC _ _ _ _ _ _ _ qX11_needed_18 rfl ?_
  refine g_cV1i hC dX11_needed_19 mX11_238 vX9_mostOnAnyNight (kX9_mostOnAnyNight hx.rh hI (by omega)) rfl hx.1.2.1.sT (by decide) rfl (Nat.le_of_ble_eq_true rfl) (RR rfl rfl rfl rfl) (fun z i19 => ?_)
  refine g_ireturn hC dX11_needed_22 hr ⟨rfl, Or.inl ⟨fk1 (by omega), ?_, ?_, ?_⟩⟩ gs_rfl ⟨Nat.le_of_ble_eq_true rfl, Nat.le_of_ble_eq_true rfl⟩
  · rw [gv_mo hI]
  · exact hx
  · exact OUX.rfl' _ _ _

theorem kX11_roomOf {E l Sh V z} {x9 cc9 : Int} {N : gN0} {P9 : Int → gN0} {s9 : Int} (hx : XR x9 N P9 cc9 Sh V) (hI0 : INV N) (h1 : inI s9) : gM E l yX11_roomOf (.code yX11_roomOf cX11_roomOf 3 (some .int)) (rmk 11 60 600 420) [(2, x9), (0, s9)] Sh V z (gRk (fitC (bI (0 ≤ s9 ∧ s9 ≤ N 5 - 1)) (bI ((0 ≤ s9 ∧ s9 ≤ N 5 - 1) ∧ (sF N s9 0 = 0 ∨ sF N s9 0 = 1))) 1) gxI gxS "" (0, (gvT N (sF N s9 1) (kF N (sF N s9 1) 0) (N 5).toNat).1 s9) (fun V' => XR x9 N P9 cc9 Sh V' ∧ OUX x9 Sh V V') (fun V' => XR x9 N P9 cc9 Sh V' ∧ OUX x9 Sh V V') Sh) := by
  refine gM_at (L0 := [(2, x9), (0, s9), (9, 0)]) rfl rfl rfl ?_
  intro p e s m args below meth c hC hr hex hnm hz
  have hI := hI0.1
  have hsc := hI.1
  unfold iScal at hsc
  refine gB hC _ _ _ _ _ _ _ qX11_roomOf_0 rfl ?_
  refine g_chkVo hC dX11_roomOf_2 mX11_135 vX11_checkedStay (kX11_checkedStay hx hI0 (by omega)) rfl hx.sX (by decide) rfl (Nat.le_of_ble_eq_true rfl) (RR rfl rfl rfl rfl) (fun z q2 => ?_) (fun z q2 => ?_)
  rotate_left
  · exact g_out hC hex ⟨rfl, Or.inr ⟨⟨hx, OUX.rfl' _ _ _⟩, (by first | exact Or.inl ⟨fl1 (fun h => by omega), rfl⟩ | exact Or.inr (Or.inl ⟨fl2 (by omega) (fun h => by omega), rfl⟩) | exact Or.inr (Or.inr ⟨fl3 (by omega) (by omega) (fun h => by omega), rfl⟩))⟩⟩ gs_rfl ⟨Nat.le_of_ble_eq_true rfl, Nat.le_of_ble_eq_true rfl⟩
  have hso := hI.2.2.2.1 s9 (by omega) (by omega)
  have hs1 := hso.1
  refine gB hC _ _ _ _ _ _ _ qX11_roomOf_5 rfl ?_
  refine g_cV1 hC dX11_roomOf_7 mX11_148 vX8_isAlive (kX8_isAlive (hx.1.2.1.ss (by omega) (by omega)) (hx.rh.st (by omega) (by omega))) rfl (hx.1.2.1.ss (by omega) (by omega)) (by decide) rfl (Nat.le_of_ble_eq_true rfl) (RR rfl rfl rfl rfl) (fun z => ?_)
  refine g_chkS hC dX11_roomOf_10 mX11_43 sX11_checkState (kX11_checkState (by first | omega | exact bI_in _)) rfl rfl (Nat.le_of_ble_eq_true rfl) (RR rfl rfl rfl rfl) (fun z q10 => ?_) (fun z q10 => ?_)
  rotate_left
  · have q10 : ¬ _ := fun h => q10 (bI_n0.mpr h)
    exact g_out hC hex ⟨rfl, Or.inr ⟨⟨hx, OUX.rfl' _ _ _⟩, (by first | exact Or.inl ⟨fl1 (fun h => by omega), rfl⟩ | exact Or.inr (Or.inl ⟨fl2 (by omega) (fun h => by omega), rfl⟩) | exact Or.inr (Or.inr ⟨fl3 (by omega) (by omega) (fun h => by omega), rfl⟩))⟩⟩ gs_rfl ⟨Nat.le_of_ble_eq_true rfl, Nat.le_of_ble_eq_true rfl⟩
  have q10 := bI_n0.mp q10
  refine gB hC _ _ _ _ _ _ _ qX11_roomOf_13 rfl ?_
  refine g_getr hC dX11_roomOf_14 fX11_26 hx.sX (by decide) rfl 2 rfl hx.p2 ?_
  refine gB hC _ _ _ _ _ _ _ qX11_roomOf_17 rfl ?_
  refine g_getr hC dX11_roomOf_18 fX11_10 hx.sX (by decide) rfl 0 rfl hx.p0 ?_
  refine gB hC _ _ _ _ _ _ _ qX11_roomOf_21 rfl ?_
  refine g_getiv hC dX11_roomOf_22 fX11_247 (hx.1.2.1.ss (by omega) (by omega)) (by decide) rfl 1 rfl (hx.rh.st (by omega) (by omega)).f1 (fun i22 => ?_)
  refine g_cV0e hC dX11_roomOf_25 mX11_250 vX5_give (kX5_give hx.sP hx.sO hx.pO hx.sM hx.pM hx.sL hx.pL hx.rh hI0 (Or.inl (by omega)) (by omega) (by omega)) rfl hx.sP (by decide) rfl (Nat.le_of_ble_eq_true rfl) (RR rfl rfl rfl rfl) (fun z V25 e25 => ?_)
  have hx2 := XR_P hx hI0 e25.2.1 e25.2.2
  have hou2 := (OUX.rfl' x9 Sh V).pl e25.2.2
  obtain ⟨⟨m, hsz, hsr, hrv, hw01, hwi⟩, _, _⟩ := e25
  obtain ⟨j9, j0, j1, ej⟩ := hsr.2.2.1 s9 (by omega) (by omega) ⟨by omega, rfl⟩
  have ev := hrv j9 j0 j1
  rw [ej] at ev
  refine gB hC _ _ _ _ _ _ _ qX11_roomOf_28 rfl ?_
  refine g_getr hC dX11_roomOf_29 fX11_26 hx2.sX (by decide) rfl 2 rfl hx2.p2 ?_
  refine g_getr hC dX11_roomOf_32 fX11_254 hx2.sP (by decide) rfl 2 rfl hx2.pM ?_
  refine gB hC _ _ _ _ _ _ _ qX11_roomOf_35 rfl ?_
  refine g_iald hC dX11_roomOf_36 hx2.sM ev (by omega) (by omega) (by decide) (fun i36 => ?_)
  refine g_ireturn hC dX11_roomOf_37 hr ⟨rfl, Or.inl ⟨fk2 (by omega) (by omega), ?_, ?_, ?_⟩⟩ gs_rfl ⟨Nat.le_of_ble_eq_true rfl, Nat.le_of_ble_eq_true rfl⟩
  · rfl
  · exact hx2
  · exact hou2

def gcl (N rho : gN0) (mm d : Int) : Int → Int := fun s => if rho s ≠ -1 ∧ (sF N s 2 ≤ d ∧ d ≤ sF N s 2 + sF N s 3 - 1) ∧ (mm = 45 ↔ sF N s 2 + sF N s 3 - 1 = d) then 1 else 0
theorem nd_gcl {N : gN0} {k R : Int} {f : gN0} {m : Nat} (hI : InvC N) (H : SRT N k f m (N 5).toNat) (mm d : Int) : ndR N (gvT N k R (N 5).toNat).1 mm d (gvT N k R (N 5).toNat).2.2.2.toNat = smF (gcl N (gvT N k R (N 5).toNat).1 mm d) f m := nd_sm hI H mm d
theorem smF_gcl (N rho : gN0) (mm d : Int) (f : gN0) : ∀ n : Nat, 0 ≤ smF (gcl N rho mm d) f n ∧ smF (gcl N rho mm d) f n ≤ n := by
  intro n
  induction n with
  | zero => exact ⟨Int.le_refl _, Int.le_refl _⟩
  | succ n ih => unfold smF gcl; unfold gcl at ih; split <;> omega

theorem kX11_roomsToClean {E l Sh V z} {x9 cc9 d9 l9 mm : Int} {N : gN0} {P9 : Int → gN0} (hx : XR x9 N P9 cc9 Sh V) (hI0 : INV N) (h1 : inI d9) (hl : (l9 = 1 ∧ mm = 45) ∨ (l9 = 0 ∧ mm = 20)) : gM E l yX11_roomsToClean (.code yX11_roomsToClean cX11_roomsToClean 9 (some .int)) (rmk 4 0 0 200) [(2, x9), (0, d9), (0, l9)] Sh V z (gRe (some (0, ndK N mm d9 (N 1).toNat)) (fun V' => XR x9 N P9 cc9 Sh V' ∧ OUX x9 Sh V V') Sh) := by
  refine gM_at (L0 := [(2, x9), (0, d9), (0, l9), (9, 0), (9, 0), (9, 0), (9, 0), (9, 0), (9, 0)]) rfl rfl rfl ?_
  intro p e s m args below meth c hC hr hex hnm hz
  have hI := hI0.1
  have hsc := hI.1
  unfold iScal at hsc
  refine gB hC _ _ _ _ _ _ _ qX11_roomsToClean_0 rfl ?_
  refine g_loop (fun x : gV × Int × Nat × aV × aV × aV × aV => XR x9 N P9 cc9 Sh x.1 ∧ OUX x9 Sh V x.1 ∧ x.2.1 = ndK N mm d9 x.2.2.1 ∧ (x.2.2.1 : Int) ≤ N 1) (fun x => (N 1 - x.2.2.1).toNat) 5 (fun x => [(2, x9), (0, d9), (0, l9), (0, x.2.1), (0, (x.2.2.1 : Int)), x.2.2.2.1, x.2.2.2.2.1, x.2.2.2.2.2.1, x.2.2.2.2.2.2]) (fun x => x.1) (V, 0, 0, (9, 0), (9, 0), (9, 0), (9, 0)) ⟨hx, OUX.rfl' _ _ _, rfl, by show (0 : Int) ≤ N 1; omega⟩ ?_
  rintro ⟨V1, fd, kd, a5, a6, a7, a8⟩ z ⟨hx1, ho1, hfd, hkd⟩ ih
  dsimp only at hx1 ho1 hfd hkd ih ⊢
  have hnk := ndK_in hI mm d9 kd hkd
  refine gB hC _ _ _ _ _ _ _ qX11_roomsToClean_5 rfl ?_
  refine g_getr hC dX11_roomsToClean_8 fX11_10 hx1.sX (by decide) rfl 0 rfl hx1.p0 ?_
  refine g_getiv hC dX11_roomsToClean_11 fX11_39 hx1.1.2.1.sH (by decide) rfl 2 rfl hx1.rh.t2 (fun i11 => ?_)
  refine g_icmp_ge hC 140 dX11_roomsToClean_14 rfl (by first | omega | exact cmpZ_in _ _ | exact bI_in _) (by first | omega | exact cmpZ_in _ _ | exact bI_in _) (fun c14 => ?_) (fun c14 => ?_)
  · refine gB hC _ _ _ _ _ _ _ qX11_roomsToClean_140 rfl ?_
    refine g_ireturn hC dX11_roomsToClean_141 hr ⟨?_, rfl, hx1, ho1⟩ gs_rfl ⟨Nat.le_of_ble_eq_true rfl, Nat.le_of_ble_eq_true rfl⟩
    have e9 : kd = (N 1).toNat := by omega
    rw [hfd, e9]
  · refine gB hC _ _ _ _ _ _ _ qX11_roomsToClean_17 rfl ?_
    refine g_getr hC dX11_roomsToClean_18 fX11_26 hx1.sX (by decide) rfl 2 rfl hx1.p2 ?_
    refine gB hC _ _ _ _ _ _ _ qX11_roomsToClean_21 rfl ?_
    refine g_getr hC dX11_roomsToClean_22 fX11_10 hx1.sX (by decide) rfl 0 rfl hx1.p0 ?_
    refine gB hC _ _ _ _ _ _ _ qX11_roomsToClean_25 rfl ?_
    refine g_cV0e hC dX11_roomsToClean_27 mX11_250 vX5_give (kX5_give hx1.sP hx1.sO hx1.pO hx1.sM hx1.pM hx1.sL hx1.pL hx1.rh hI0 (Or.inl (by omega)) (by omega) (by omega)) rfl hx1.sP (by decide) rfl (Nat.le_of_ble_eq_true rfl) (RR rfl rfl rfl rfl) (fun z V27 e27 => ?_)
    have hx2 := XR_P hx1 hI0 e27.2.1 e27.2.2
    have hou2 := ho1.pl e27.2.2
    obtain ⟨⟨m, hsz, hsr, hrv, hw01, hwi⟩, _, _⟩ := e27
    have hmt := hsr.2.2.2.2
    refine gB hC _ _ _ _ _ _ _ qX11_roomsToClean_30 rfl ?_
    refine g_loop (fun x : Int × Nat × aV × aV × aV => x.1 = ndK N mm d9 kd + smF (gcl N (gvT N kd (kF N kd 0) (N 5).toNat).1 mm d9) (V27 (x9 + 1137 + 1)) x.2.1 ∧ x.2.1 ≤ m) (fun x => m - x.2.1) 33 (fun x => [(2, x9), (0, d9), (0, l9), (0, x.1), (0, (kd : Int)), (0, (x.2.1 : Int)), x.2.2.1, x.2.2.2.1, x.2.2.2.2]) (fun _ => V27) (_, 0, _, _, _) ⟨by show _ = ndK N mm d9 kd + 0; rw [Int.add_zero]; exact hfd, Nat.zero_le _⟩ ?_
    rintro ⟨f2, i, b6, b7, b8⟩ z ⟨hf2, him⟩ ih2
    dsimp only at hf2 him ih2 ⊢
    have hsg := smF_gcl N (gvT N kd (kF N kd 0) (N 5).toNat).1 mm d9 (V27 (x9 + 1137 + 1)) i
    refine gB hC _ _ _ _ _ _ _ qX11_roomsToClean_33 rfl ?_
    refine g_getr hC dX11_roomsToClean_36 fX11_26 hx2.sX (by decide) rfl 2 rfl hx2.p2 ?_
    refine g_getiv hC dX11_roomsToClean_39 fX11_340 hx2.sP (by decide) rfl 1 rfl hsz (fun i39 => ?_)
    refine g_icmp_ge hC 134 dX11_roomsToClean_42 rfl (by first | omega | exact cmpZ_in _ _ | exact bI_in _) (by first | omega | exact cmpZ_in _ _ | exact bI_in _) (fun c42 => ?_) (fun c42 => ?_)
    · refine gB hC _ _ _ _ _ _ _ qX11_roomsToClean_134 rfl ?_
      refine ih (V27, f2, kd + 1, _, _, _, _) _ ⟨hx2, hou2, ?_, by show ((kd + 1 : Nat) : Int) ≤ N 1; omega⟩ (by show (N 1 - ((kd + 1 : Nat) : Int)).toNat < (N 1 - kd).toNat; omega)
      obtain rfl : i = m := by omega
      show f2 = ndK N mm d9 kd + ndR N (gvT N kd (kF N kd 0) (N 5).toNat).1 mm d9 _
      rw [nd_gcl hI hsr, hf2]
    · have hfp := hsr.1 (i : Int) (by omega) (by omega)
      have hsp := (hI.2.2.2.1 ((V27 (x9 + 1137 + 1)) i) hfp.1 (by omega)).1
      refine gB hC _ _ _ _ _ _ _ qX11_roomsToClean_45 rfl ?_
      refine g_getr hC dX11_roomsToClean_46 fX11_26 hx2.sX (by decide) rfl 2 rfl hx2.p2 ?_
      refine g_getr hC dX11_roomsToClean_49 fX11_341 hx2.sP (by decide) rfl 0 rfl hx2.pO ?_
      refine gB hC _ _ _ _ _ _ _ qX11_roomsToClean_52 rfl ?_
      refine g_iaload hC dX11_roomsToClean_54 hx2.sO (by omega) (by omega) (by decide) (fun i54 => ?_)
      refine gB hC _ _ _ _ _ _ _ qX11_roomsToClean_55 rfl ?_
      refine g_getr hC dX11_roomsToClean_58 fX11_10 hx2.sX (by decide) rfl 0 rfl hx2.p0 ?_
      refine g_getr hC dX11_roomsToClean_61 fX11_106 hx2.1.2.1.sH (by decide) rfl 11 rfl hx2.rh.2.1.p11 ?_
      refine g_getr hC dX11_roomsToClean_64 fX11_328 hx2.1.2.1.sT (by decide) rfl 0 rfl hx2.rh.2.1.pR ?_
      refine gB hC _ _ _ _ _ _ _ qX11_roomsToClean_67 rfl ?_
      refine g_aald hC (j := 6) dX11_roomsToClean_69 hx2.1.2.1.sR (by decide) (hx2.rh.2.1.ps (by omega) (by omega)) (by omega) (by omega) (by decide) ?_
      refine gB hC _ _ _ _ _ _ _ qX11_roomsToClean_70 rfl ?_
      refine g_getr hC dX11_roomsToClean_73 fX11_26 hx2.sX (by decide) rfl 2 rfl hx2.p2 ?_
      refine g_getr hC dX11_roomsToClean_76 fX11_254 hx2.sP (by decide) rfl 2 rfl hx2.pM ?_
      refine gB hC _ _ _ _ _ _ _ qX11_roomsToClean_79 rfl ?_
      refine g_iald hC dX11_roomsToClean_81 hx2.sM (hrv (i : Int) (by omega) (by omega)) (by omega) (by omega) (by decide) (fun i81 => ?_)
      refine gB hC _ _ _ _ _ _ _ qX11_roomsToClean_82 rfl ?_
      refine g_icmp_eq hC 99 dX11_roomsToClean_83 rfl (by first | omega | exact cmpZ_in _ _ | exact bI_in _) (by first | omega | exact cmpZ_in _ _ | exact bI_in _) (fun c83 => ?_) (fun c83 => ?_)
      · refine gB hC _ _ _ _ _ _ _ qX11_roomsToClean_99 rfl ?_
        refine gB hC _ _ _ _ _ _ _ qX11_roomsToClean_100 rfl ?_
        refine g_if_eq hC 128 dX11_roomsToClean_104 rfl (by first | omega | exact cmpZ_in _ _ | exact bI_in _) (fun c104 => ?_) (fun c104 => ?_)
        · refine gB hC _ _ _ _ _ _ _ qX11_roomsToClean_128 rfl ?_
          refine ih2 (_, i + 1, _, _, _) _ ⟨?_, by show i + 1 ≤ m; omega⟩ (by show m - (i + 1) < m - i; omega)
          show _ = ndK N mm d9 kd + (smF (gcl N (gvT N kd (kF N kd 0) (N 5).toNat).1 mm d9) (V27 (x9 + 1137 + 1)) i + gcl N (gvT N kd (kF N kd 0) (N 5).toNat).1 mm d9 ((V27 (x9 + 1137 + 1)) i))
          rw [hf2]
          unfold gcl
          split <;> omega
        · exact absurd c104 (by decide)
      · refine gB hC _ _ _ _ _ _ _ qX11_roomsToClean_86 rfl ?_
        refine g_cV1 hC dX11_roomsToClean_89 mX11_344 vX8_hasNight (kX8_hasNight (hx2.1.2.1.ss (by omega) (by omega)) (hx2.rh.st (by omega) (by omega)) (hI0.1.2.2.2.1 _ (by omega) (by omega)) (by omega)) rfl (hx2.1.2.1.ss (by omega) (by omega)) (by decide) rfl (Nat.le_of_ble_eq_true rfl) (RR rfl rfl rfl rfl) (fun z => ?_)
        refine g_if_eq hC 99 dX11_roomsToClean_92 rfl (by first | omega | exact cmpZ_in _ _ | exact bI_in _) (fun c92 => ?_) (fun c92 => ?_)
        · have c92 := bI_0.mp c92
          refine gB hC _ _ _ _ _ _ _ qX11_roomsToClean_99 rfl ?_
          refine gB hC _ _ _ _ _ _ _ qX11_roomsToClean_100 rfl ?_
          refine g_if_eq hC 128 dX11_roomsToClean_104 rfl (by first | omega | exact cmpZ_in _ _ | exact bI_in _) (fun c104 => ?_) (fun c104 => ?_)
          · refine gB hC _ _ _ _ _ _ _ qX11_roomsToClean_128 rfl ?_
            refine ih2 (_, i + 1, _, _, _) _ ⟨?_, by show i + 1 ≤ m; omega⟩ (by show m - (i + 1) < m - i; omega)
            show _ = ndK N mm d9 kd + (smF (gcl N (gvT N kd (kF N kd 0) (N 5).toNat).1 mm d9) (V27 (x9 + 1137 + 1)) i + gcl N (gvT N kd (kF N kd 0) (N 5).toNat).1 mm d9 ((V27 (x9 + 1137 + 1)) i))
            rw [hf2]
            unfold gcl
            split <;> omega
          · exact absurd c104 (by decide)
        · have c92 := bI_n0.mp c92
          refine gB hC _ _ _ _ _ _ _ qX11_roomsToClean_95 rfl ?_
          refine gB hC _ _ _ _ _ _ _ qX11_roomsToClean_100 rfl ?_
          refine g_if_eq hC 128 dX11_roomsToClean_104 rfl (by first | omega | exact cmpZ_in _ _ | exact bI_in _) (fun c104 => ?_) (fun c104 => ?_)
          · exact absurd c104 (by decide)
          · refine gB hC _ _ _ _ _ _ _ qX11_roomsToClean_107 rfl ?_
            refine g_cV1i hC dX11_roomsToClean_109 mX11_164 vX8_lastNight (kX8_lastNight (hx2.1.2.1.ss (by omega) (by omega)) (hx2.rh.st (by omega) (by omega)) (hI0.1.2.2.2.1 _ (by omega) (by omega))) rfl (hx2.1.2.1.ss (by omega) (by omega)) (by decide) rfl (Nat.le_of_ble_eq_true rfl) (RR rfl rfl rfl rfl) (fun z i109 => ?_)
            refine gB hC _ _ _ _ _ _ _ qX11_roomsToClean_112 rfl ?_
            refine g_icmp_ne hC 120 dX11_roomsToClean_113 rfl (by first | omega | exact cmpZ_in _ _ | exact bI_in _) (by first | omega | exact cmpZ_in _ _ | exact bI_in _) (fun c113 => ?_) (fun c113 => ?_)
            · refine gB hC _ _ _ _ _ _ _ qX11_roomsToClean_120 rfl ?_
              refine gB hC _ _ _ _ _ _ _ qX11_roomsToClean_121 rfl ?_
              refine g_icmp_ne hC 128 dX11_roomsToClean_122 rfl (by first | omega | exact cmpZ_in _ _ | exact bI_in _) (by first | omega | exact cmpZ_in _ _ | exact bI_in _) (fun c122 => ?_) (fun c122 => ?_)
              · refine gB hC _ _ _ _ _ _ _ qX11_roomsToClean_128 rfl ?_
                refine ih2 (_, i + 1, _, _, _) _ ⟨?_, by show i + 1 ≤ m; omega⟩ (by show m - (i + 1) < m - i; omega)
                show _ = ndK N mm d9 kd + (smF (gcl N (gvT N kd (kF N kd 0) (N 5).toNat).1 mm d9) (V27 (x9 + 1137 + 1)) i + gcl N (gvT N kd (kF N kd 0) (N 5).toNat).1 mm d9 ((V27 (x9 + 1137 + 1)) i))
                rw [hf2]
                unfold gcl
                split <;> omega
              · refine gB hC _ _ _ _ _ _ _ qX11_roomsToClean_125 rfl ?_
                refine gB hC _ _ _ _ _ _ _ qX11_roomsToClean_128 rfl ?_
                refine ih2 (_, i + 1, _, _, _) _ ⟨?_, by show i + 1 ≤ m; omega⟩ (by show m - (i + 1) < m - i; omega)
                show _ = ndK N mm d9 kd + (smF (gcl N (gvT N kd (kF N kd 0) (N 5).toNat).1 mm d9) (V27 (x9 + 1137 + 1)) i + gcl N (gvT N kd (kF N kd 0) (N 5).toNat).1 mm d9 ((V27 (x9 + 1137 + 1)) i))
                rw [hf2]
                unfold gcl
                split <;> omega
            · refine gB hC _ _ _ _ _ _ _ qX11_roomsToClean_116 rfl ?_
              refine gB hC _ _ _ _ _ _ _ qX11_roomsToClean_121 rfl ?_
              refine g_icmp_ne hC 128 dX11_roomsToClean_122 rfl (by first | omega | exact cmpZ_in _ _ | exact bI_in _) (by first | omega | exact cmpZ_in _ _ | exact bI_in _) (fun c122 => ?_) (fun c122 => ?_)
              · refine gB hC _ _ _ _ _ _ _ qX11_roomsToClean_128 rfl ?_
                refine ih2 (_, i + 1, _, _, _) _ ⟨?_, by show i + 1 ≤ m; omega⟩ (by show m - (i + 1) < m - i; omega)
                show _ = ndK N mm d9 kd + (smF (gcl N (gvT N kd (kF N kd 0) (N 5).toNat).1 mm d9) (V27 (x9 + 1137 + 1)) i + gcl N (gvT N kd (kF N kd 0) (N 5).toNat).1 mm d9 ((V27 (x9 + 1137 + 1)) i))
                rw [hf2]
                unfold gcl
                split <;> omega
              · refine gB hC _ _ _ _ _ _ _ qX11_roomsToClean_125 rfl ?_
                refine gB hC _ _ _ _ _ _ _ qX11_roomsToClean_128 rfl ?_
                refine ih2 (_, i + 1, _, _, _) _ ⟨?_, by show i + 1 ≤ m; omega⟩ (by show m - (i + 1) < m - i; omega)
                show _ = ndK N mm d9 kd + (smF (gcl N (gvT N kd (kF N kd 0) (N 5).toNat).1 mm d9) (V27 (x9 + 1137 + 1)) i + gcl N (gvT N kd (kF N kd 0) (N 5).toNat).1 mm d9 ((V27 (x9 + 1137 + 1)) i))
                rw [hf2]
                unfold gcl
                split <;> omega

theorem kX11_minutes {E l Sh V z} {x9 cc9 : Int} {N : gN0} {P9 : Int → gN0} {d9 : Int} (hx : XR x9 N P9 cc9 Sh V) (hI0 : INV N) (h1 : inI d9) : gM E l yX11_minutes (.code yX11_minutes cX11_minutes 3 (some .int)) (rmk 11 60 600 420) [(2, x9), (0, d9)] Sh V z (gRk (fitC (bI (dayZ d9 ≠ -1)) 1 1) gxA "" "" (0, miZ N (dayZ d9)) (fun V' => XR x9 N P9 cc9 Sh V' ∧ OUX x9 Sh V V') (fun V' => XR x9 N P9 cc9 Sh V' ∧ OUX x9 Sh V V') Sh) := by
  refine gM_at (L0 := [(2, x9), (0, d9), (9, 0)]) rfl rfl rfl ?_
  intro p e s m args below meth c hC hr hex hnm hz
  have hI := hI0.1
  have hsc := hI.1
  unfold iScal at hsc
  refine gB hC _ _ _ _ _ _ _ qX11_minutes_0 rfl ?_
  refine g_chkY hC dX11_minutes_1 mX11_55 sX11_checkedDay (kX11_checkedDay (by omega)) rfl rfl (Nat.le_of_ble_eq_true rfl) (RR rfl rfl rfl rfl) (fun z q1 i1 => ?_) (fun z q1 => ?_)
  rotate_left
  · exact g_out hC hex ⟨rfl, Or.inr ⟨⟨hx, OUX.rfl' _ _ _⟩, (by first | exact Or.inl ⟨fl1 (fun h => by omega), rfl⟩ | exact Or.inr (Or.inl ⟨fl2 (by omega) (fun h => by omega), rfl⟩) | exact Or.inr (Or.inr ⟨fl3 (by omega) (by omega) (fun h => by omega), rfl⟩))⟩⟩ gs_rfl ⟨Nat.le_of_ble_eq_true rfl, Nat.le_of_ble_eq_true rfl⟩
  have hdz1 := dayZ_in d9
  refine gB hC _ _ _ _ _ _ _ qX11_minutes_4 rfl ?_
  refine g_cV1e hC dX11_minutes_12 mX11_278 vX11_roomsToClean (kX11_roomsToClean hx hI0 (mm := 45) (by omega) (Or.inl ⟨rfl, rfl⟩)) rfl hx.sX (by decide) rfl (Nat.le_of_ble_eq_true rfl) (RR rfl rfl rfl rfl) (fun z V12 e12 => ?_)
  have hxc1 := e12.1
  have houc1 := e12.2
  have hnd1 := ndK_in hI 45 (dayZ d9 - 1) (N 1).toNat (by omega)
  refine gB hC _ _ _ _ _ _ _ qX11_minutes_15 rfl ?_
  refine g_cV1e hC dX11_minutes_21 mX11_278 vX11_roomsToClean (kX11_roomsToClean hxc1 hI0 (mm := 20) (by omega) (Or.inr ⟨rfl, rfl⟩)) rfl hxc1.sX (by decide) rfl (Nat.le_of_ble_eq_true rfl) (RR rfl rfl rfl rfl) (fun z V21 e21 => ?_)
  have hxc2 := e21.1
  have houc2 := houc1.tr e21.2
  have hnd2 := ndK_in hI 20 (dayZ d9 - 1) (N 1).toNat (by omega)
  refine gB hC _ _ _ _ _ _ _ qX11_minutes_24 rfl ?_
  refine g_ireturn hC dX11_minutes_26 hr ⟨rfl, Or.inl ⟨fk1 (by omega), ?_, ?_, ?_⟩⟩ gs_rfl ⟨Nat.le_of_ble_eq_true rfl, Nat.le_of_ble_eq_true rfl⟩
  · rfl
  · exact hxc2
  · exact houc2

theorem kX11_rounds {E l Sh V z} {x9 cc9 : Int} {N : gN0} {P9 : Int → gN0} {d9 : Int} (hx : XR x9 N P9 cc9 Sh V) (hI0 : INV N) (h1 : inI d9) : gM E l yX11_rounds (.code yX11_rounds cX11_rounds 3 (some .int)) (rmk 11 60 600 420) [(2, x9), (0, d9)] Sh V z (gRk (fitC (bI (dayZ d9 ≠ -1)) 1 1) gxA "" "" (0, roZ N (dayZ d9)) (fun V' => XR x9 N P9 cc9 Sh V' ∧ OUX x9 Sh V V') (fun V' => XR x9 N P9 cc9 Sh V' ∧ OUX x9 Sh V V') Sh) := by
  refine gM_at (L0 := [(2, x9), (0, d9), (9, 0)]) rfl rfl rfl ?_
  intro p e s m args below meth c hC hr hex hnm hz
  have hI := hI0.1
  have hsc := hI.1
  unfold iScal at hsc
  refine gB hC _ _ _ _ _ _ _ qX11_rounds_0 rfl ?_
  refine g_chkY hC dX11_rounds_1 mX11_55 sX11_checkedDay (kX11_checkedDay (by omega)) rfl rfl (Nat.le_of_ble_eq_true rfl) (RR rfl rfl rfl rfl) (fun z q1 i1 => ?_) (fun z q1 => ?_)
  rotate_left
  · exact g_out hC hex ⟨rfl, Or.inr ⟨⟨hx, OUX.rfl' _ _ _⟩, (by first | exact Or.inl ⟨fl1 (fun h => by omega), rfl⟩ | exact Or.inr (Or.inl ⟨fl2 (by omega) (fun h => by omega), rfl⟩) | exact Or.inr (Or.inr ⟨fl3 (by omega) (by omega) (fun h => by omega), rfl⟩))⟩⟩ gs_rfl ⟨Nat.le_of_ble_eq_true rfl, Nat.le_of_ble_eq_true rfl⟩
  have hdz1 := dayZ_in d9
  refine gB hC _ _ _ _ _ _ _ qX11_rounds_4 rfl ?_
  refine g_cV1e hC dX11_rounds_10 mX11_278 vX11_roomsToClean (kX11_roomsToClean hx hI0 (mm := 45) (by omega) (Or.inl ⟨rfl, rfl⟩)) rfl hx.sX (by decide) rfl (Nat.le_of_ble_eq_true rfl) (RR rfl rfl rfl rfl) (fun z V10 e10 => ?_)
  have hxc1 := e10.1
  have houc1 := e10.2
  have hnd1 := ndK_in hI 45 (dayZ d9 - 1) (N 1).toNat (by omega)
  refine gB hC _ _ _ _ _ _ _ qX11_rounds_13 rfl ?_
  refine g_cV1e hC dX11_rounds_16 mX11_278 vX11_roomsToClean (kX11_roomsToClean hxc1 hI0 (mm := 20) (by omega) (Or.inr ⟨rfl, rfl⟩)) rfl hxc1.sX (by decide) rfl (Nat.le_of_ble_eq_true rfl) (RR rfl rfl rfl rfl) (fun z V16 e16 => ?_)
  have hxc2 := e16.1
  have houc2 := houc1.tr e16.2
  have hnd2 := ndK_in hI 20 (dayZ d9 - 1) (N 1).toNat (by omega)
  refine g_cS1i hC dX11_rounds_19 mX11_282 sX11_fewestRounds (kX11_fewestRounds (by omega) (by omega) (by omega) (by omega)) rfl rfl (Nat.le_of_ble_eq_true rfl) (RR rfl rfl rfl rfl) (fun z i19 => ?_)
  refine g_ireturn hC dX11_rounds_22 hr ⟨rfl, Or.inl ⟨fk1 (by omega), ?_, ?_, ?_⟩⟩ gs_rfl ⟨Nat.le_of_ble_eq_true rfl, Nat.le_of_ble_eq_true rfl⟩
  · unfold roZ; rw [roF_eq (by omega) (by omega)]
  · exact hxc2
  · exact houc2
