/-! the class: sales told, risks (rows laid by wip/whole/n85.py) -/
theorem kX11_saleAt {E l Sh V z} {x9 cc9 : Int} {N : gN0} {P9 : Int → gN0} {w9 : Int} (hx : XR x9 N P9 cc9 Sh V) (hI0 : INV N) (h1 : inI w9) : gM E l yX11_saleAt (.code yX11_saleAt cX11_saleAt 2 (some .int)) (rmk 11 60 600 420) [(2, x9), (0, w9)] Sh V z (gRk (fitC (bI (0 ≤ w9 ∧ w9 ≤ 3)) (bI (N 21 = 1)) 1) gxA gxS "" (0, if w9 < 3 then N (22 + w9) else wI (seT N (min (N 25) (N 26)).toNat).1) (fun V' => XR x9 N P9 cc9 Sh V' ∧ OUX x9 Sh V V') (fun V' => XR x9 N P9 cc9 Sh V' ∧ OUX x9 Sh V V') Sh) := by
  refine gM_at (L0 := [(2, x9), (0, w9)]) rfl rfl rfl ?_
  intro p e s m args below meth c hC hr hex hnm hz
  have hI := hI0.1
  have hsc := hI.1
  unfold iScal at hsc
  have hoo := hI0.2.2
  unfold oOk at hoo
  have hse := se_bs (N := N) (by omega) (by omega) (min (N 25) (N 26)).toNat (by omega)
  refine gB hC _ _ _ _ _ _ _ qX11_saleAt_0 rfl ?_
  refine g_chkS hC dX11_saleAt_3 mX11_34 sX11_checkWithin (kX11_checkWithin (by omega) (by omega) (by omega)) rfl rfl (Nat.le_of_ble_eq_true rfl) (RR rfl rfl rfl rfl) (fun z q3 => ?_) (fun z q3 => ?_)
  rotate_left
  · exact g_out hC hex ⟨rfl, Or.inr ⟨⟨hx, OUX.rfl' _ _ _⟩, (by first | exact Or.inl ⟨fl1 (fun h => by omega), rfl⟩ | exact Or.inr (Or.inl ⟨fl2 (by omega) (fun h => by omega), rfl⟩) | exact Or.inr (Or.inr ⟨fl3 (by omega) (by omega) (fun h => by omega), rfl⟩))⟩⟩ gs_rfl ⟨Nat.le_of_ble_eq_true rfl, Nat.le_of_ble_eq_true rfl⟩
  refine gB hC _ _ _ _ _ _ _ qX11_saleAt_6 rfl ?_
  refine g_getr hC dX11_saleAt_7 fX11_10 hx.sX (by decide) rfl 0 rfl hx.p0 ?_
  refine g_getr hC dX11_saleAt_10 fX11_200 hx.1.2.1.sH (by decide) rfl 14 rfl hx.rh.2.1.p14 ?_
  refine g_getzv hC dX11_saleAt_13 fX11_212 hx.1.2.1.sA (by decide) rfl 0 rfl hx.rh.a0 (fun i13 => ?_)
  refine g_chkS hC dX11_saleAt_16 mX11_43 sX11_checkState (kX11_checkState (by first | omega | exact bI_in _)) rfl rfl (Nat.le_of_ble_eq_true rfl) (RR rfl rfl rfl rfl) (fun z q16 => ?_) (fun z q16 => ?_)
  rotate_left
  · exact g_out hC hex ⟨rfl, Or.inr ⟨⟨hx, OUX.rfl' _ _ _⟩, (by first | exact Or.inl ⟨fl1 (fun h => by omega), rfl⟩ | exact Or.inr (Or.inl ⟨fl2 (by omega) (fun h => by omega), rfl⟩) | exact Or.inr (Or.inr ⟨fl3 (by omega) (by omega) (fun h => by omega), rfl⟩))⟩⟩ gs_rfl ⟨Nat.le_of_ble_eq_true rfl, Nat.le_of_ble_eq_true rfl⟩
  refine gB hC _ _ _ _ _ _ _ qX11_saleAt_19 rfl ?_
  refine g_getr hC dX11_saleAt_20 fX11_10 hx.sX (by decide) rfl 0 rfl hx.p0 ?_
  refine g_getr hC dX11_saleAt_23 fX11_200 hx.1.2.1.sH (by decide) rfl 14 rfl hx.rh.2.1.p14 ?_
  refine gB hC _ _ _ _ _ _ _ qX11_saleAt_26 rfl ?_
  refine g_cV1i hC dX11_saleAt_27 mX11_271 vX6_tell (kX6_tell hx.rh hI0.2.2 (by omega) (by omega)) rfl hx.1.2.1.sA (by decide) rfl (Nat.le_of_ble_eq_true rfl) (RR rfl rfl rfl rfl) (fun z i27 => ?_)
  refine g_ireturn hC dX11_saleAt_30 hr ⟨rfl, Or.inl ⟨fk2 (by omega) (by omega), ?_, ?_, ?_⟩⟩ gs_rfl ⟨Nat.le_of_ble_eq_true rfl, Nat.le_of_ble_eq_true rfl⟩
  · rw [hse, show min (N 25) (N 26) = min (N 26) (N 25) by omega]
  · exact hx
  · exact OUX.rfl' _ _ _

theorem kX11_multiply {E l Sh V z} {w9 f9 t9 W : Int} (z1 : Sh w9 = some (101, 2)) (hW : V w9 0 * 1000000000000000 + V w9 1 = W) (hW0 : 0 ≤ W) (hW1 : W ≤ 1000000000) (l0 : 0 ≤ V w9 1) (l1 : V w9 1 < 1000000000000000) (i0 : 0 ≤ V w9 0) (f0 : 0 ≤ f9) (f1 : f9 ≤ 1000) (h0 : 0 ≤ t9) (h1 : t9 ≤ 8) : gM E l yX11_multiply (.code yX11_multiply cX11_multiply 6 none) (rmk 0 0 0 0) [(2, w9), (0, f9), (0, t9)] Sh V z (gRe none (fun V' => (V' w9 0 * 1000000000000000 + V' w9 1 = W * pwZ f9 t9.toNat ∧ 0 ≤ V' w9 1 ∧ V' w9 1 < 1000000000000000 ∧ 0 ≤ V' w9 0) ∧ ∀ b, b ≠ w9 → V' b = V b) Sh) := by
  refine gM_at (L0 := [(2, w9), (0, f9), (0, t9), (9, 0), (9, 0), (9, 0)]) rfl rfl rfl ?_
  intro p e s m args below meth c hC hr hex hnm hz
  refine gB hC _ _ _ _ _ _ _ qX11_multiply_0 rfl ?_
  refine g_loop (fun x : gV × Nat × aV => (x.1 w9 0 * 1000000000000000 + x.1 w9 1 = W * pwZ f9 x.2.1 ∧ 0 ≤ x.1 w9 1 ∧ x.1 w9 1 < 1000000000000000 ∧ 0 ≤ x.1 w9 0) ∧ (∀ b, b ≠ w9 → x.1 b = V b) ∧ (x.2.1 : Int) ≤ t9) (fun x => (t9 - x.2.1).toNat) 2 (fun x => [(2, w9), (0, f9), (0, t9), (0, (x.2.1 : Int)), x.2.2, (9, 0)]) (fun x => x.1) (V, 0, (9, 0)) ⟨⟨by show _ = W * 1; rw [Int.mul_one]; exact hW, l0, l1, i0⟩, fun b _ => rfl, h0⟩ ?_
  rintro ⟨V1, i, a4⟩ z ⟨⟨e1, e2, e3, e4⟩, ho1, hi9⟩ ih
  dsimp only at e1 e2 e3 e4 ho1 hi9 ih ⊢
  refine gB hC _ _ _ _ _ _ _ qX11_multiply_2 rfl ?_
  refine g_icmp_ge hC 52 dX11_multiply_4 rfl (by first | omega | exact cmpZ_in _ _ | exact bI_in _) (by first | omega | exact cmpZ_in _ _ | exact bI_in _) (fun c4 => ?_) (fun c4 => ?_)
  · have e9 : i = t9.toNat := by omega
    refine g_return hC dX11_multiply_52 hr ⟨rfl, rfl, ?_, ho1⟩ gs_rfl ⟨Nat.le_of_ble_eq_true rfl, Nat.le_of_ble_eq_true rfl⟩
    rw [← e9]; exact ⟨e1, e2, e3, e4⟩
  · refine gB hC _ _ _ _ _ _ _ qX11_multiply_7 rfl ?_
    refine g_alen hC (j := 1) dX11_multiply_8 z1 ?_
    refine gB hC _ _ _ _ _ _ _ qX11_multiply_9 rfl ?_
    refine g_icmp_ne hC 52 dX11_multiply_10 rfl (by first | omega | exact cmpZ_in _ _ | exact bI_in _) (by first | omega | exact cmpZ_in _ _ | exact bI_in _) (fun c10 => ?_) (fun c10 => ?_)
    · exfalso; omega --stop
    · have hwd := wd_in hW0 hW1 f0 f1 (t := i + 1) (by omega)
      have hwe : W * pwZ f9 (i + 1) = W * pwZ f9 i * f9 := (Int.mul_assoc _ _ _).symm
      rw [hwe] at hwd
      have hst := wd_st e1 e2 e4 f0 f1 e3 hwd.2
      refine gB hC _ _ _ _ _ _ _ qX11_multiply_13 rfl ?_
      refine g_laload hC dX11_multiply_15 z1 (by omega) (by omega) (by decide) (fun i15 => ?_)
      refine gB hC _ _ _ _ _ _ _ qX11_multiply_16 rfl ?_
      refine g_i2l hC dX11_multiply_17 (by first | omega | exact cmpZ_in _ _ | exact bI_in _) ?_
      refine gB hC _ _ _ _ _ _ _ qX11_multiply_18 rfl ?_
      refine g_ldc2 hC 1000000000000000 kX11_360 rfl dX11_multiply_25 ?_
      refine g_lrem hC dX11_multiply_28 (by first | omega | exact cmpZ_in _ _ | exact bI_in _) (by first | omega | exact cmpZ_in _ _ | exact bI_in _) (by omega) (by omega) ?_
      refine g_lst hC dX11_multiply_29 z1 (by omega) (by omega) (by decide) (by first | omega | exact cmpZ_in _ _ | exact bI_in _) (fun V29 e29 => ?_)
      refine gB hC _ _ _ _ _ _ _ qX11_multiply_30 rfl ?_
      refine g_lald hC dX11_multiply_34 z1 ((congrFun (congrFun e29 _) _).trans (up_ne _ _ (Or.inr (by decide)))) (by omega) (by omega) (by decide) (fun i34 => ?_)
      refine gB hC _ _ _ _ _ _ _ qX11_multiply_35 rfl ?_
      refine g_i2l hC dX11_multiply_36 (by first | omega | exact cmpZ_in _ _ | exact bI_in _) ?_
      refine gB hC _ _ _ _ _ _ _ qX11_multiply_37 rfl ?_
      refine g_ldc2 hC 1000000000000000 kX11_360 rfl dX11_multiply_40 ?_
      refine g_ldiv hC dX11_multiply_43 (by first | omega | exact cmpZ_in _ _ | exact bI_in _) (by first | omega | exact cmpZ_in _ _ | exact bI_in _) (by omega) (by omega) ?_
      refine gB hC _ _ _ _ _ _ _ qX11_multiply_44 rfl ?_
      refine g_lst hC dX11_multiply_45 z1 (by omega) (by omega) (by decide) (by first | omega | exact cmpZ_in _ _ | exact bI_in _) (fun V45 e45 => ?_)
      have v0 : V45 w9 0 = V1 w9 0 * f9 + V1 w9 1 * f9 / 1000000000000000 := by rw [e45, up_eq]
      have v1 : V45 w9 1 = V1 w9 1 * f9 % 1000000000000000 := by rw [e45, up_ne _ _ (Or.inr (by decide)), e29, up_eq]
      refine gB hC _ _ _ _ _ _ _ qX11_multiply_46 rfl ?_
      refine ih (V45, i + 1, _) _ ⟨⟨?_, ?_, ?_, ?_⟩, fun b hb => ?_, by show ((i + 1 : Nat) : Int) ≤ t9; omega⟩ (by show (t9 - ((i + 1 : Nat) : Int)).toNat < (t9 - i).toNat; omega)
      · show V45 w9 0 * 1000000000000000 + V45 w9 1 = W * (pwZ f9 i * f9)
        rw [v0, v1, ← Int.mul_assoc]; exact hst.2.2.1
      · show 0 ≤ V45 w9 1
        rw [v1]; omega
      · show V45 w9 1 < _
        rw [v1]; omega
      · show 0 ≤ V45 w9 0
        rw [v0]; omega
      · show V45 b = V b
        rw [e45, up_row _ _ _ hb, e29, up_row _ _ _ hb]; exact ho1 b hb

theorem kX11_powerN {E l Sh V z} {b0 : Int} (n : Nat) (h1 : n ≤ 100) : gM E l yX11_power (.code yX11_power cX11_power 6 (some .long)) (rmk 0 0 0 0) [(1, b0), (0, (n : Int))] Sh V z (gR (some (1, pwZ b0 n)) Sh V) := kX11_power (n0 := (n : Int)) (by omega) (by omega)
theorem cmpZ_tri (a b : Int) : (cmpZ a b < 0 ∧ a < b) ∨ (cmpZ a b = 0 ∧ a = b) ∨ (0 < cmpZ a b ∧ b < a) := by unfold cmpZ; (repeat' split) <;> omega

theorem kX11_isWithinRisk {E l Sh V z} {r9 m9 : Nat} {p9 q9 : Int} (h0 : 1 ≤ r9) (h1 : r9 ≤ 6) (h2 : 1 ≤ m9) (h3 : m9 ≤ 3) (p0 : 0 ≤ p9) (p1 : p9 ≤ 1000) (q0 : 0 ≤ q9) (q1 : q9 ≤ 1000) : gM E l yX11_isWithinRisk (.code yX11_isWithinRisk cX11_isWithinRisk 11 (some .boolean)) (rmk 2 2 8 60) [(0, (r9 : Int)), (0, (m9 : Int)), (0, p9), (0, q9)] Sh V z (gR (some (0, bI (smT p9 (r9 + m9) r9 m9 ≤ q9 * pw (r9 + m9 - 1)))) Sh V) := by
  refine gM_at (L0 := [(0, (r9 : Int)), (0, (m9 : Int)), (0, p9), (0, q9), (9, 0), (9, 0), (9, 0), (9, 0), (9, 0), (9, 0), (9, 0)]) rfl rfl rfl ?_
  intro p e s m args below meth c hC hr hex hnm hz
  refine g_lts (fun hlt => ?_)
  refine gB hC _ _ _ _ _ _ _ qX11_isWithinRisk_0 rfl ?_
  refine g_loop (fun x : Nat => (x : Int) ≤ m9) (fun x => m9 - x) 14 (fun x => [(0, (r9 : Int)), (0, (m9 : Int)), (0, p9), (0, q9), (0, (r9 : Int) + (m9 : Int)), (1, smC p9 ((r9 : Int) + (m9 : Int)) m9 x), (9, 0), (1, wyT ((r9 : Int) + (m9 : Int)) x), (9, 0), (0, (x : Int)), (9, 0)]) (fun _ => V) 0 (by show (0 : Int) ≤ m9; omega) ?_
  rintro a zz ha ih
  have hsc := smC_in (n := (r9 : Int) + (m9 : Int)) (m := m9) p0 p1 (by omega) (by omega) (by omega) (by omega) a ha
  refine gB hC _ _ _ _ _ _ _ qX11_isWithinRisk_14 rfl ?_
  refine g_icmp_ge hC 74 dX11_isWithinRisk_17 rfl (by first | omega | exact cmpZ_in _ _ | exact bI_in _) (by first | omega | exact cmpZ_in _ _ | exact bI_in _) (fun c17 => ?_) (fun c17 => ?_)
  · obtain rfl : a = m9 := by omega
    refine gB hC _ _ _ _ _ _ _ qX11_isWithinRisk_74 rfl ?_
    refine g_new_longs hC dX11_isWithinRisk_75 gArr_long rfl (by decide) ⟨by decide, by decide⟩ (fun hz75 => ?_)
    refine gB hC _ _ _ _ _ _ _ qX11_isWithinRisk_77 rfl ?_
    refine g_lst hC dX11_isWithinRisk_80 (shp_eq _ _ _) (by decide) (by decide) (by decide) (by first | omega | exact cmpZ_in _ _ | exact bI_in _) (fun V80 e80 => ?_)
    refine gB hC _ _ _ _ _ _ _ qX11_isWithinRisk_81 rfl ?_
    refine g_lst hC dX11_isWithinRisk_85 (shp_eq _ _ _) (by decide) (by decide) (by decide) (by first | omega | exact cmpZ_in _ _ | exact bI_in _) (fun V85 e85 => ?_)
    refine gB hC _ _ _ _ _ _ _ qX11_isWithinRisk_86 rfl ?_
    refine g_cS0e hC dX11_isWithinRisk_94 mX11_356 sX11_multiply (kX11_multiply (W := smC p9 ((r9 : Int) + (a : Int)) a a) (shp_eq _ _ _) (by rw [e85, up_ne _ _ (Or.inr (by decide)), up_eq, e80, up_eq]; omega) (by omega) (by omega) (by rw [e85, up_eq]; omega) (by rw [e85, up_eq]; omega) (by rw [e85, up_ne _ _ (Or.inr (by decide)), e80, up_eq]; decide) p0 p1 (by omega) (by omega)) rfl rfl (Nat.le_of_ble_eq_true rfl) (RR rfl rfl rfl rfl) (fun z V94 e94 => ?_)
    obtain ⟨y9, hy9⟩ : ∃ y9, y9 = z := ⟨z, rfl⟩
    subst hy9
    refine gB hC _ _ _ _ _ _ _ qX11_isWithinRisk_97 rfl ?_
    refine g_new_longs hC dX11_isWithinRisk_98 gArr_long rfl (by decide) ⟨by decide, by decide⟩ (fun hz98 => ?_)
    have hne : zz ≠ y9 := fun q => by rw [← q, shp_eq] at hz98; cases hz98
    refine gB hC _ _ _ _ _ _ _ qX11_isWithinRisk_100 rfl ?_
    refine g_lst hC dX11_isWithinRisk_103 (by first | exact shp_eq _ _ _ | exact (shp_ne _ _ hne).trans (shp_eq _ _ _)) (by decide) (by decide) (by decide) (by first | omega | exact cmpZ_in _ _ | exact bI_in _) (fun V103 e103 => ?_)
    refine gB hC _ _ _ _ _ _ _ qX11_isWithinRisk_104 rfl ?_
    refine g_i2l hC dX11_isWithinRisk_107 (by first | omega | exact cmpZ_in _ _ | exact bI_in _) ?_
    refine g_lst hC dX11_isWithinRisk_108 (by first | exact shp_eq _ _ _ | exact (shp_ne _ _ hne).trans (shp_eq _ _ _)) (by decide) (by decide) (by decide) (by first | omega | exact cmpZ_in _ _ | exact bI_in _) (fun V108 e108 => ?_)
    refine gB hC _ _ _ _ _ _ _ qX11_isWithinRisk_109 rfl ?_
    refine g_cS0e hC dX11_isWithinRisk_120 mX11_356 sX11_multiply (kX11_multiply (W := q9) (shp_eq _ _ _) (by rw [e108, up_ne _ _ (Or.inr (by decide)), up_eq, e103, up_eq]; omega) (by omega) (by omega) (by rw [e108, up_eq]; omega) (by rw [e108, up_eq]; omega) (by rw [e108, up_ne _ _ (Or.inr (by decide)), e103, up_eq]; decide) (by omega) (by omega) (by omega) (by omega)) rfl rfl (Nat.le_of_ble_eq_true rfl) (RR rfl rfl rfl rfl) (fun z V120 e120 => ?_)
    have tl : V120 zz = V94 zz := by
      rw [e120.2 zz hne, e108, up_row _ _ _ hne, e103, up_row _ _ _ hne]; exact vn_ne _ _ hne
    have t0 : V120 zz 0 = V94 zz 0 := by rw [tl]
    have t1 : V120 zz 1 = V94 zz 1 := by rw [tl]
    have eT : V94 zz 0 * 1000000000000000 + V94 zz 1 = smT p9 (r9 + a) r9 a := by
      rw [e94.1.1, show ((r9 : Int) + 1).toNat = r9 + 1 by omega]; exact (sm_eq h0 h1 h2 h3).symm
    have eU : V120 y9 0 * 1000000000000000 + V120 y9 1 = q9 * pw (r9 + a - 1) := by
      rw [e120.1.1, show ((r9 : Int) + (a : Int) - 1).toNat = r9 + a - 1 by omega, pwZ_pw]
    have hlT := e94.1.2
    have hlU := e120.1.2
    have hc1 := cmpZ_tri (V94 zz 0) (V120 y9 0)
    have hc2 := cmpZ_tri (V94 zz 1) (V120 y9 1)
    
    refine gB hC _ _ _ _ _ _ _ qX11_isWithinRisk_123 rfl ?_
    refine g_lald hC dX11_isWithinRisk_126 (by first | exact shp_eq _ _ _ | exact (shp_ne _ _ hne).trans (shp_eq _ _ _)) t0 (by decide) (by decide) (by decide) (fun i126 => ?_)
    refine gB hC _ _ _ _ _ _ _ qX11_isWithinRisk_127 rfl ?_
    refine g_laload hC dX11_isWithinRisk_130 (by first | exact shp_eq _ _ _ | exact (shp_ne _ _ hne).trans (shp_eq _ _ _)) (by decide) (by decide) (by decide) (fun i130 => ?_)
    refine g_lcmp hC dX11_isWithinRisk_131 (by first | omega | exact cmpZ_in _ _ | exact bI_in _) (by first | omega | exact cmpZ_in _ _ | exact bI_in _) ?_
    refine g_if_lt hC 159 dX11_isWithinRisk_132 rfl (by first | omega | exact cmpZ_in _ _ | exact bI_in _) (fun c132 => ?_) (fun c132 => ?_)
    · have e1 : 1 = bI (smT p9 (r9 + a) r9 a ≤ q9 * pw (r9 + a - 1)) := (bI_t (by omega)).symm
      refine gB hC _ _ _ _ _ _ _ qX11_isWithinRisk_159 rfl ?_
      refine g_zreturn hC dX11_isWithinRisk_164 hr ?_ ⟨by rw [e1], rfl, rfl⟩ (fun b sh hb => ?_) ⟨Nat.le_of_ble_eq_true rfl, Nat.le_of_ble_eq_true rfl⟩
      · first | exact Or.inl rfl | exact Or.inr rfl
      have q1 : b ≠ zz := fun q => by rw [q, hz75] at hb; cases hb
      have q2 : b ≠ y9 := fun q => by rw [q] at hb; rw [shp_ne _ _ (Ne.symm hne), hb] at hz98; cases hz98
      refine ⟨by rw [shp_ne _ _ q2, shp_ne _ _ q1]; exact hb, fun j => ?_⟩
      rw [e120.2 b q2, e108, up_row _ _ _ q2, e103, up_row _ _ _ q2, vn_ne _ _ q2, e94.2 b q1, e85, up_row _ _ _ q1, e80, up_row _ _ _ q1, vn_ne _ _ q1]
    · refine gB hC _ _ _ _ _ _ _ qX11_isWithinRisk_135 rfl ?_
      refine g_lald hC dX11_isWithinRisk_138 (by first | exact shp_eq _ _ _ | exact (shp_ne _ _ hne).trans (shp_eq _ _ _)) t0 (by decide) (by decide) (by decide) (fun i138 => ?_)
      refine gB hC _ _ _ _ _ _ _ qX11_isWithinRisk_139 rfl ?_
      refine g_laload hC dX11_isWithinRisk_142 (by first | exact shp_eq _ _ _ | exact (shp_ne _ _ hne).trans (shp_eq _ _ _)) (by decide) (by decide) (by decide) (fun i142 => ?_)
      refine g_lcmp hC dX11_isWithinRisk_143 (by first | omega | exact cmpZ_in _ _ | exact bI_in _) (by first | omega | exact cmpZ_in _ _ | exact bI_in _) ?_
      refine g_if_ne hC 163 dX11_isWithinRisk_144 rfl (by first | omega | exact cmpZ_in _ _ | exact bI_in _) (fun c144 => ?_) (fun c144 => ?_)
      · have e1 : 0 = bI (smT p9 (r9 + a) r9 a ≤ q9 * pw (r9 + a - 1)) := (bI_f (by omega)).symm
        refine gB hC _ _ _ _ _ _ _ qX11_isWithinRisk_163 rfl ?_
        refine g_zreturn hC dX11_isWithinRisk_164 hr ?_ ⟨by rw [e1], rfl, rfl⟩ (fun b sh hb => ?_) ⟨Nat.le_of_ble_eq_true rfl, Nat.le_of_ble_eq_true rfl⟩
        · first | exact Or.inl rfl | exact Or.inr rfl
        have q1 : b ≠ zz := fun q => by rw [q, hz75] at hb; cases hb
        have q2 : b ≠ y9 := fun q => by rw [q] at hb; rw [shp_ne _ _ (Ne.symm hne), hb] at hz98; cases hz98
        refine ⟨by rw [shp_ne _ _ q2, shp_ne _ _ q1]; exact hb, fun j => ?_⟩
        rw [e120.2 b q2, e108, up_row _ _ _ q2, e103, up_row _ _ _ q2, vn_ne _ _ q2, e94.2 b q1, e85, up_row _ _ _ q1, e80, up_row _ _ _ q1, vn_ne _ _ q1]
      · refine gB hC _ _ _ _ _ _ _ qX11_isWithinRisk_147 rfl ?_
        refine g_lald hC dX11_isWithinRisk_150 (by first | exact shp_eq _ _ _ | exact (shp_ne _ _ hne).trans (shp_eq _ _ _)) t1 (by decide) (by decide) (by decide) (fun i150 => ?_)
        refine gB hC _ _ _ _ _ _ _ qX11_isWithinRisk_151 rfl ?_
        refine g_laload hC dX11_isWithinRisk_154 (by first | exact shp_eq _ _ _ | exact (shp_ne _ _ hne).trans (shp_eq _ _ _)) (by decide) (by decide) (by decide) (fun i154 => ?_)
        refine g_lcmp hC dX11_isWithinRisk_155 (by first | omega | exact cmpZ_in _ _ | exact bI_in _) (by first | omega | exact cmpZ_in _ _ | exact bI_in _) ?_
        refine g_if_gt hC 163 dX11_isWithinRisk_156 rfl (by first | omega | exact cmpZ_in _ _ | exact bI_in _) (fun c156 => ?_) (fun c156 => ?_)
        · have e1 : 0 = bI (smT p9 (r9 + a) r9 a ≤ q9 * pw (r9 + a - 1)) := (bI_f (by omega)).symm
          refine gB hC _ _ _ _ _ _ _ qX11_isWithinRisk_163 rfl ?_
          refine g_zreturn hC dX11_isWithinRisk_164 hr ?_ ⟨by rw [e1], rfl, rfl⟩ (fun b sh hb => ?_) ⟨Nat.le_of_ble_eq_true rfl, Nat.le_of_ble_eq_true rfl⟩
          · first | exact Or.inl rfl | exact Or.inr rfl
          have q1 : b ≠ zz := fun q => by rw [q, hz75] at hb; cases hb
          have q2 : b ≠ y9 := fun q => by rw [q] at hb; rw [shp_ne _ _ (Ne.symm hne), hb] at hz98; cases hz98
          refine ⟨by rw [shp_ne _ _ q2, shp_ne _ _ q1]; exact hb, fun j => ?_⟩
          rw [e120.2 b q2, e108, up_row _ _ _ q2, e103, up_row _ _ _ q2, vn_ne _ _ q2, e94.2 b q1, e85, up_row _ _ _ q1, e80, up_row _ _ _ q1, vn_ne _ _ q1]
        · have e1 : 1 = bI (smT p9 (r9 + a) r9 a ≤ q9 * pw (r9 + a - 1)) := (bI_t (by omega)).symm
          refine gB hC _ _ _ _ _ _ _ qX11_isWithinRisk_159 rfl ?_
          refine g_zreturn hC dX11_isWithinRisk_164 hr ?_ ⟨by rw [e1], rfl, rfl⟩ (fun b sh hb => ?_) ⟨Nat.le_of_ble_eq_true rfl, Nat.le_of_ble_eq_true rfl⟩
          · first | exact Or.inl rfl | exact Or.inr rfl
          have q1 : b ≠ zz := fun q => by rw [q, hz75] at hb; cases hb
          have q2 : b ≠ y9 := fun q => by rw [q] at hb; rw [shp_ne _ _ (Ne.symm hne), hb] at hz98; cases hz98
          refine ⟨by rw [shp_ne _ _ q2, shp_ne _ _ q1]; exact hb, fun j => ?_⟩
          rw [e120.2 b q2, e108, up_row _ _ _ q2, e103, up_row _ _ _ q2, vn_ne _ _ q2, e94.2 b q1, e85, up_row _ _ _ q1, e80, up_row _ _ _ q1, vn_ne _ _ q1]
  · have hst := smS_in (n := (r9 : Int) + (m9 : Int)) (m := m9) p0 p1 (by omega) (by omega) (by omega) (by omega) (a := a) (by omega)
    have hwy := wy_in (n := (r9 : Int) + (m9 : Int)) (by omega) (by omega) (a := a) (by omega)
    refine gB hC _ _ _ _ _ _ _ qX11_isWithinRisk_20 rfl ?_
    refine g_i2l hC dX11_isWithinRisk_25 (by first | omega | exact cmpZ_in _ _ | exact bI_in _) ?_
    refine gB hC _ _ _ _ _ _ _ qX11_isWithinRisk_26 rfl ?_
    refine g_cS1 hC dX11_isWithinRisk_32 mX11_352 sX11_power (kX11_power (by omega) (by omega)) rfl rfl (Nat.le_of_ble_eq_true rfl) (RR rfl rfl rfl rfl) (fun z => ?_)
    refine gB hC _ _ _ _ _ _ _ qX11_isWithinRisk_35 rfl ?_
    refine g_i2l hC dX11_isWithinRisk_41 (by first | omega | exact cmpZ_in _ _ | exact bI_in _) ?_
    refine gB hC _ _ _ _ _ _ _ qX11_isWithinRisk_42 rfl ?_
    refine g_cS1 hC dX11_isWithinRisk_44 mX11_352 sX11_power (kX11_powerN a (by omega)) rfl rfl (Nat.le_of_ble_eq_true rfl) (RR rfl rfl rfl rfl) (fun z => ?_)
    refine gB hC _ _ _ _ _ _ _ qX11_isWithinRisk_47 rfl ?_
    refine g_i2l hC dX11_isWithinRisk_58 (by first | omega | exact cmpZ_in _ _ | exact bI_in _) ?_
    refine gB hC _ _ _ _ _ _ _ qX11_isWithinRisk_59 rfl ?_
    refine g_i2l hC dX11_isWithinRisk_64 (by first | omega | exact cmpZ_in _ _ | exact bI_in _) ?_
    refine g_ldiv hC dX11_isWithinRisk_65 (by first | omega | exact cmpZ_in _ _ | exact bI_in _) (by first | omega | exact cmpZ_in _ _ | exact bI_in _) (by omega) (by omega) ?_
    refine gB hC _ _ _ _ _ _ _ qX11_isWithinRisk_66 rfl ?_
    exact ih (a + 1) _ (by show ((a + 1 : Nat) : Int) ≤ m9; omega) (by show m9 - (a + 1) < m9 - a; omega)

theorem rmF : (rmk 2 2 8 60).cells = 2 ∧ (rmk 2 2 8 60).slots = 8 ∧ (rmk 11 60 600 420).cells = 60 ∧ (rmk 11 60 600 420).slots = 600 := ⟨rfl, rfl, rfl, rfl⟩
section GLB
variable {E : gE} {own : String} {nL : Nat} {p : Program} {l : Launch} {e : Env} {R : Room} {s : State} {m : MethodId} {args : Array Value} {below : List Frame} {meth : Method} {c : Code} {Q : State → Prop} {Sh : gSh} {z : Int}
/-- a loop whose steps take room -/
theorem g_loopB {α : Type} (I : α → Prop) (μ : α → Nat) (hp : Nat) (Lf : α → List aV) (Vf : α → gV) (Kf Nf : α → Nat) (x0 : α) (h0 : I x0)
    (body : ∀ x z', I x → (∀ y z'', I y → μ y < μ x → gG E nL p l e R s m args below meth c Q hp (Lf y) [] Sh (Vf y) z'' (Kf y) (Nf y)) → gG E nL p l e R s m args below meth c Q hp (Lf x) [] Sh (Vf x) z' (Kf x) (Nf x)) : gG E nL p l e R s m args below meth c Q hp (Lf x0) [] Sh (Vf x0) z (Kf x0) (Nf x0) := by
  have key : ∀ (N : Nat) (x : α) (z' : Int), I x → μ x = N → gG E nL p l e R s m args below meth c Q hp (Lf x) [] Sh (Vf x) z' (Kf x) (Nf x) := by
    intro N
    induction N using Nat.strongRecOn with
    | _ N ih => exact fun x z' hx hN => body x z' hx (fun y z'' hy hlt => ih (μ y) (by omega) y z'' hy rfl)
  exact key _ x0 z h0 rfl
end GLB
theorem kX11_moreToSell {E l Sh V z} {x9 cc9 : Int} {N : gN0} {P9 : Int → gN0} {k9 o9 q9 : Int} (hx : XR x9 N P9 cc9 Sh V) (hI0 : INV N) (h1 : inI k9) (h2 : inI o9) (h3 : inI q9) : gM E l yX11_moreToSell (.code yX11_moreToSell cX11_moreToSell 6 (some .int)) (rmk 11 60 600 420) [(2, x9), (0, k9), (0, o9), (0, q9)] Sh V z (gRk (fitC (bI (0 ≤ k9 ∧ k9 ≤ N 1 - 1)) (bI ((0 ≤ o9 ∧ o9 ≤ 1000) ∧ 0 ≤ q9 ∧ q9 ≤ 1000)) 1) gxI gxA "" (0, moT o9 q9 (kF N k9 0) 3) (fun V' => XR x9 N P9 cc9 Sh V' ∧ OUX x9 Sh V V') (fun V' => XR x9 N P9 cc9 Sh V' ∧ OUX x9 Sh V V') Sh) := by
  refine gM_at (L0 := [(2, x9), (0, k9), (0, o9), (0, q9), (9, 0), (9, 0)]) rfl rfl rfl ?_
  intro p e s m args below meth c hC hr hex hnm hz
  have hI := hI0.1
  have hsc := hI.1
  unfold iScal at hsc
  refine gB hC _ _ _ _ _ _ _ qX11_moreToSell_0 rfl ?_
  refine g_getr hC dX11_moreToSell_2 fX11_10 hx.sX (by decide) rfl 0 rfl hx.p0 ?_
  refine g_getiv hC dX11_moreToSell_5 fX11_39 hx.1.2.1.sH (by decide) rfl 2 rfl hx.rh.t2 (fun i5 => ?_)
  refine g_chkS hC dX11_moreToSell_8 mX11_51 sX11_checkIndex (kX11_checkIndex (by omega) (by omega)) rfl rfl (Nat.le_of_ble_eq_true rfl) (RR rfl rfl rfl rfl) (fun z q8 => ?_) (fun z q8 => ?_)
  rotate_left
  · exact g_out hC hex ⟨rfl, Or.inr ⟨⟨hx, OUX.rfl' _ _ _⟩, (by first | exact Or.inl ⟨fl1 (fun h => by omega), rfl⟩ | exact Or.inr (Or.inl ⟨fl2 (by omega) (fun h => by omega), rfl⟩) | exact Or.inr (Or.inr ⟨fl3 (by omega) (by omega) (fun h => by omega), rfl⟩))⟩⟩ gs_rfl ⟨Nat.le_of_ble_eq_true rfl, Nat.le_of_ble_eq_true rfl⟩
  refine gB hC _ _ _ _ _ _ _ qX11_moreToSell_11 rfl ?_
  refine g_chkS hC dX11_moreToSell_16 mX11_34 sX11_checkWithin (kX11_checkWithin (by omega) (by omega) (by omega)) rfl rfl (Nat.le_of_ble_eq_true rfl) (RR rfl rfl rfl rfl) (fun z q16 => ?_) (fun z q16 => ?_)
  rotate_left
  · exact g_out hC hex ⟨rfl, Or.inr ⟨⟨hx, OUX.rfl' _ _ _⟩, (by first | exact Or.inl ⟨fl1 (fun h => by omega), rfl⟩ | exact Or.inr (Or.inl ⟨fl2 (by omega) (fun h => by omega), rfl⟩) | exact Or.inr (Or.inr ⟨fl3 (by omega) (by omega) (fun h => by omega), rfl⟩))⟩⟩ gs_rfl ⟨Nat.le_of_ble_eq_true rfl, Nat.le_of_ble_eq_true rfl⟩
  refine gB hC _ _ _ _ _ _ _ qX11_moreToSell_19 rfl ?_
  refine g_chkS hC dX11_moreToSell_24 mX11_34 sX11_checkWithin (kX11_checkWithin (by omega) (by omega) (by omega)) rfl rfl (Nat.le_of_ble_eq_true rfl) (RR rfl rfl rfl rfl) (fun z q24 => ?_) (fun z q24 => ?_)
  rotate_left
  · exact g_out hC hex ⟨rfl, Or.inr ⟨⟨hx, OUX.rfl' _ _ _⟩, (by first | exact Or.inl ⟨fl1 (fun h => by omega), rfl⟩ | exact Or.inr (Or.inl ⟨fl2 (by omega) (fun h => by omega), rfl⟩) | exact Or.inr (Or.inr ⟨fl3 (by omega) (by omega) (fun h => by omega), rfl⟩))⟩⟩ gs_rfl ⟨Nat.le_of_ble_eq_true rfl, Nat.le_of_ble_eq_true rfl⟩
  have hrm := rmF
  have hk := hI.2.1 k9 (by omega) (by omega)
  unfold kOk at hk
  obtain ⟨r9, hr9⟩ : ∃ r9 : Nat, kF N k9 0 = r9 := ⟨(kF N k9 0).toNat, by omega⟩
  refine gB hC _ _ _ _ _ _ _ qX11_moreToSell_27 rfl ?_
  refine g_getr hC dX11_moreToSell_28 fX11_10 hx.sX (by decide) rfl 0 rfl hx.p0 ?_
  refine g_getr hC dX11_moreToSell_31 fX11_59 hx.1.2.1.sH (by decide) rfl 8 rfl hx.rh.2.1.p8 ?_
  refine gB hC _ _ _ _ _ _ _ qX11_moreToSell_34 rfl ?_
  refine g_aald hC (j := 4) dX11_moreToSell_35 hx.1.2.1.sK (by decide) (hx.rh.2.1.pk (by omega) (by omega)) (by omega) (by omega) (by decide) ?_
  refine g_getiv hC dX11_moreToSell_36 fX11_272 (hx.1.2.1.sk (by omega) (by omega)) (by decide) rfl 0 rfl (hx.rh.k0 (by omega) (by omega)) (fun i36 => ?_)
  rw [hr9]
  refine gB hC _ _ _ _ _ _ _ qX11_moreToSell_39 rfl ?_
  refine g_loopB (fun x : Nat => moT o9 q9 r9 3 = moT o9 q9 r9 x ∧ x ≤ 3) (fun x => x) 44 (fun x => [(2, x9), (0, k9), (0, o9), (0, q9), (0, (r9 : Int)), (0, (x : Int))]) (fun _ => V) (fun x => 3 + 2 * (3 - x)) (fun x => 18 + 8 * (3 - x)) 3 ⟨rfl, Nat.le_refl _⟩ ?_
  rintro i z ⟨hmo, hi9⟩ ih
  refine gB hC _ _ _ _ _ _ _ qX11_moreToSell_44 rfl ?_
  refine g_if_le hC 67 dX11_moreToSell_46 rfl (by first | omega | exact cmpZ_in _ _ | exact bI_in _) (fun c46 => ?_) (fun c46 => ?_)
  · obtain rfl : i = 0 := by omega
    have hans : moT o9 q9 r9 3 = ((0 : Nat) : Int) := hmo
    refine gB hC _ _ _ _ _ _ _ qX11_moreToSell_67 rfl ?_
    refine g_ireturn hC dX11_moreToSell_69 hr ⟨rfl, Or.inl ⟨fk2 (by omega) (by omega), by rw [hans], hx, OUX.rfl' _ _ _⟩⟩ gs_rfl ⟨by have h1 := hrm; omega, by have h1 := hrm; omega⟩
  · obtain ⟨j, rfl⟩ : ∃ j, i = j + 1 := ⟨i - 1, by omega⟩
    have hm2 : moT o9 q9 r9 (j + 1) = if smT o9 (r9 + (j + 1)) r9 (j + 1) ≤ q9 * pw (r9 + (j + 1) - 1) then (j : Int) + 1 else moT o9 q9 r9 j := by
      rw [moT, show ((r9 : Int) + ((j : Int) + 1)).toNat = r9 + (j + 1) by omega, show ((r9 : Int) + ((j : Int) + 1) - r9).toNat = j + 1 by omega, show ((r9 : Int) + ((j : Int) + 1) - 1).toNat = r9 + (j + 1) - 1 by omega]
    rw [hm2] at hmo
    refine gB hC _ _ _ _ _ _ _ qX11_moreToSell_49 rfl ?_
    refine g_cS1 hC dX11_moreToSell_55 mX11_274 sX11_isWithinRisk (kX11_isWithinRisk (r9 := r9) (m9 := j + 1) (by omega) (by omega) (by omega) (by omega) (by omega) (by omega) (by omega) (by omega)) rfl rfl (Nat.le_of_ble_eq_true rfl) ⟨⟨Nat.le_of_ble_eq_true rfl, Nat.le_of_ble_eq_true rfl⟩, ⟨by omega, by omega⟩⟩ (fun z => ?_)
    refine g_if_ne hC 67 dX11_moreToSell_58 rfl (by first | omega | exact cmpZ_in _ _ | exact bI_in _) (fun c58 => ?_) (fun c58 => ?_)
    · rw [if_pos (bI_n0.mp c58)] at hmo
      have hans : moT o9 q9 r9 3 = ((j + 1 : Nat) : Int) := hmo
      have c58 := bI_n0.mp c58
      refine gB hC _ _ _ _ _ _ _ qX11_moreToSell_67 rfl ?_
      refine g_ireturn hC dX11_moreToSell_69 hr ⟨rfl, Or.inl ⟨fk2 (by omega) (by omega), by rw [hans], hx, OUX.rfl' _ _ _⟩⟩ gs_rfl ⟨by have h1 := hrm; omega, by have h1 := hrm; omega⟩
    · have c58 := bI_0.mp c58
      refine gB hC _ _ _ _ _ _ _ qX11_moreToSell_61 rfl ?_
      rw [if_neg c58] at hmo
      rw [show ((j + 1 : Nat) : Int) + -1 = (j : Int) by omega]
      rw [show 3 + 2 * (3 - (j + 1)) + (rmk 2 2 8 60).cells = 3 + 2 * (3 - j) by rw [hrm.1]; omega, show 18 + 8 * (3 - (j + 1)) + (rmk 2 2 8 60).slots = 18 + 8 * (3 - j) by rw [hrm.2.1]; omega]
      exact ih j _ ⟨hmo, by omega⟩ (Nat.lt_succ_self _)

