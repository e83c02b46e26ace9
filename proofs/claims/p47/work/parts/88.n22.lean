/-! the class: the second way (rows laid by wip/whole/n88.py) -/
def bkT (N : gN0) : Nat → Int
  | 0 => 0
  | n + 1 => bkT N n + N (9 + n)
theorem bk9_in {N : gN0} (hI : INV N) {i : Int} (h0 : 0 ≤ i) (h1 : i < 4) : -732000000 ≤ N (9 + i) ∧ N (9 + i) ≤ 732000000 := by
  have hp := Phi_in hI.1
  have hb := hI.2.1
  unfold bOk at hb
  have e : i = 0 ∨ i = 1 ∨ i = 2 ∨ i = 3 := by omega
  rcases e with rfl | rfl | rfl | rfl
  · rw [show (9 : Int) + 0 = 9 from rfl]; omega
  · rw [show (9 : Int) + 1 = 10 from rfl]; omega
  · rw [show (9 : Int) + 2 = 11 from rfl]; omega
  · rw [show (9 : Int) + 3 = 12 from rfl]; omega
theorem bkT_in {N : gN0} (hI : INV N) : ∀ n : Nat, n ≤ 4 → -732000000 * (n : Int) ≤ bkT N n ∧ bkT N n ≤ 732000000 * n := by
  have hp := Phi_in hI.1
  have hb := hI.2.1
  unfold bOk at hb
  intro n
  induction n with
  | zero => intro _; exact ⟨Int.le_refl _, Int.le_refl _⟩
  | succ n ih =>
    intro hn
    have ih := ih (by omega)
    have h := bk9_in hI (i := (n : Int)) (by omega) (by omega)
    unfold bkT
    omega

theorem kX11_errors {E l Sh V z} {x9 cc9 : Int} {N : gN0} {P9 : Int → gN0} (hx : XR x9 N P9 cc9 Sh V) (hI0 : INV N) : gM E l yX11_errors (.code yX11_errors cX11_errors 5 (some .int)) (rmk 11 60 600 420) [(2, x9)] Sh V z (gRe (some (0, erK N (N 1).toNat)) (fun V' => XR x9 N P9 cc9 Sh V' ∧ OUX x9 Sh V V') Sh) := by
  refine gM_at (L0 := [(2, x9), (9, 0), (9, 0), (9, 0), (9, 0)]) rfl rfl rfl ?_
  intro p e s m args below meth c hC hr hex hnm hz
  have hI := hI0.1
  have hsc := hI.1
  unfold iScal at hsc
  refine gB hC _ _ _ _ _ _ _ qX11_errors_0 rfl ?_
  refine g_loop (fun x : gV × Int × Nat × aV × aV => XR x9 N P9 cc9 Sh x.1 ∧ OUX x9 Sh V x.1 ∧ x.2.1 = erK N x.2.2.1 ∧ (x.2.2.1 : Int) ≤ N 1) (fun x => (N 1 - x.2.2.1).toNat) 4 (fun x => [(2, x9), (0, x.2.1), (0, (x.2.2.1 : Int)), x.2.2.2.1, x.2.2.2.2]) (fun x => x.1) (V, 0, 0, (9, 0), (9, 0)) ⟨hx, OUX.rfl' _ _ _, rfl, by show (0 : Int) ≤ N 1; omega⟩ ?_
  rintro ⟨V1, wr, kd, a3, a4⟩ z ⟨hx1, ho1, hwr, hkd⟩ ih
  dsimp only at hx1 ho1 hwr hkd ih ⊢
  have her := erK_in N kd
  refine gB hC _ _ _ _ _ _ _ qX11_errors_4 rfl ?_
  refine g_getr hC dX11_errors_6 fX11_10 hx1.sX (by decide) rfl 0 rfl hx1.p0 ?_
  refine g_getiv hC dX11_errors_9 fX11_39 hx1.1.2.1.sH (by decide) rfl 2 rfl hx1.rh.t2 (fun i9 => ?_)
  refine g_icmp_ge hC 79 dX11_errors_12 rfl (by first | omega | exact cmpZ_in _ _ | exact bI_in _) (by first | omega | exact cmpZ_in _ _ | exact bI_in _) (fun c12 => ?_) (fun c12 => ?_)
  · obtain rfl : kd = (N 1).toNat := by omega
    refine gB hC _ _ _ _ _ _ _ qX11_errors_79 rfl ?_
    refine g_loop (fun x : Int × Nat => x.1 = bkT N x.2 ∧ x.2 ≤ 4) (fun x => 4 - x.2) 84 (fun x => [(2, x9), (0, wr), (1, x.1), (9, 0), (0, (x.2 : Int))]) (fun _ => V1) (0, 0) ⟨rfl, by show (0 : Nat) ≤ 4; decide⟩ ?_
    rintro ⟨sm, i⟩ z ⟨hsm, hi9⟩ ih2
    dsimp only at hsm hi9 ih2 ⊢
    have hbk := bkT_in hI0 i hi9
    refine gB hC _ _ _ _ _ _ _ qX11_errors_84 rfl ?_
    refine g_icmp_ge hC 109 dX11_errors_87 rfl (by first | omega | exact cmpZ_in _ _ | exact bI_in _) (by first | omega | exact cmpZ_in _ _ | exact bI_in _) (fun c87 => ?_) (fun c87 => ?_)
    · have hb0 := hI0.2.1
      unfold bOk at hb0
      obtain rfl : i = 4 := by omega
      have hs0 : sm = 0 := by
        rw [hsm]
        show 0 + N 9 + N 10 + N 11 + N 12 = 0
        omega
      have hc0 : cmpZ sm 0 = 0 := cmpZ_0.mpr hs0
      refine gB hC _ _ _ _ _ _ _ qX11_errors_109 rfl ?_
      refine g_lcmp hC dX11_errors_111 (by first | omega | exact cmpZ_in _ _ | exact bI_in _) (by first | omega | exact cmpZ_in _ _ | exact bI_in _) ?_
      refine g_if_ne hC 119 dX11_errors_112 rfl (by first | omega | exact cmpZ_in _ _ | exact bI_in _) (fun c112 => ?_) (fun c112 => ?_)
      · exfalso
        replace c112 : cmpZ sm 0 ≠ 0 := c112
        omega --stop
      · refine gB hC _ _ _ _ _ _ _ qX11_errors_115 rfl ?_
        refine g_ireturn hC dX11_errors_122 hr ⟨?_, rfl, ?_, ?_⟩ gs_rfl ⟨Nat.le_of_ble_eq_true rfl, Nat.le_of_ble_eq_true rfl⟩
        · rw [hwr]
        · exact hx1
        · exact ho1
    · have hb9 := bk9_in hI0 (i := (i : Int)) (by omega) (by omega)
      refine gB hC _ _ _ _ _ _ _ qX11_errors_90 rfl ?_
      refine g_getr hC dX11_errors_92 fX11_10 hx1.sX (by decide) rfl 0 rfl hx1.p0 ?_
      refine g_getr hC dX11_errors_95 fX11_263 hx1.1.2.1.sH (by decide) rfl 12 rfl hx1.rh.2.1.p12 ?_
      refine gB hC _ _ _ _ _ _ _ qX11_errors_98 rfl ?_
      refine g_lald hC dX11_errors_100 hx1.1.2.1.sB (hx1.rh.b (by omega) (by omega)) (by omega) (by omega) (by decide) (fun i100 => ?_)
      refine gB hC _ _ _ _ _ _ _ qX11_errors_101 rfl ?_
      refine ih2 (_, i + 1) _ ⟨?_, by show i + 1 ≤ 4; omega⟩ (by show 4 - (i + 1) < 4 - i; omega)
      show _ = bkT N i + N (9 + (i : Int))
      rw [hsm]
  · have hk := hI.2.1 (kd : Int) (by omega) (by omega)
    unfold kOk at hk
    refine gB hC _ _ _ _ _ _ _ qX11_errors_15 rfl ?_
    refine g_getr hC dX11_errors_16 fX11_26 hx1.sX (by decide) rfl 2 rfl hx1.p2 ?_
    refine gB hC _ _ _ _ _ _ _ qX11_errors_19 rfl ?_
    refine g_getr hC dX11_errors_20 fX11_10 hx1.sX (by decide) rfl 0 rfl hx1.p0 ?_
    refine gB hC _ _ _ _ _ _ _ qX11_errors_23 rfl ?_
    refine g_cV0e hC dX11_errors_24 mX11_250 vX5_give (kX5_give hx1.sP hx1.sO hx1.pO hx1.sM hx1.pM hx1.sL hx1.pL hx1.rh hI0 (Or.inl (by omega)) (by omega) (by omega)) rfl hx1.sP (by decide) rfl (Nat.le_of_ble_eq_true rfl) (RR rfl rfl rfl rfl) (fun z V24 e24 => ?_)
    have hx2 := XR_P hx1 hI0 e24.2.1 e24.2.2
    have hou2 := ho1.pl e24.2.2
    obtain ⟨⟨m, hsz, hsr, hrv, hw01, hwi⟩, _, _⟩ := e24
    have hE1 := er_mo hI (k := (kd : Int)) (by omega) (gvT N kd (kF N kd 0) (N 5).toNat).1
    have hE2 := er_wo hsr hw01 hwi
    have hmo := moN_in hI kd 0 36524 (N 5).toNat
    refine gB hC _ _ _ _ _ _ _ qX11_errors_27 rfl ?_
    refine g_getr hC dX11_errors_28 fX11_10 hx2.sX (by decide) rfl 0 rfl hx2.p0 ?_
    refine g_getr hC dX11_errors_31 fX11_106 hx2.1.2.1.sH (by decide) rfl 11 rfl hx2.rh.2.1.p11 ?_
    refine gB hC _ _ _ _ _ _ _ qX11_errors_34 rfl ?_
    refine g_cV1i hC dX11_errors_35 mX11_238 vX9_mostOnAnyNight (kX9_mostOnAnyNight hx2.rh hI (by omega)) rfl hx2.1.2.1.sT (by decide) rfl (Nat.le_of_ble_eq_true rfl) (RR rfl rfl rfl rfl) (fun z i35 => ?_)
    refine gB hC _ _ _ _ _ _ _ qX11_errors_38 rfl ?_
    refine g_getr hC dX11_errors_39 fX11_10 hx2.sX (by decide) rfl 0 rfl hx2.p0 ?_
    refine g_getr hC dX11_errors_42 fX11_59 hx2.1.2.1.sH (by decide) rfl 8 rfl hx2.rh.2.1.p8 ?_
    refine gB hC _ _ _ _ _ _ _ qX11_errors_45 rfl ?_
    refine g_aald hC (j := 4) dX11_errors_46 hx2.1.2.1.sK (by decide) (hx2.rh.2.1.pk (by omega) (by omega)) (by omega) (by omega) (by decide) ?_
    refine g_getiv hC dX11_errors_47 fX11_272 (hx2.1.2.1.sk (by omega) (by omega)) (by decide) rfl 0 rfl (hx2.rh.k0 (by omega) (by omega)) (fun i47 => ?_)
    refine g_icmp_le hC 57 dX11_errors_50 rfl (by first | omega | exact cmpZ_in _ _ | exact bI_in _) (by first | omega | exact cmpZ_in _ _ | exact bI_in _) (fun c50 => ?_) (fun c50 => ?_)
    · refine gB hC _ _ _ _ _ _ _ qX11_errors_57 rfl ?_
      refine gB hC _ _ _ _ _ _ _ qX11_errors_58 rfl ?_
      refine g_getr hC dX11_errors_61 fX11_26 hx2.sX (by decide) rfl 2 rfl hx2.p2 ?_
      refine g_getzv hC dX11_errors_64 fX11_305 hx2.sP (by decide) rfl 3 rfl rfl (fun i64 => ?_)
      refine g_icmp_eq hC 73 dX11_errors_67 rfl (by first | omega | exact cmpZ_in _ _ | exact bI_in _) (by first | omega | exact cmpZ_in _ _ | exact bI_in _) (fun c67 => ?_) (fun c67 => ?_)
      · refine gB hC _ _ _ _ _ _ _ qX11_errors_73 rfl ?_
        refine ih (V24, _, kd + 1, _, _) _ ⟨hx2, hou2, ?_, by show ((kd + 1 : Nat) : Int) ≤ N 1; omega⟩ (by show (N 1 - ((kd + 1 : Nat) : Int)).toNat < (N 1 - kd).toNat; omega)
        show _ = erK N kd + (if (erI N (gvT N kd (kF N kd 0) (N 5).toNat).1 kd (N 5).toNat).1 = (erI N (gvT N kd (kF N kd 0) (N 5).toNat).1 kd (N 5).toNat).2 then 0 else 1)
        dsimp only
        rw [hE1, hE2]
        first | rw [bI_t (by omega)] | rw [bI_f (by omega)]
        split <;> omega
      · refine gB hC _ _ _ _ _ _ _ qX11_errors_70 rfl ?_
        refine gB hC _ _ _ _ _ _ _ qX11_errors_73 rfl ?_
        refine ih (V24, _, kd + 1, _, _) _ ⟨hx2, hou2, ?_, by show ((kd + 1 : Nat) : Int) ≤ N 1; omega⟩ (by show (N 1 - ((kd + 1 : Nat) : Int)).toNat < (N 1 - kd).toNat; omega)
        show _ = erK N kd + (if (erI N (gvT N kd (kF N kd 0) (N 5).toNat).1 kd (N 5).toNat).1 = (erI N (gvT N kd (kF N kd 0) (N 5).toNat).1 kd (N 5).toNat).2 then 0 else 1)
        dsimp only
        rw [hE1, hE2]
        first | rw [bI_t (by omega)] | rw [bI_f (by omega)]
        split <;> omega
    · refine gB hC _ _ _ _ _ _ _ qX11_errors_53 rfl ?_
      refine gB hC _ _ _ _ _ _ _ qX11_errors_58 rfl ?_
      refine g_getr hC dX11_errors_61 fX11_26 hx2.sX (by decide) rfl 2 rfl hx2.p2 ?_
      refine g_getzv hC dX11_errors_64 fX11_305 hx2.sP (by decide) rfl 3 rfl rfl (fun i64 => ?_)
      refine g_icmp_eq hC 73 dX11_errors_67 rfl (by first | omega | exact cmpZ_in _ _ | exact bI_in _) (by first | omega | exact cmpZ_in _ _ | exact bI_in _) (fun c67 => ?_) (fun c67 => ?_)
      · refine gB hC _ _ _ _ _ _ _ qX11_errors_73 rfl ?_
        refine ih (V24, _, kd + 1, _, _) _ ⟨hx2, hou2, ?_, by show ((kd + 1 : Nat) : Int) ≤ N 1; omega⟩ (by show (N 1 - ((kd + 1 : Nat) : Int)).toNat < (N 1 - kd).toNat; omega)
        show _ = erK N kd + (if (erI N (gvT N kd (kF N kd 0) (N 5).toNat).1 kd (N 5).toNat).1 = (erI N (gvT N kd (kF N kd 0) (N 5).toNat).1 kd (N 5).toNat).2 then 0 else 1)
        dsimp only
        rw [hE1, hE2]
        first | rw [bI_t (by omega)] | rw [bI_f (by omega)]
        split <;> omega
      · refine gB hC _ _ _ _ _ _ _ qX11_errors_70 rfl ?_
        refine gB hC _ _ _ _ _ _ _ qX11_errors_73 rfl ?_
        refine ih (V24, _, kd + 1, _, _) _ ⟨hx2, hou2, ?_, by show ((kd + 1 : Nat) : Int) ≤ N 1; omega⟩ (by show (N 1 - ((kd + 1 : Nat) : Int)).toNat < (N 1 - kd).toNat; omega)
        show _ = erK N kd + (if (erI N (gvT N kd (kF N kd 0) (N 5).toNat).1 kd (N 5).toNat).1 = (erI N (gvT N kd (kF N kd 0) (N 5).toNat).1 kd (N 5).toNat).2 then 0 else 1)
        dsimp only
        rw [hE1, hE2]
        first | rw [bI_t (by omega)] | rw [bI_f (by omega)]
        split <;> omega

