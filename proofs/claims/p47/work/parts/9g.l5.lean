/-! the law: acts (rows laid by wip/p47/l5.py) -/
theorem gAct_mk {q w n : Int} {N : gN0} {P : Int → gN0} {c z : Int} {Sh : gSh} {V : gV} (h1 : LI n N) (h2 : XR (q + 2) N P c Sh V) (h3 : LB q w N Sh V) (h4 : LW q w N V) : gAct q w n (.inl (some (0, 1))) Sh V z := ⟨rfl, N, P, c, h1, h2, h3, h4⟩

theorem m88_ge {N : gN0} {k f n : Int} (h : ¬ m88 (rfd N k f n) < 0) : rfd N k f n ≠ -1 ∧ m88 (rfd N k f n) = rfd N k f n - 8822 := by
  unfold m88 at h ⊢
  split at h
  · exact absurd h (by decide)
  · rename_i h1
    exact ⟨h1, if_neg h1⟩
theorem rfd_up {N : gN0} {k f n : Int} (hf : 8822 ≤ f) (hn : 1 ≤ n) (h : rfd N k f n ≠ -1) : f ≤ rfd N k f n ∧ rfd N k f n < f + n := by
  unfold rfd at h ⊢
  rcases rfsT_in N k n.toNat f with h1 | h1
  · have h1 : rfs N k f n = -1 := h1
    rw [if_neg (by omega)] at h ⊢
    split at h
    · rename_i h2; rw [if_pos h2]; omega
    · exact absurd rfl h
  · have h1 : f ≤ rfs N k f n ∧ rfs N k f n < f + (n.toNat : Int) := h1
    rw [if_pos (by omega)]
    omega
/-- the law's refused night -/
theorem LB_rf {q w x d : Int} {N : gN0} {Sh : gSh} {V V' : gV} (hI : InvC N) (H : LB q w N Sh V) (e : V' = up V q 22 x) (hx : x = d) : LB q w (upN N 8 d) Sh V' := by
  have hsc := hI.1
  unfold iScal at hsc
  have hv := H.2.2.2.2.2.1
  refine LB_q (by omega) H e (by omega) ?_ (upN_ne (by decide)) (upN_ne (by decide)) (fun j hj => upN_ne (by omega)) (fun s s0 s1 => by have := (hI.2.2.2.1 s s0 s1).1; omega)
  unfold llV at hv ⊢
  rw [e, up_ne _ _ (Or.inr (by decide)), up_ne _ _ (Or.inr (by decide)), up_ne _ _ (Or.inr (by decide)), up_ne _ _ (Or.inr (by decide)), up_ne _ _ (Or.inr (by decide)), up_eq, upN_ne (by decide), upN_ne (by decide), upN_ne (by decide), upN_ne (by decide), upN_ne (by decide), upN_eq, hx]
  exact ⟨hv.1, hv.2.1, hv.2.2.1, hv.2.2.2.1, hv.2.2.2.2.1, rfl⟩

theorem kL_asks {E l Sh V z} {q w n : Int} {N : gN0} {P9 : Int → gN0} {c9 : Int} (hLI : LI n N) (hn : 0 ≤ n ∧ n ≤ 40) (hx : XR (q + 2) N P9 c9 Sh V) (hL : LB q w N Sh V) (hW : LW q w N V) : gM E l yL_asks (.code yL_asks cL_asks 9 (some .boolean)) (rmk 24 400 4000 900) [(2, q)] Sh V z (gAct q w (n + 1)) := by
  refine gM_at (L0 := [(2, q), (9, 0), (9, 0), (9, 0), (9, 0), (9, 0), (9, 0), (9, 0), (9, 0)]) rfl rfl rfl ?_
  intro p e s m args below meth c hC hr hex hnm hz
  have hI0 := hLI.1
  have hI := hI0.1
  have hsc := hI.1
  unfold iScal at hsc
  have hqw := hL.a0
  have hl1 := hLI.2.1
  have hgb := LI.gb hLI (by omega)
  refine gB hC _ _ _ _ _ _ _ qL_asks_0 rfl ?_
  refine g_getr hC dL_asks_1 fL_52 hL.sL (by decide) rfl 1 rfl hL.p1 ?_
  refine gB hC _ _ _ _ _ _ _ qL_asks_4 rfl ?_
  refine g_dice hC dL_asks_5 mL_147 vX12_next (kX12_next hL.sD (by omega) (by omega)) rfl hL.sD (by decide) rfl (Nat.le_of_ble_eq_true rfl) (RR rfl rfl rfl rfl) (fun z y5 s5 V5 l5 u5 e5 => ?_)
  have hL5 := LB_dc (by omega) hL e5
  have hW5 := LW_dc (by omega) hL e5 hW
  have hx5 := XR_dc (w := w) hx hI0 e5
  refine gB hC _ _ _ _ _ _ _ qL_asks_8 rfl ?_
  refine g_getiv hC dL_asks_10 fL_114 hL5.sL (by decide) rfl 4 rfl hL5.v4 (fun i10 => ?_)
  refine gB hC _ _ _ _ _ _ _ qL_asks_13 rfl ?_
  refine g_getr hC dL_asks_14 fL_52 hL5.sL (by decide) rfl 1 rfl hL5.p1 ?_
  refine gB hC _ _ _ _ _ _ _ qL_asks_17 rfl ?_
  refine g_dice hC dL_asks_19 mL_147 vX12_next (kX12_next hL5.sD (by omega) (by omega)) rfl hL5.sD (by decide) rfl (Nat.le_of_ble_eq_true rfl) (RR rfl rfl rfl rfl) (fun z y19 s19 V19 l19 u19 e19 => ?_)
  have hL19 := LB_dc (by omega) hL5 e19
  have hW19 := LW_dc (by omega) hL5 e19 hW5
  have hx19 := XR_dc (w := w) hx5 hI0 e19
  refine gB hC _ _ _ _ _ _ _ qL_asks_22 rfl ?_
  refine g_getr hC dL_asks_26 fL_52 hL19.sL (by decide) rfl 1 rfl hL19.p1 ?_
  refine gB hC _ _ _ _ _ _ _ qL_asks_29 rfl ?_
  refine g_dice hC dL_asks_30 mL_147 vX12_next (kX12_next hL19.sD (by omega) (by omega)) rfl hL19.sD (by decide) rfl (Nat.le_of_ble_eq_true rfl) (RR rfl rfl rfl rfl) (fun z y30 s30 V30 l30 u30 e30 => ?_)
  have hL30 := LB_dc (by omega) hL19 e30
  have hW30 := LW_dc (by omega) hL19 e30 hW19
  have hx30 := XR_dc (w := w) hx19 hI0 e30
  refine gB hC _ _ _ _ _ _ _ qL_asks_33 rfl ?_
  refine g_getr hC dL_asks_37 fL_52 hL30.sL (by decide) rfl 1 rfl hL30.p1 ?_
  refine gB hC _ _ _ _ _ _ _ qL_asks_40 rfl ?_
  refine g_dice hC dL_asks_41 mL_147 vX12_next (kX12_next hL30.sD (by omega) (by omega)) rfl hL30.sD (by decide) rfl (Nat.le_of_ble_eq_true rfl) (RR rfl rfl rfl rfl) (fun z y41 s41 V41 l41 u41 e41 => ?_)
  have hL41 := LB_dc (by omega) hL30 e41
  have hW41 := LW_dc (by omega) hL30 e41 hW30
  have hx41 := XR_dc (w := w) hx30 hI0 e41
  refine gB hC _ _ _ _ _ _ _ qL_asks_44 rfl ?_
  refine g_getr hC dL_asks_48 fL_52 hL41.sL (by decide) rfl 1 rfl hL41.p1 ?_
  refine gB hC _ _ _ _ _ _ _ qL_asks_51 rfl ?_
  refine g_dice hC dL_asks_52 mL_147 vX12_next (kX12_next hL41.sD (by omega) (by omega)) rfl hL41.sD (by decide) rfl (Nat.le_of_ble_eq_true rfl) (RR rfl rfl rfl rfl) (fun z y52 s52 V52 l52 u52 e52 => ?_)
  have hL52 := LB_dc (by omega) hL41 e52
  have hW52 := LW_dc (by omega) hL41 e52 hW41
  have hx52 := XR_dc (w := w) hx41 hI0 e52
  refine gB hC _ _ _ _ _ _ _ qL_asks_55 rfl ?_
  refine g_getiv hC dL_asks_58 fL_114 hL52.sL (by decide) rfl 4 rfl hL52.v4 (fun i58 => ?_)
  refine gB hC _ _ _ _ _ _ _ qL_asks_61 rfl ?_
  refine g_getr hC dL_asks_62 fL_52 hL52.sL (by decide) rfl 1 rfl hL52.p1 ?_
  refine gB hC _ _ _ _ _ _ _ qL_asks_65 rfl ?_
  refine g_getiv hC dL_asks_67 fL_114 hL52.sL (by decide) rfl 4 rfl hL52.v4 (fun i67 => ?_)
  refine gB hC _ _ _ _ _ _ _ qL_asks_70 rfl ?_
  refine g_dice hC dL_asks_73 mL_147 vX12_next (kX12_next hL52.sD (by omega) (by omega)) rfl hL52.sD (by decide) rfl (Nat.le_of_ble_eq_true rfl) (RR rfl rfl rfl rfl) (fun z y73 s73 V73 l73 u73 e73 => ?_)
  have hL73 := LB_dc (by omega) hL52 e73
  have hW73 := LW_dc (by omega) hL52 e73 hW52
  have hx73 := XR_dc (w := w) hx52 hI0 e73
  refine gB hC _ _ _ _ _ _ _ qL_asks_76 rfl ?_
  refine g_cV1i hC dL_asks_83 mL_117 vL_refusing (kL_refusing hL73 hI (by omega) (by omega) (by omega) (by omega) (by omega) (by omega)) rfl hL73.sL (by decide) rfl (Nat.le_of_ble_eq_true rfl) (RR rfl rfl rfl rfl) (fun z i83 => ?_)
  refine gB hC _ _ _ _ _ _ _ qL_asks_86 rfl ?_
  refine g_getiv hC dL_asks_89 fL_56 hL73.sL (by decide) rfl 17 rfl hL73.v17 (fun i89 => ?_)
  refine gB hC _ _ _ _ _ _ _ qL_asks_92 rfl ?_
  refine g_icmp_lt hC 99 dL_asks_94 rfl (by first | omega | exact cmpZ_in _ _ | exact bI_in _) (by first | omega | exact cmpZ_in _ _ | exact bI_in _) (fun c94 => ?_) (fun c94 => ?_)
  · refine gB hC _ _ _ _ _ _ _ qL_asks_99 rfl ?_
    refine g_getr hC dL_asks_100 fL_10 hL73.sL (by decide) rfl 0 rfl hL73.p0 ?_
    refine gB hC _ _ _ _ _ _ _ qL_asks_103 rfl ?_
    refine g_getr hC dL_asks_105 fL_16 hL73.sL (by decide) rfl 2 rfl hL73.p2 ?_
    refine gB hC _ _ _ _ _ _ _ qL_asks_108 rfl ?_
    refine g_iald hC dL_asks_109 hL73.sdt (hL73.dt (by omega) (by omega)) (by omega) (by omega) (by decide) (fun i109 => ?_)
    refine gB hC _ _ _ _ _ _ _ qL_asks_110 rfl ?_
    refine g_getr hC dL_asks_116 fL_16 hL73.sL (by decide) rfl 2 rfl hL73.p2 ?_
    refine gB hC _ _ _ _ _ _ _ qL_asks_119 rfl ?_
    refine g_iald hC dL_asks_121 hL73.sdt (hL73.dt (by omega) (by omega)) (by omega) (by omega) (by decide) (fun i121 => ?_)
    refine g_cV1e hC dL_asks_122 mL_159 vX11_ask (xask hx73 hI0 (by omega) (by omega) (by omega) (by omega) (by omega) (by omega) (by omega) (by omega)) rfl hL73.sX (by decide) rfl (Nat.le_of_ble_eq_true rfl) (RR rfl rfl rfl rfl) (fun z V122 e122 => ?_)
    have hx122 := e122.1
    have hL122 := LB_x (by omega) hL73 e122.2
    have hW122 := LW_x (by omega) hL73 e122.2 hW73
    refine gB hC _ _ _ _ _ _ _ qL_asks_125 rfl ?_
    refine g_if_ge hC 157 dL_asks_129 rfl (by first | omega | exact cmpZ_in _ _ | exact bI_in _) (fun c129 => ?_) (fun c129 => ?_)
    · have hr9 := m88_ge (by omega : ¬ m88 (rfd N y5 (8822 + (N 0 - 8822 + y19)) (1 + y30)) < 0)
      have hu9 := rfd_up (by omega) (by omega) hr9.1
      rw [if_neg hr9.1] at hx122
      refine gB hC _ _ _ _ _ _ _ qL_asks_157 rfl ?_
      refine g_getr hC dL_asks_159 fL_16 hL122.sL (by decide) rfl 2 rfl hL122.p2 ?_
      refine gB hC _ _ _ _ _ _ _ qL_asks_162 rfl ?_
      refine g_iald hC dL_asks_164 hL122.sdt (hL122.dt (by omega) (by omega)) (by omega) (by omega) (by decide) (fun i164 => ?_)
      refine g_puti hC dL_asks_165 fL_139 hL122.sL (by decide) rfl (fun _ h => by cases h; rfl) 22 rfl (by first | omega | exact cmpZ_in _ _ | exact bI_in _) (fun V165 e165 => ?_)
      have hB9 := LB_rf hI hL122 e165 (show _ = dateZ (rfd N y5 (8822 + (N 0 - 8822 + y19)) (1 + y30)) by rw [show 8822 + m88 (rfd N y5 (8822 + (N 0 - 8822 + y19)) (1 + y30)) = rfd N y5 (8822 + (N 0 - 8822 + y19)) (1 + y30) by omega])
      have hx9 := XR_r (w := w) hx122 (rn_inv hI0 _) hL122 e165 (Or.inl rfl)
      have hW9 := LW_q (M := upN N 8 (dateZ (rfd N y5 (8822 + (N 0 - 8822 + y19)) (1 + y30)))) (by omega) hL122 e165 (by decide) (upN_ne (by decide)) (fun j _ _ => upN_ne (by omega)) hW122
      refine gB hC _ _ _ _ _ _ _ qL_asks_168 rfl ?_
      refine g_icmp_ne hC 178 dL_asks_171 rfl (by first | omega | exact cmpZ_in _ _ | exact bI_in _) (by first | omega | exact cmpZ_in _ _ | exact bI_in _) (fun c171 => ?_) (fun c171 => ?_)
      · rw [if_neg hr9.1] at c171
        exact absurd rfl c171 --stop
      · refine gB hC _ _ _ _ _ _ _ qL_asks_174 rfl ?_
        refine g_zreturn hC dL_asks_179 hr ?_ (gAct_mk (LI_mono (LI_up hLI (rn_inv hI0 _) (by omega)) (by omega)) hx9 hB9 hW9) gs_rfl ⟨Nat.le_of_ble_eq_true rfl, Nat.le_of_ble_eq_true rfl⟩
        exact Or.inr rfl
    · have hr9 := m88_lt (by omega) c129
      rw [if_pos hr9] at hx122
      refine gB hC _ _ _ _ _ _ _ qL_asks_132 rfl ?_
      refine g_cV1e hC dL_asks_145 mL_120 vL_makes (kL_makes hL122 hI (by omega) (by omega) (by omega) (by omega) (by omega) (by omega) (by omega) (by omega) (by omega) (by omega) (by omega) (by omega)) rfl hL122.sL (by decide) rfl (Nat.le_of_ble_eq_true rfl) (RR rfl rfl rfl rfl) (fun z V145 e145 => ?_)
      have hx9 := XR_q hx122 (INV_mk hI0 (by unfold mkOk; omega) (rfd_had hr9 (by omega) (by omega)).1) hL122 e145.2.1
      have hB9 := e145.1
      have hW9 : LW q w (mkN N y5 (8822 + (N 0 - 8822 + y19)) (1 + y30) (1 + y41) y52 (8822 + (N 0 - 8822 + y73)) (-1)) V145 := LW_ag (mkN_old (by omega) (by omega) (by omega) (by decide) (by omega)) (by omega) (fun j j0 j1 => mkN_old (by omega) (by omega) (by omega) (by omega) (by omega)) hL122.2.2.2.2.1 e145.2.2.2 (e145.2.2.1 _ _ hL122.sgO (Int.le_refl _)) (fun p hp => e145.2.2.1 p _ hp.1 (by rcases hp.2 with h | h <;> omega)) hW122
      refine g_icmp_ne hC 155 dL_asks_148 rfl (by first | omega | exact cmpZ_in _ _ | exact bI_in _) (by first | omega | exact cmpZ_in _ _ | exact bI_in _) (fun c148 => ?_) (fun c148 => ?_)
      · rw [if_pos hr9] at c148
        exact absurd rfl c148 --stop
      · refine gB hC _ _ _ _ _ _ _ qL_asks_151 rfl ?_
        refine g_zreturn hC dL_asks_156 hr ?_ (gAct_mk (LI_mono (LI_mk hLI (by unfold mkOk; omega) (rfd_had hr9 (by omega) (by omega)).1 (by omega)) (by omega)) hx9 hB9 hW9) gs_rfl ⟨Nat.le_of_ble_eq_true rfl, Nat.le_of_ble_eq_true rfl⟩
        exact Or.inr rfl
  · refine gB hC _ _ _ _ _ _ _ qL_asks_97 rfl ?_
    refine g_zreturn hC dL_asks_98 hr ?_ (gAct_mk (LI_mono hLI (by omega)) hx73 hL73 hW73) gs_rfl ⟨Nat.le_of_ble_eq_true rfl, Nat.le_of_ble_eq_true rfl⟩
    exact Or.inr rfl
