/-! the law: extras, closed nights (rows laid by wip/p47/l8.py) -/
theorem kL_opens {E l Sh V z} {q w n : Int} {N : gN0} {P9 : Int → gN0} {c9 : Int} (hLI : LI n N) (hn : 0 ≤ n ∧ n ≤ 40) (hx : XR (q + 2) N P9 c9 Sh V) (hL : LB q w N Sh V) (hW : LW q w N V) : gM E l yL_opens (.code yL_opens cL_opens 3 (some .boolean)) (rmk 24 400 4000 900) [(2, q)] Sh V z (gAct q w (n + 1)) := by
  refine gM_at (L0 := [(2, q), (9, 0), (9, 0)]) rfl rfl rfl ?_
  intro p e s m args below meth c hC hr hex hnm hz
  have hI0 := hLI.1
  have hI := hI0.1
  have hsc := hI.1
  unfold iScal at hsc
  have hqw := hL.a0
  have hl1 := hLI.2.1
  have hgb := LI.gb hLI (by omega)
  refine gB hC _ _ _ _ _ _ _ qL_opens_0 rfl ?_
  refine g_getr hC dL_opens_1 fL_52 hL.sL (by decide) rfl 1 rfl hL.p1 ?_
  refine gB hC _ _ _ _ _ _ _ qL_opens_4 rfl ?_
  refine g_dice hC dL_opens_5 mL_147 vX12_next (kX12_next hL.sD (by omega) (by omega)) rfl hL.sD (by decide) rfl (Nat.le_of_ble_eq_true rfl) (RR rfl rfl rfl rfl) (fun zd5 y5 s5 V5 l5 u5 e5 => ?_)
  have hL5 := LB_dc (by omega) hL e5
  have hW5 := LW_dc (by omega) hL e5 hW
  have hx5 := XR_dc (w := w) hx hI0 e5
  refine gB hC _ _ _ _ _ _ _ qL_opens_8 rfl ?_
  refine g_getiv hC dL_opens_10 fL_114 hL5.sL (by decide) rfl 4 rfl hL5.v4 (fun i10 => ?_)
  refine gB hC _ _ _ _ _ _ _ qL_opens_13 rfl ?_
  refine g_getr hC dL_opens_14 fL_52 hL5.sL (by decide) rfl 1 rfl hL5.p1 ?_
  refine gB hC _ _ _ _ _ _ _ qL_opens_17 rfl ?_
  refine g_dice hC dL_opens_19 mL_147 vX12_next (kX12_next hL5.sD (by omega) (by omega)) rfl hL5.sD (by decide) rfl (Nat.le_of_ble_eq_true rfl) (RR rfl rfl rfl rfl) (fun zd19 y19 s19 V19 l19 u19 e19 => ?_)
  have hL19 := LB_dc (by omega) hL5 e19
  have hW19 := LW_dc (by omega) hL5 e19 hW5
  have hx19 := XR_dc (w := w) hx5 hI0 e19
  refine gB hC _ _ _ _ _ _ _ qL_opens_22 rfl ?_
  refine g_getr hC dL_opens_25 fL_52 hL19.sL (by decide) rfl 1 rfl hL19.p1 ?_
  refine gB hC _ _ _ _ _ _ _ qL_opens_28 rfl ?_
  refine g_dice hC dL_opens_29 mL_147 vX12_next (kX12_next hL19.sD (by omega) (by omega)) rfl hL19.sD (by decide) rfl (Nat.le_of_ble_eq_true rfl) (RR rfl rfl rfl rfl) (fun zd29 y29 s29 V29 l29 u29 e29 => ?_)
  have hL29 := LB_dc (by omega) hL19 e29
  have hW29 := LW_dc (by omega) hL19 e29 hW19
  have hx29 := XR_dc (w := w) hx19 hI0 e29
  refine g_if_ne hC 76 dL_opens_32 rfl (by first | omega | exact cmpZ_in _ _ | exact bI_in _) (fun c32 => ?_) (fun c32 => ?_)
  · refine gB hC _ _ _ _ _ _ _ qL_opens_76 rfl ?_
    refine g_getr hC dL_opens_77 fL_34 hL29.sL (by decide) rfl 8 rfl hL29.p8 ?_
    refine gB hC _ _ _ _ _ _ _ qL_opens_80 rfl ?_
    refine g_aald hC (j := 9) dL_opens_81 hL29.scO (by decide) (hL29.pc (by omega) (by omega)) (by omega) (by omega) (by decide) ?_
    refine gB hC _ _ _ _ _ _ _ qL_opens_82 rfl ?_
    refine g_getr hC dL_opens_84 fL_52 hL29.sL (by decide) rfl 1 rfl hL29.p1 ?_
    refine gB hC _ _ _ _ _ _ _ qL_opens_87 rfl ?_
    refine g_dice hC dL_opens_88 mL_147 vX12_next (kX12_next hL29.sD (by omega) (by omega)) rfl hL29.sD (by decide) rfl (Nat.le_of_ble_eq_true rfl) (RR rfl rfl rfl rfl) (fun zd88 y88 s88 V88 l88 u88 e88 => ?_)
    have hL88 := LB_dc (by omega) hL29 e88
    have hW88 := LW_dc (by omega) hL29 e88 hW29
    have hx88 := XR_dc (w := w) hx29 hI0 e88
    refine g_if_ne hC 98 dL_opens_91 rfl (by first | omega | exact cmpZ_in _ _ | exact bI_in _) (fun c91 => ?_) (fun c91 => ?_)
    · refine gB hC _ _ _ _ _ _ _ qL_opens_98 rfl ?_
      refine g_zast hC dL_opens_99 (hL88.scR (by omega) (by omega)) (by omega) (by omega) (by decide) (by omega) (fun V99 e99 => ?_)
      have hLIe : LI n (clN N y5 (8822 + (N 0 - 8822 + y19)) 0) := LI_cl hLI (by omega) (by omega)
      have hIe := hLIe.1
      have hcv : clb (clN N y5 (8822 + (N 0 - 8822 + y19)) 0) y5 (8822 + (N 0 - 8822 + y19)) = 0 := (clb_cl (hLI.2.2.2.2 _ (by omega) (by omega)) (by omega) (by omega) (by omega) (by omega) (by omega) (by omega) (by omega) (by omega)).trans (by rw [if_pos ⟨rfl, rfl⟩]; rfl)
      have hL99 : LB q w (clN N y5 (8822 + (N 0 - 8822 + y19)) 0) _ V99 := LB_cl (by omega) hL88 e99 (by rfl) (hLI.2.2.2.2 _ (by omega) (by omega)) (by omega) (by omega) (by omega) (by omega) (fun s s0 s1 => by have := (hI.2.2.2.1 s s0 s1).1; omega)
      have hW99 : LW q w (clN N y5 (8822 + (N 0 - 8822 + y19)) 0) V99 := LW_r (r := w + 6 + y5) (by omega) hL88 (fun a ha => by rw [e99]; exact up_row _ _ _ ha) (by omega) (by omega) (by omega) (upN_ne (by omega)) (fun j _ _ => upN_ne (by omega)) hW88
      have hx99 := XR_r (w := w) hx88 hI0 hL88 e99 (Or.inr (by omega))
      have hIec := hIe.1
      have hlkin := lk_in hIec
      have hse := hIec.1
      unfold iScal at hse
      refine gB hC _ _ _ _ _ _ _ qL_opens_100 rfl ?_
      refine g_getr hC dL_opens_101 fL_10 hL99.sL (by decide) rfl 0 rfl hL99.p0 ?_
      refine gB hC _ _ _ _ _ _ _ qL_opens_104 rfl ?_
      refine g_getr hC dL_opens_106 fL_16 hL99.sL (by decide) rfl 2 rfl hL99.p2 ?_
      refine gB hC _ _ _ _ _ _ _ qL_opens_109 rfl ?_
      refine g_iald hC dL_opens_110 hL99.sdt (hL99.dt (by omega) (by omega)) (by omega) (by omega) (by decide) (fun i110 => ?_)
      refine gB hC _ _ _ _ _ _ _ qL_opens_111 rfl ?_
      refine g_getr hC dL_opens_112 fL_34 hL99.sL (by decide) rfl 8 rfl hL99.p8 ?_
      refine gB hC _ _ _ _ _ _ _ qL_opens_115 rfl ?_
      refine g_aald hC (j := 9) dL_opens_116 hL99.scO (by decide) (hL99.pc (by omega) (by omega)) (by omega) (by omega) (by decide) ?_
      refine gB hC _ _ _ _ _ _ _ qL_opens_117 rfl ?_
      refine g_zald hC dL_opens_118 (hL99.scR (by omega) (by omega)) (show V99 (w + 6 + y5) (N 0 - 8822 + y19) = 0 by rw [e99, up_eq]) (by omega) (by omega) (by decide) (fun i118 => ?_)
      refine g_cV1e hC dL_opens_119 mL_197 vX11_closeNight (xcloseNight hx99 hI0 hLI.2.2.2.2 (by omega) (by omega) (by omega) (by decide)) rfl hL99.sX (by decide) rfl (Nat.le_of_ble_eq_true rfl) (RR rfl rfl rfl rfl) (fun z V119 e119 => ?_)
      have hx119 := e119.1
      rw [if_pos (by decide)] at hx119
      rw [if_pos (by decide)]
      have hL119 := LB_x (by omega) hL99 e119.2
      have hW119 := LW_x (by omega) hL99 e119.2 hW99
      refine gB hC _ _ _ _ _ _ _ qL_opens_122 rfl ?_
      refine g_getr hC dL_opens_123 fL_34 hL119.sL (by decide) rfl 8 rfl hL119.p8 ?_
      refine gB hC _ _ _ _ _ _ _ qL_opens_126 rfl ?_
      refine g_aald hC (j := 9) dL_opens_127 hL119.scO (by decide) (hL119.pc (by omega) (by omega)) (by omega) (by omega) (by decide) ?_
      refine gB hC _ _ _ _ _ _ _ qL_opens_128 rfl ?_
      refine g_zald hC dL_opens_129 (hL119.scR (by omega) (by omega)) ((hL119.kc (by omega) (by omega) (by omega) (by omega)).trans hcv) (by omega) (by omega) (by decide) (fun i129 => ?_)
      refine g_if_eq hC 137 dL_opens_130 rfl (by first | omega | exact cmpZ_in _ _ | exact bI_in _) (fun c130 => ?_) (fun c130 => ?_)
      · refine gB hC _ _ _ _ _ _ _ qL_opens_137 rfl ?_
        refine g_cV1e hC dL_opens_138 mL_170 vL_looks (kL_looks hL119 hW119 (hLIe).1 (hLIe).2.1.2.1 (LI.gb (hLIe) (by omega)) (hLIe).2.1.1) rfl hL119.sL (by decide) rfl (Nat.le_of_ble_eq_true rfl) (RR rfl rfl rfl rfl) (fun z V138 e138 => ?_)
        have hL138 := e138.1
        have hW138 := e138.2.1
        have hx138 := XR_q hx119 (lk_inv hIe) hL119 e138.2.2
        have hLI138 := LI_lk (by omega) (hLIe)
        have hJ138 := hLI138.1
        have hJc138 := hJ138.1
        have hsk138 := hJc138.1
        unfold iScal at hsk138
        refine g_icmp_ne hC 148 dL_opens_141 rfl (by first | omega | exact cmpZ_in _ _ | exact bI_in _) (by first | omega | exact cmpZ_in _ _ | exact bI_in _) (fun c141 => ?_) (fun c141 => ?_)
        · exact absurd rfl c141 --stop
        · refine gB hC _ _ _ _ _ _ _ qL_opens_144 rfl ?_
          refine g_zreturn hC dL_opens_149 hr ?_ (gAct_mk (LI_mono (hLI138) (by omega)) hx138 hL138 hW138) gs_rfl ⟨Nat.le_of_ble_eq_true rfl, Nat.le_of_ble_eq_true rfl⟩
          exact Or.inr rfl
      · exact absurd c130 (by decide) --stop
    · refine gB hC _ _ _ _ _ _ _ qL_opens_94 rfl ?_
      refine g_zast hC dL_opens_99 (hL88.scR (by omega) (by omega)) (by omega) (by omega) (by decide) (by omega) (fun V99 e99 => ?_)
      have hLIe : LI n (clN N y5 (8822 + (N 0 - 8822 + y19)) 1) := LI_cl hLI (by omega) (by omega)
      have hIe := hLIe.1
      have hcv : clb (clN N y5 (8822 + (N 0 - 8822 + y19)) 1) y5 (8822 + (N 0 - 8822 + y19)) = 1 := (clb_cl (hLI.2.2.2.2 _ (by omega) (by omega)) (by omega) (by omega) (by omega) (by omega) (by omega) (by omega) (by omega) (by omega)).trans (by rw [if_pos ⟨rfl, rfl⟩]; rfl)
      have hL99 : LB q w (clN N y5 (8822 + (N 0 - 8822 + y19)) 1) _ V99 := LB_cl (by omega) hL88 e99 (by rfl) (hLI.2.2.2.2 _ (by omega) (by omega)) (by omega) (by omega) (by omega) (by omega) (fun s s0 s1 => by have := (hI.2.2.2.1 s s0 s1).1; omega)
      have hW99 : LW q w (clN N y5 (8822 + (N 0 - 8822 + y19)) 1) V99 := LW_r (r := w + 6 + y5) (by omega) hL88 (fun a ha => by rw [e99]; exact up_row _ _ _ ha) (by omega) (by omega) (by omega) (upN_ne (by omega)) (fun j _ _ => upN_ne (by omega)) hW88
      have hx99 := XR_r (w := w) hx88 hI0 hL88 e99 (Or.inr (by omega))
      have hIec := hIe.1
      have hlkin := lk_in hIec
      have hse := hIec.1
      unfold iScal at hse
      refine gB hC _ _ _ _ _ _ _ qL_opens_100 rfl ?_
      refine g_getr hC dL_opens_101 fL_10 hL99.sL (by decide) rfl 0 rfl hL99.p0 ?_
      refine gB hC _ _ _ _ _ _ _ qL_opens_104 rfl ?_
      refine g_getr hC dL_opens_106 fL_16 hL99.sL (by decide) rfl 2 rfl hL99.p2 ?_
      refine gB hC _ _ _ _ _ _ _ qL_opens_109 rfl ?_
      refine g_iald hC dL_opens_110 hL99.sdt (hL99.dt (by omega) (by omega)) (by omega) (by omega) (by decide) (fun i110 => ?_)
      refine gB hC _ _ _ _ _ _ _ qL_opens_111 rfl ?_
      refine g_getr hC dL_opens_112 fL_34 hL99.sL (by decide) rfl 8 rfl hL99.p8 ?_
      refine gB hC _ _ _ _ _ _ _ qL_opens_115 rfl ?_
      refine g_aald hC (j := 9) dL_opens_116 hL99.scO (by decide) (hL99.pc (by omega) (by omega)) (by omega) (by omega) (by decide) ?_
      refine gB hC _ _ _ _ _ _ _ qL_opens_117 rfl ?_
      refine g_zald hC dL_opens_118 (hL99.scR (by omega) (by omega)) (show V99 (w + 6 + y5) (N 0 - 8822 + y19) = 1 by rw [e99, up_eq]) (by omega) (by omega) (by decide) (fun i118 => ?_)
      refine g_cV1e hC dL_opens_119 mL_197 vX11_closeNight (xcloseNight hx99 hI0 hLI.2.2.2.2 (by omega) (by omega) (by omega) (by decide)) rfl hL99.sX (by decide) rfl (Nat.le_of_ble_eq_true rfl) (RR rfl rfl rfl rfl) (fun z V119 e119 => ?_)
      have hx119 := e119.1
      rw [if_neg (by decide)] at hx119
      rw [if_neg (by decide)]
      have hL119 := LB_x (by omega) hL99 e119.2
      have hW119 := LW_x (by omega) hL99 e119.2 hW99
      refine gB hC _ _ _ _ _ _ _ qL_opens_122 rfl ?_
      refine g_getr hC dL_opens_123 fL_34 hL119.sL (by decide) rfl 8 rfl hL119.p8 ?_
      refine gB hC _ _ _ _ _ _ _ qL_opens_126 rfl ?_
      refine g_aald hC (j := 9) dL_opens_127 hL119.scO (by decide) (hL119.pc (by omega) (by omega)) (by omega) (by omega) (by decide) ?_
      refine gB hC _ _ _ _ _ _ _ qL_opens_128 rfl ?_
      refine g_zald hC dL_opens_129 (hL119.scR (by omega) (by omega)) ((hL119.kc (by omega) (by omega) (by omega) (by omega)).trans hcv) (by omega) (by omega) (by decide) (fun i129 => ?_)
      refine g_if_eq hC 137 dL_opens_130 rfl (by first | omega | exact cmpZ_in _ _ | exact bI_in _) (fun c130 => ?_) (fun c130 => ?_)
      · exact absurd c130 (by decide) --stop
      · refine gB hC _ _ _ _ _ _ _ qL_opens_133 rfl ?_
        refine g_icmp_ne hC 148 dL_opens_141 rfl (by first | omega | exact cmpZ_in _ _ | exact bI_in _) (by first | omega | exact cmpZ_in _ _ | exact bI_in _) (fun c141 => ?_) (fun c141 => ?_)
        · exact absurd rfl c141 --stop
        · refine gB hC _ _ _ _ _ _ _ qL_opens_144 rfl ?_
          refine g_zreturn hC dL_opens_149 hr ?_ (gAct_mk (LI_mono (hLIe) (by omega)) hx119 hL119 hW119) gs_rfl ⟨Nat.le_of_ble_eq_true rfl, Nat.le_of_ble_eq_true rfl⟩
          exact Or.inr rfl
  · refine gB hC _ _ _ _ _ _ _ qL_opens_35 rfl ?_
    refine g_getr hC dL_opens_36 fL_29 hL29.sL (by decide) rfl 7 rfl hL29.p7 ?_
    refine gB hC _ _ _ _ _ _ _ qL_opens_39 rfl ?_
    refine g_getr hC dL_opens_41 fL_52 hL29.sL (by decide) rfl 1 rfl hL29.p1 ?_
    refine gB hC _ _ _ _ _ _ _ qL_opens_44 rfl ?_
    refine g_dice hC dL_opens_45 mL_147 vX12_next (kX12_next hL29.sD (by omega) (by omega)) rfl hL29.sD (by decide) rfl (Nat.le_of_ble_eq_true rfl) (RR rfl rfl rfl rfl) (fun zd45 y45 s45 V45 l45 u45 e45 => ?_)
    have hL45 := LB_dc (by omega) hL29 e45
    have hW45 := LW_dc (by omega) hL29 e45 hW29
    have hx45 := XR_dc (w := w) hx29 hI0 e45
    refine g_ast hC dL_opens_48 hL45.sex (by omega) (by omega) (by decide) (by first | omega | exact cmpZ_in _ _ | exact bI_in _) (fun V48 e48 => ?_)
    have hIe : INV (upN N (31 + y5 * 3 + 2) y45) := InvC_x hI (by omega) (by omega) (by omega) (by omega) hI0
    have hLIe : LI n (upN N (31 + y5 * 3 + 2) y45) := LI_up hLI hIe (by omega)
    have hL48 := LB_ex (by omega) hL45 e48 (by omega) (by omega) (fun s s0 s1 => by have := (hI.2.2.2.1 s s0 s1).1; omega)
    have hW48 : LW q w (upN N (31 + y5 * 3 + 2) y45) V48 := LW_r (r := w + 4) (by omega) hL45 (fun a ha => by rw [e48]; exact up_row _ _ _ ha) (by omega) (by omega) (by omega) (upN_ne (by omega)) (fun j _ _ => upN_ne (by omega)) hW45
    have hx48 := XR_r (w := w) hx45 hI0 hL45 e48 (Or.inr (by omega))
    have hIec := hIe.1
    have hlkin := lk_in hIec
    have hse := hIec.1
    unfold iScal at hse
    refine gB hC _ _ _ _ _ _ _ qL_opens_49 rfl ?_
    refine g_getr hC dL_opens_50 fL_10 hL48.sL (by decide) rfl 0 rfl hL48.p0 ?_
    refine gB hC _ _ _ _ _ _ _ qL_opens_53 rfl ?_
    refine g_getr hC dL_opens_55 fL_29 hL48.sL (by decide) rfl 7 rfl hL48.p7 ?_
    refine gB hC _ _ _ _ _ _ _ qL_opens_58 rfl ?_
    refine g_iald hC dL_opens_59 hL48.sex (show V48 (w + 4) y5 = y45 by rw [e48, up_eq]) (by omega) (by omega) (by decide) (fun i59 => ?_)
    refine g_cV1e hC dL_opens_60 mL_194 vX11_setExtra (xsetExtra hx48 hI0 (by omega) (by omega)) rfl hL48.sX (by decide) rfl (Nat.le_of_ble_eq_true rfl) (RR rfl rfl rfl rfl) (fun z V60 e60 => ?_)
    have hx60 := e60.1
    have hL60 := LB_x (by omega) hL48 e60.2
    have hW60 := LW_x (by omega) hL48 e60.2 hW48
    refine gB hC _ _ _ _ _ _ _ qL_opens_63 rfl ?_
    refine g_cV1e hC dL_opens_64 mL_170 vL_looks (kL_looks hL60 hW60 (hLIe).1 (hLIe).2.1.2.1 (LI.gb (hLIe) (by omega)) (hLIe).2.1.1) rfl hL60.sL (by decide) rfl (Nat.le_of_ble_eq_true rfl) (RR rfl rfl rfl rfl) (fun z V64 e64 => ?_)
    have hL64 := e64.1
    have hW64 := e64.2.1
    have hx64 := XR_q hx60 (lk_inv hIe) hL60 e64.2.2
    have hLI64 := LI_lk (by omega) (hLIe)
    have hJ64 := hLI64.1
    have hJc64 := hJ64.1
    have hsk64 := hJc64.1
    unfold iScal at hsk64
    refine g_icmp_ne hC 74 dL_opens_67 rfl (by first | omega | exact cmpZ_in _ _ | exact bI_in _) (by first | omega | exact cmpZ_in _ _ | exact bI_in _) (fun c67 => ?_) (fun c67 => ?_)
    · exact absurd rfl c67 --stop
    · refine gB hC _ _ _ _ _ _ _ qL_opens_70 rfl ?_
      refine g_zreturn hC dL_opens_75 hr ?_ (gAct_mk (LI_mono hLI64 (by omega)) hx64 hL64 hW64) gs_rfl ⟨Nat.le_of_ble_eq_true rfl, Nat.le_of_ble_eq_true rfl⟩
      exact Or.inr rfl
