/-! the law: a group let go (rows laid by wip/p47/l7.py) -/
theorem LI_lg {n g : Int} {N : gN0} (h : LI n N) : ∀ t : Nat, (t : Int) ≤ N 5 → LI n (lgS N g t).1 := by
  intro t
  induction t with
  | zero => intro _; exact h
  | succ t ih =>
    intro ht
    have hi := lgS_inv (g := g) h.1 (t + 1) (by omega)
    have h1 := ih (by omega)
    have h5 := (lgS_inv (g := g) h.1 t (by omega)).2.1
    unfold lgS at hi ⊢
    split
    · rename_i hc
      rw [if_pos hc] at hi
      refine LI_T (s := (t : Int)) h1 hi.1 (fun j hj _ => upN_ne (by omega)) (by omega) (by omega) ⟨?_, fun h0 => ?_⟩
      · rw [sF_st (by decide)]; exact (h1.2.2.1 t (by omega) (by omega)).1
      · have : sF (upN (lgS N g t).1 (56 + (t : Int) * 24 + 0) 2) t 0 = 2 := upN_eq _ _ _
        rw [this] at h0
        exact absurd h0 (by decide)
    · exact h1

theorem kL_letsGo {E l Sh V z} {q w n : Int} {N : gN0} {P9 : Int → gN0} {c9 : Int} (hLI : LI n N) (hn : 0 ≤ n ∧ n ≤ 40) (hx : XR (q + 2) N P9 c9 Sh V) (hL : LB q w N Sh V) (hW : LW q w N V) : gM E l yL_letsGo (.code yL_letsGo cL_letsGo 4 (some .boolean)) (rmk 24 400 4000 900) [(2, q)] Sh V z (gAct q w (n + 1)) := by
  refine gM_at (L0 := [(2, q), (9, 0), (9, 0), (9, 0)]) rfl rfl rfl ?_
  intro p e s m args below meth c hC hr hex hnm hz
  have hI0 := hLI.1
  have hI := hI0.1
  have hsc := hI.1
  unfold iScal at hsc
  have hqw := hL.a0
  have hl1 := hLI.2.1
  have hgb := LI.gb hLI (by omega)
  refine gB hC _ _ _ _ _ _ _ qL_letsGo_0 rfl ?_
  refine g_getiv hC dL_letsGo_1 fL_163 hL.sL (by decide) rfl 18 rfl hL.v18 (fun i1 => ?_)
  refine g_if_ne hC 9 dL_letsGo_4 rfl (by first | omega | exact cmpZ_in _ _ | exact bI_in _) (fun c4 => ?_) (fun c4 => ?_)
  · refine gB hC _ _ _ _ _ _ _ qL_letsGo_9 rfl ?_
    refine g_getr hC dL_letsGo_10 fL_52 hL.sL (by decide) rfl 1 rfl hL.p1 ?_
    refine gB hC _ _ _ _ _ _ _ qL_letsGo_13 rfl ?_
    refine g_getiv hC dL_letsGo_14 fL_163 hL.sL (by decide) rfl 18 rfl hL.v18 (fun i14 => ?_)
    refine g_dice hC dL_letsGo_17 mL_147 vX12_next (kX12_next hL.sD (by omega) (by omega)) rfl hL.sD (by decide) rfl (Nat.le_of_ble_eq_true rfl) (RR rfl rfl rfl rfl) (fun zd17 y17 s17 V17 l17 u17 e17 => ?_)
    have hL17 := LB_dc (by omega) hL e17
    have hW17 := LW_dc (by omega) hL e17 hW
    have hx17 := XR_dc (w := w) hx hI0 e17
    refine gB hC _ _ _ _ _ _ _ qL_letsGo_20 rfl ?_
    refine g_loop (fun x : gV × Int × Nat => LB q w (lgS N y17 x.2.2).1 Sh x.1 ∧ LW q w (lgS N y17 x.2.2).1 x.1 ∧ XR (q + 2) N P9 c9 Sh x.1 ∧ x.2.1 = (lgS N y17 x.2.2).2 ∧ (x.2.2 : Int) ≤ N 5) (fun x => (N 5 - x.2.2).toNat) 25 (fun x => [(2, q), (0, y17), (0, x.2.1), (0, (x.2.2 : Int))]) (fun x => x.1) (V17, 0, 0) ⟨hL17, hW17, hx17, rfl, by show (0 : Int) ≤ N 5; omega⟩ ?_
    rintro ⟨V1, many, t⟩ z ⟨hL1, hW1, hx1, hmany, ht⟩ ih
    dsimp only at hL1 hW1 hx1 hmany ht ih ⊢
    have hLI1 := LI_lg (g := y17) hLI t ht
    have hM1c := hLI1.1.1
    have hlg := lgS_inv (g := y17) hI0 t ht
    have hsm := hM1c.1
    unfold iScal at hsm
    refine gB hC _ _ _ _ _ _ _ qL_letsGo_25 rfl ?_
    refine g_getiv hC dL_letsGo_27 fL_56 hL1.sL (by decide) rfl 17 rfl hL1.v17 (fun i27 => ?_)
    refine g_icmp_ge hC 78 dL_letsGo_30 rfl (by first | omega | exact cmpZ_in _ _ | exact bI_in _) (by first | omega | exact cmpZ_in _ _ | exact bI_in _) (fun c30 => ?_) (fun c30 => ?_)
    · obtain rfl : t = (N 5).toNat := by omega
      refine gB hC _ _ _ _ _ _ _ qL_letsGo_78 rfl ?_
      refine g_cV1e hC dL_letsGo_79 mL_170 vL_looks (kL_looks hL1 hW1 (hLI1).1 (hLI1).2.1.2.1 (LI.gb (hLI1) (by omega)) (hLI1).2.1.1) rfl hL1.sL (by decide) rfl (Nat.le_of_ble_eq_true rfl) (RR rfl rfl rfl rfl) (fun z V79 e79 => ?_)
      have hL79 := e79.1
      have hW79 := e79.2.1
      have hx79 := XR_q hx1 hI0 hL1 e79.2.2
      have hLI79 := LI_lk (by omega) (hLI1)
      have hJ79 := hLI79.1
      have hJc79 := hJ79.1
      have hsk79 := hJc79.1
      unfold iScal at hsk79
      refine gB hC _ _ _ _ _ _ _ qL_letsGo_82 rfl ?_
      refine g_getr hC dL_letsGo_84 fL_10 hL79.sL (by decide) rfl 0 rfl hL79.p0 ?_
      refine gB hC _ _ _ _ _ _ _ qL_letsGo_87 rfl ?_
      refine g_cV1e hC dL_letsGo_88 mL_173 vX11_letGo (xletGo hx79 hI0 (by omega)) rfl hL79.sX (by decide) rfl (Nat.le_of_ble_eq_true rfl) (RR rfl rfl rfl rfl) (fun z V88 e88 => ?_)
      have hx88 := e88.1
      have hL88 := LB_x (by omega) hL79 e88.2
      have hW88 := LW_x (by omega) hL79 e88.2 hW79
      refine gB hC _ _ _ _ _ _ _ qL_letsGo_91 rfl ?_
      refine g_icmp_ne hC 99 dL_letsGo_92 rfl (by first | omega | exact cmpZ_in _ _ | exact bI_in _) (by first | omega | exact cmpZ_in _ _ | exact bI_in _) (fun c92 => ?_) (fun c92 => ?_)
      · exact absurd hmany.symm c92 --stop
      · refine gB hC _ _ _ _ _ _ _ qL_letsGo_95 rfl ?_
        refine g_zreturn hC dL_letsGo_100 hr ?_ (gAct_mk (LI_mono hLI79 (by omega)) hx88 hL88 hW88) gs_rfl ⟨Nat.le_of_ble_eq_true rfl, Nat.le_of_ble_eq_true rfl⟩
        exact Or.inr rfl
    · refine gB hC _ _ _ _ _ _ _ qL_letsGo_33 rfl ?_
      refine g_getr hC dL_letsGo_34 fL_39 hL1.sL (by decide) rfl 15 rfl hL1.p15 ?_
      refine gB hC _ _ _ _ _ _ _ qL_letsGo_37 rfl ?_
      refine g_aald hC (j := 8) dL_letsGo_38 hL1.ssO (by decide) (hL1.ps (by omega) (by omega)) (by omega) (by omega) (by decide) ?_
      refine gB hC _ _ _ _ _ _ _ qL_letsGo_39 rfl ?_
      refine g_iald hC dL_letsGo_41 (hL1.ssR (by omega) (by omega)) (hL1.t8 (by omega) (by omega)) (by omega) (by omega) (by decide) (fun i41 => ?_)
      refine gB hC _ _ _ _ _ _ _ qL_letsGo_42 rfl ?_
      refine g_icmp_ne hC 72 dL_letsGo_43 rfl (by first | omega | exact cmpZ_in _ _ | exact bI_in _) (by first | omega | exact cmpZ_in _ _ | exact bI_in _) (fun c43 => ?_) (fun c43 => ?_)
      · refine gB hC _ _ _ _ _ _ _ qL_letsGo_72 rfl ?_
        have hq9 : lgS N y17 (t + 1) = lgS N y17 t := by rw [lgS, if_neg (by omega)]
        refine ih (V1, many, t + 1) _ ⟨by rw [hq9]; exact hL1, by rw [hq9]; exact hW1, hx1, by rw [hq9, hmany], by show ((t + 1 : Nat) : Int) ≤ N 5; omega⟩ (by show (N 5 - ((t + 1 : Nat) : Int)).toNat < (N 5 - t).toNat; omega)
      · refine gB hC _ _ _ _ _ _ _ qL_letsGo_46 rfl ?_
        refine g_getr hC dL_letsGo_47 fL_39 hL1.sL (by decide) rfl 15 rfl hL1.p15 ?_
        refine gB hC _ _ _ _ _ _ _ qL_letsGo_50 rfl ?_
        refine g_aald hC (j := 8) dL_letsGo_51 hL1.ssO (by decide) (hL1.ps (by omega) (by omega)) (by omega) (by omega) (by decide) ?_
        refine gB hC _ _ _ _ _ _ _ qL_letsGo_52 rfl ?_
        refine g_iald hC dL_letsGo_53 (hL1.ssR (by omega) (by omega)) (hL1.t0 (by omega) (by omega)) (by omega) (by omega) (by decide) (fun i53 => ?_)
        refine g_if_eq hC 60 dL_letsGo_54 rfl (by first | omega | exact cmpZ_in _ _ | exact bI_in _) (fun c54 => ?_) (fun c54 => ?_)
        · refine gB hC _ _ _ _ _ _ _ qL_letsGo_60 rfl ?_
          refine g_getr hC dL_letsGo_61 fL_39 hL1.sL (by decide) rfl 15 rfl hL1.p15 ?_
          refine gB hC _ _ _ _ _ _ _ qL_letsGo_64 rfl ?_
          refine g_aald hC (j := 8) dL_letsGo_65 hL1.ssO (by decide) (hL1.ps (by omega) (by omega)) (by omega) (by omega) (by decide) ?_
          refine gB hC _ _ _ _ _ _ _ qL_letsGo_66 rfl ?_
          refine g_ast hC dL_letsGo_68 (hL1.ssR (by omega) (by omega)) (by omega) (by omega) (by decide) (by first | omega | exact cmpZ_in _ _ | exact bI_in _) (fun V68 e68 => ?_)
          have hL68 := LB_t0 (by omega) hL1 e68 (by omega) (by omega) (fun s s0 s1 => by have := (hM1c.2.2.2.1 s s0 s1).1; omega)
          have hW68 : LW q w (upN (lgS N y17 t).1 (56 + (t : Int) * 24 + 0) 2) V68 := LW_r (r := w + 9 + t) (by omega) hL1 (fun a ha => by rw [e68]; exact up_row _ _ _ ha) (by omega) (by omega) (by omega) (upN_ne (by omega)) (fun j _ _ => upN_ne (by omega)) hW1
          have hx68 := XR_r (w := w) hx1 hI0 hL1 e68 (Or.inr (by omega))
          refine gB hC _ _ _ _ _ _ _ qL_letsGo_69 rfl ?_
          refine gB hC _ _ _ _ _ _ _ qL_letsGo_72 rfl ?_
          have hq9 : lgS N y17 (t + 1) = (upN (lgS N y17 t).1 (56 + (t : Int) * 24 + 0) 2, (lgS N y17 t).2 + 1) := by rw [lgS, if_pos (by omega)]
          refine ih (V68, many + 1, t + 1) _ ⟨by rw [hq9]; exact hL68, by rw [hq9]; exact hW68, hx68, by rw [hq9, hmany], by show ((t + 1 : Nat) : Int) ≤ N 5; omega⟩ (by show (N 5 - ((t + 1 : Nat) : Int)).toNat < (N 5 - t).toNat; omega)
        · refine gB hC _ _ _ _ _ _ _ qL_letsGo_57 rfl ?_
          refine gB hC _ _ _ _ _ _ _ qL_letsGo_72 rfl ?_
          have hq9 : lgS N y17 (t + 1) = lgS N y17 t := by rw [lgS, if_neg (by omega)]
          refine ih (V1, many, t + 1) _ ⟨by rw [hq9]; exact hL1, by rw [hq9]; exact hW1, hx1, by rw [hq9, hmany], by show ((t + 1 : Nat) : Int) ≤ N 5; omega⟩ (by show (N 5 - ((t + 1 : Nat) : Int)).toNat < (N 5 - t).toNat; omega)
  · refine gB hC _ _ _ _ _ _ _ qL_letsGo_7 rfl ?_
    refine g_zreturn hC dL_letsGo_8 hr ?_ (gAct_mk (LI_mono hLI (by omega)) hx hL hW) gs_rfl ⟨Nat.le_of_ble_eq_true rfl, Nat.le_of_ble_eq_true rfl⟩
    exact Or.inr rfl
