/-! the law: a drawn stay treated (rows laid by wip/p47/l11.py) -/
theorem m88_n {x : Int} (h : m88 x < 0) (hx : x = -1 ∨ 8822 ≤ x) : x = -1 := by
  unfold m88 at h
  split at h
  · assumption
  · omega
theorem m88_p {x : Int} (h : ¬ m88 x < 0) : x ≠ -1 ∧ m88 x = x - 8822 := by
  unfold m88 at h ⊢
  split at h
  · exact absurd h (by decide)
  · rename_i h1
    exact ⟨h1, if_neg h1⟩
def H3P (N : gN0) : Prop := ∀ s, 0 ≤ s → s < N 5 → 0 ≤ sF N s 3 ∧ sF N s 3 ≤ 14
theorem H3P_up {N : gN0} {i x : Int} (h : H3P N) (hi : i ≠ 5) (h3 : ∀ t, 0 ≤ t → i ≠ 56 + t * 24 + 3) : H3P (upN N i x) := fun s s0 s1 => by
  rw [upN_ne (fun q => hi q.symm)] at s1
  have e : sF (upN N i x) s 3 = sF N s 3 := upN_ne (fun q => h3 s s0 q.symm)
  rw [e]
  exact h s s0 s1

theorem kL_treats {E l Sh V z} {q w n : Int} {N : gN0} {P9 : Int → gN0} {c9 : Int} {w0 : Int} (hLI : LI n N) (hn : 0 ≤ n ∧ n ≤ 40) (hx : XR (q + 2) N P9 c9 Sh V) (hL : LB q w N Sh V) (hW : LW q w N V) (h8 : 0 ≤ w0 ∧ w0 ≤ 3) : gM E l yL_treats (.code yL_treats cL_treats 9 (some .boolean)) (rmk 24 400 4000 900) [(2, q), (0, w0)] Sh V z (gAct q w (n + 1)) := by
  refine gM_at (L0 := [(2, q), (0, w0), (9, 0), (9, 0), (9, 0), (9, 0), (9, 0), (9, 0), (9, 0)]) rfl rfl rfl ?_
  intro p e s m args below meth c hC hr hex hnm hz
  have hI0 := hLI.1
  have hI := hI0.1
  have hsc := hI.1
  unfold iScal at hsc
  have hqw := hL.a0
  have hl1 := hLI.2.1
  have hgb := LI.gb hLI (by omega)
  have hphi := Phi_in hI
  have hb9 := hI0.2.1
  unfold bOk at hb9
  have h3N : H3P N := fun s a b => by have := (hI.2.2.2.1 s a b).1; omega
  refine gB hC _ _ _ _ _ _ _ qL_treats_0 rfl ?_
  refine g_getiv hC dL_treats_1 fL_56 hL.sL (by decide) rfl 17 rfl hL.v17 (fun i1 => ?_)
  refine g_if_ne hC 9 dL_treats_4 rfl (by first | omega | exact cmpZ_in _ _ | exact bI_in _) (fun c4 => ?_) (fun c4 => ?_)
  · refine gB hC _ _ _ _ _ _ _ qL_treats_9 rfl ?_
    refine g_getr hC dL_treats_10 fL_52 hL.sL (by decide) rfl 1 rfl hL.p1 ?_
    refine gB hC _ _ _ _ _ _ _ qL_treats_13 rfl ?_
    refine g_getiv hC dL_treats_14 fL_56 hL.sL (by decide) rfl 17 rfl hL.v17 (fun i14 => ?_)
    refine g_dice hC dL_treats_17 mL_147 vX12_next (kX12_next hL.sD (by omega) (by omega)) rfl hL.sD (by decide) rfl (Nat.le_of_ble_eq_true rfl) (RR rfl rfl rfl rfl) (fun zd17 y17 s17 V17 l17 u17 e17 => ?_)
    have hL17 := LB_dc (by omega) hL e17
    have hW17 := LW_dc (by omega) hL e17 hW
    have hx17 := XR_dc (w := w) hx hI0 e17
    have hso := (hI.2.2.2.1 y17 (by omega) (by omega)).1
    have hli := hLI.2.2.1 y17 (by omega) (by omega)
    have hspr := sPr_in (hI.2.2.2.1 y17 (by omega) (by omega))
    have hrfo := rfO_in (hI.2.2.2.1 y17 (by omega) (by omega))
    have hdp : 0 ≤ dpO N y17 ∧ dpO N y17 ≤ 2016000 := by unfold dpO; omega
    refine gB hC _ _ _ _ _ _ _ qL_treats_20 rfl ?_
    refine g_getr hC dL_treats_22 fL_39 hL17.sL (by decide) rfl 15 rfl hL17.p15 ?_
    refine gB hC _ _ _ _ _ _ _ qL_treats_25 rfl ?_
    refine g_aald hC (j := 8) dL_treats_26 hL17.ssO (by decide) (hL17.ps (by omega) (by omega)) (by omega) (by omega) (by decide) ?_
    refine gB hC _ _ _ _ _ _ _ qL_treats_27 rfl ?_
    refine g_if_ne hC 109 dL_treats_29 rfl (by first | omega | exact cmpZ_in _ _ | exact bI_in _) (fun c29 => ?_) (fun c29 => ?_)
    · refine gB hC _ _ _ _ _ _ _ qL_treats_109 rfl ?_
      refine g_icmp_ne hC 269 dL_treats_111 rfl (by first | omega | exact cmpZ_in _ _ | exact bI_in _) (by first | omega | exact cmpZ_in _ _ | exact bI_in _) (fun c111 => ?_) (fun c111 => ?_)
      · refine gB hC _ _ _ _ _ _ _ qL_treats_269 rfl ?_
        refine g_getr hC dL_treats_271 fL_52 hL17.sL (by decide) rfl 1 rfl hL17.p1 ?_
        refine gB hC _ _ _ _ _ _ _ qL_treats_274 rfl ?_
        refine g_dice hC dL_treats_275 mL_147 vX12_next (kX12_next hL17.sD (by omega) (by omega)) rfl hL17.sD (by decide) rfl (Nat.le_of_ble_eq_true rfl) (RR rfl rfl rfl rfl) (fun zd275 y275 s275 V275 l275 u275 e275 => ?_)
        have hL275 := LB_dc (by omega) hL17 e275
        have hW275 := LW_dc (by omega) hL17 e275 hW17
        have hx275 := XR_dc (w := w) hx17 hI0 e275
        refine gB hC _ _ _ _ _ _ _ qL_treats_278 rfl ?_
        refine g_icmp_ne hC 451 dL_treats_283 rfl (by first | omega | exact cmpZ_in _ _ | exact bI_in _) (by first | omega | exact cmpZ_in _ _ | exact bI_in _) (fun c283 => ?_) (fun c283 => ?_)
        · refine gB hC _ _ _ _ _ _ _ qL_treats_451 rfl ?_
          refine g_icmp_ne hC 541 dL_treats_453 rfl (by first | omega | exact cmpZ_in _ _ | exact bI_in _) (by first | omega | exact cmpZ_in _ _ | exact bI_in _) (fun c453 => ?_) (fun c453 => ?_)
          · refine gB hC _ _ _ _ _ _ _ qL_treats_541 rfl ?_
            refine g_zreturn hC dL_treats_542 hr ?_ (gAct_mk (LI_mono hLI (by omega)) hx275 hL275 hW275) gs_rfl ⟨Nat.le_of_ble_eq_true rfl, Nat.le_of_ble_eq_true rfl⟩
            exact Or.inr rfl
          · refine gB hC _ _ _ _ _ _ _ qL_treats_456 rfl ?_
            refine g_cV1 hC dL_treats_458 mL_60 vL_isAlive (kL_isAlive hL275 hI (by omega) (by omega)) rfl hL275.sL (by decide) rfl (Nat.le_of_ble_eq_true rfl) (RR rfl rfl rfl rfl) (fun z => ?_)
            refine g_if_eq hC 541 dL_treats_461 rfl (by first | omega | exact cmpZ_in _ _ | exact bI_in _) (fun c461 => ?_) (fun c461 => ?_)
            · have c461 := bI_0.mp c461
              refine gB hC _ _ _ _ _ _ _ qL_treats_541 rfl ?_
              refine g_zreturn hC dL_treats_542 hr ?_ (gAct_mk (LI_mono hLI (by omega)) hx275 hL275 hW275) gs_rfl ⟨Nat.le_of_ble_eq_true rfl, Nat.le_of_ble_eq_true rfl⟩
              exact Or.inr rfl
            · have c461 := bI_n0.mp c461
              refine gB hC _ _ _ _ _ _ _ qL_treats_464 rfl ?_
              refine g_iald hC dL_treats_466 (hL275.ssR (by omega) (by omega)) (hL275.t3 (by omega) (by omega)) (by omega) (by omega) (by decide) (fun i466 => ?_)
              refine gB hC _ _ _ _ _ _ _ qL_treats_467 rfl ?_
              refine g_icmp_le hC 541 dL_treats_469 rfl (by first | omega | exact cmpZ_in _ _ | exact bI_in _) (by first | omega | exact cmpZ_in _ _ | exact bI_in _) (fun c469 => ?_) (fun c469 => ?_)
              · refine gB hC _ _ _ _ _ _ _ qL_treats_541 rfl ?_
                refine g_zreturn hC dL_treats_542 hr ?_ (gAct_mk (LI_mono hLI (by omega)) hx275 hL275 hW275) gs_rfl ⟨Nat.le_of_ble_eq_true rfl, Nat.le_of_ble_eq_true rfl⟩
                exact Or.inr rfl
              · refine gB hC _ _ _ _ _ _ _ qL_treats_472 rfl ?_
                refine g_cV1i hC dL_treats_474 mL_64 vL_last (kL_last hL275 hI (by omega) (by omega)) rfl hL275.sL (by decide) rfl (Nat.le_of_ble_eq_true rfl) (RR rfl rfl rfl rfl) (fun z i474 => ?_)
                refine gB hC _ _ _ _ _ _ _ qL_treats_477 rfl ?_
                refine g_getiv hC dL_treats_483 fL_114 hL275.sL (by decide) rfl 4 rfl hL275.v4 (fun i483 => ?_)
                refine g_icmp_lt hC 541 dL_treats_486 rfl (by first | omega | exact cmpZ_in _ _ | exact bI_in _) (by first | omega | exact cmpZ_in _ _ | exact bI_in _) (fun c486 => ?_) (fun c486 => ?_)
                · refine gB hC _ _ _ _ _ _ _ qL_treats_541 rfl ?_
                  refine g_zreturn hC dL_treats_542 hr ?_ (gAct_mk (LI_mono hLI (by omega)) hx275 hL275 hW275) gs_rfl ⟨Nat.le_of_ble_eq_true rfl, Nat.le_of_ble_eq_true rfl⟩
                  exact Or.inr rfl
                · refine gB hC _ _ _ _ _ _ _ qL_treats_489 rfl ?_
                  refine g_cV1i hC dL_treats_491 mL_127 vL_price_ (kL_price_ hL275 hI (by omega) (by omega)) rfl hL275.sL (by decide) rfl (Nat.le_of_ble_eq_true rfl) (RR rfl rfl rfl rfl) (fun z i491 => ?_)
                  refine gB hC _ _ _ _ _ _ _ qL_treats_494 rfl ?_
                  refine g_iald hC dL_treats_499 (hL275.ssR (by omega) (by omega)) (hL275.t3 (by omega) (by omega)) (by omega) (by omega) (by decide) (fun i499 => ?_)
                  refine gB hC _ _ _ _ _ _ _ qL_treats_500 rfl ?_
                  refine g_ast hC dL_treats_503 (hL275.ssR (by omega) (by omega)) (by omega) (by omega) (by decide) (by first | omega | exact cmpZ_in _ _ | exact bI_in _) (fun V503 e503 => ?_)
                  have hL503 : LB q w (shN N y17 (1 + y275)) Sh V503 := LB_t3 (by omega) hL275 e503 (by omega) (by omega) (fun i i0 i1 => hL275.tp (by omega) (by omega) i0 (by omega)) h3N
                  have hLIs := LI_sr hLI (s := y17) (m := (1 + y275)) (by omega) (by omega) (by omega) (by omega)
                  have hW503 := LW_T (M := shN N y17 (1 + y275)) (s := y17) (fun j hj _ => upN_ne (by omega)) (by omega) (by omega) (by omega) (LW_k (by omega) hL275 e503 (by omega) hW275)
                  have hx503 := XR_r (w := w) hx275 hI0 hL275 e503 (Or.inr (by omega))
                  have e5s : shN N y17 (1 + y275) 5 = N 5 := upN_ne (by omega)
                  have hIsc := hLIs.1.1
                  have hss := hIsc.1
                  unfold iScal at hss
                  have hsp2 := sPr_in (hIsc.2.2.2.1 y17 (by omega) (by omega))
                  refine gB hC _ _ _ _ _ _ _ qL_treats_504 rfl ?_
                  refine g_cV1i hC dL_treats_508 mL_127 vL_price_ (kL_price_ hL503 hIsc (by omega) (by omega)) rfl hL503.sL (by decide) rfl (Nat.le_of_ble_eq_true rfl) (RR rfl rfl rfl rfl) (fun z i508 => ?_)
                  refine gB hC _ _ _ _ _ _ _ qL_treats_511 rfl ?_
                  refine g_cV1e hC dL_treats_515 mL_170 vL_looks (kL_looks hL503 hW503 (hLIs).1 (hLIs).2.1.2.1 (LI.gb (hLIs) (by omega)) (hLIs).2.1.1) rfl hL503.sL (by decide) rfl (Nat.le_of_ble_eq_true rfl) (RR rfl rfl rfl rfl) (fun z V515 e515 => ?_)
                  have hL515 := e515.1
                  have hW515 := e515.2.1
                  have hx515 := XR_q hx503 hI0 hL503 e515.2.2
                  have hLI515 := LI_lk (by omega) (hLIs)
                  have hJ515 := hLI515.1
                  have hJc515 := hJ515.1
                  have hsk515 := hJc515.1
                  unfold iScal at hsk515
                  refine gB hC _ _ _ _ _ _ _ qL_treats_518 rfl ?_
                  refine g_getr hC dL_treats_521 fL_10 hL515.sL (by decide) rfl 0 rfl hL515.p0 ?_
                  refine gB hC _ _ _ _ _ _ _ qL_treats_524 rfl ?_
                  refine g_cV1e hC dL_treats_527 mL_191 vX11_shorter (xshorter hx515 hI0 (by omega) c461 (by omega) (by omega)) rfl hL515.sX (by decide) rfl (Nat.le_of_ble_eq_true rfl) (RR rfl rfl rfl rfl) (fun z V527 e527 => ?_)
                  have hx527 := e527.1
                  have hL527 := LB_x (by omega) hL515 e527.2
                  have hW527 := LW_x (by omega) hL515 e527.2 hW515
                  refine gB hC _ _ _ _ _ _ _ qL_treats_530 rfl ?_
                  refine g_icmp_ne hC 539 dL_treats_532 rfl (by first | omega | exact cmpZ_in _ _ | exact bI_in _) (by first | omega | exact cmpZ_in _ _ | exact bI_in _) (fun c532 => ?_) (fun c532 => ?_)
                  · exact absurd rfl c532 --stop
                  · refine gB hC _ _ _ _ _ _ _ qL_treats_535 rfl ?_
                    refine g_zreturn hC dL_treats_540 hr ?_ (gAct_mk (LI_mono hLI515 (by omega)) hx527 hL527 hW527) gs_rfl ⟨Nat.le_of_ble_eq_true rfl, Nat.le_of_ble_eq_true rfl⟩
                    exact Or.inr rfl
        · refine gB hC _ _ _ _ _ _ _ qL_treats_286 rfl ?_
          refine g_cV1 hC dL_treats_288 mL_60 vL_isAlive (kL_isAlive hL275 hI (by omega) (by omega)) rfl hL275.sL (by decide) rfl (Nat.le_of_ble_eq_true rfl) (RR rfl rfl rfl rfl) (fun z => ?_)
          refine g_if_eq hC 451 dL_treats_291 rfl (by first | omega | exact cmpZ_in _ _ | exact bI_in _) (fun c291 => ?_) (fun c291 => ?_)
          · have c291 := bI_0.mp c291
            refine gB hC _ _ _ _ _ _ _ qL_treats_451 rfl ?_
            refine g_icmp_ne hC 541 dL_treats_453 rfl (by first | omega | exact cmpZ_in _ _ | exact bI_in _) (by first | omega | exact cmpZ_in _ _ | exact bI_in _) (fun c453 => ?_) (fun c453 => ?_)
            · refine gB hC _ _ _ _ _ _ _ qL_treats_541 rfl ?_
              refine g_zreturn hC dL_treats_542 hr ?_ (gAct_mk (LI_mono hLI (by omega)) hx275 hL275 hW275) gs_rfl ⟨Nat.le_of_ble_eq_true rfl, Nat.le_of_ble_eq_true rfl⟩
              exact Or.inr rfl
            · refine gB hC _ _ _ _ _ _ _ qL_treats_456 rfl ?_
              refine g_cV1 hC dL_treats_458 mL_60 vL_isAlive (kL_isAlive hL275 hI (by omega) (by omega)) rfl hL275.sL (by decide) rfl (Nat.le_of_ble_eq_true rfl) (RR rfl rfl rfl rfl) (fun z => ?_)
              refine g_if_eq hC 541 dL_treats_461 rfl (by first | omega | exact cmpZ_in _ _ | exact bI_in _) (fun c461 => ?_) (fun c461 => ?_)
              · have c461 := bI_0.mp c461
                refine gB hC _ _ _ _ _ _ _ qL_treats_541 rfl ?_
                refine g_zreturn hC dL_treats_542 hr ?_ (gAct_mk (LI_mono hLI (by omega)) hx275 hL275 hW275) gs_rfl ⟨Nat.le_of_ble_eq_true rfl, Nat.le_of_ble_eq_true rfl⟩
                exact Or.inr rfl
              · have c461 := bI_n0.mp c461
                refine gB hC _ _ _ _ _ _ _ qL_treats_464 rfl ?_
                refine g_iald hC dL_treats_466 (hL275.ssR (by omega) (by omega)) (hL275.t3 (by omega) (by omega)) (by omega) (by omega) (by decide) (fun i466 => ?_)
                refine gB hC _ _ _ _ _ _ _ qL_treats_467 rfl ?_
                refine g_icmp_le hC 541 dL_treats_469 rfl (by first | omega | exact cmpZ_in _ _ | exact bI_in _) (by first | omega | exact cmpZ_in _ _ | exact bI_in _) (fun c469 => ?_) (fun c469 => ?_)
                · refine gB hC _ _ _ _ _ _ _ qL_treats_541 rfl ?_
                  refine g_zreturn hC dL_treats_542 hr ?_ (gAct_mk (LI_mono hLI (by omega)) hx275 hL275 hW275) gs_rfl ⟨Nat.le_of_ble_eq_true rfl, Nat.le_of_ble_eq_true rfl⟩
                  exact Or.inr rfl
                · refine gB hC _ _ _ _ _ _ _ qL_treats_472 rfl ?_
                  refine g_cV1i hC dL_treats_474 mL_64 vL_last (kL_last hL275 hI (by omega) (by omega)) rfl hL275.sL (by decide) rfl (Nat.le_of_ble_eq_true rfl) (RR rfl rfl rfl rfl) (fun z i474 => ?_)
                  refine gB hC _ _ _ _ _ _ _ qL_treats_477 rfl ?_
                  refine g_getiv hC dL_treats_483 fL_114 hL275.sL (by decide) rfl 4 rfl hL275.v4 (fun i483 => ?_)
                  refine g_icmp_lt hC 541 dL_treats_486 rfl (by first | omega | exact cmpZ_in _ _ | exact bI_in _) (by first | omega | exact cmpZ_in _ _ | exact bI_in _) (fun c486 => ?_) (fun c486 => ?_)
                  · refine gB hC _ _ _ _ _ _ _ qL_treats_541 rfl ?_
                    refine g_zreturn hC dL_treats_542 hr ?_ (gAct_mk (LI_mono hLI (by omega)) hx275 hL275 hW275) gs_rfl ⟨Nat.le_of_ble_eq_true rfl, Nat.le_of_ble_eq_true rfl⟩
                    exact Or.inr rfl
                  · refine gB hC _ _ _ _ _ _ _ qL_treats_489 rfl ?_
                    refine g_cV1i hC dL_treats_491 mL_127 vL_price_ (kL_price_ hL275 hI (by omega) (by omega)) rfl hL275.sL (by decide) rfl (Nat.le_of_ble_eq_true rfl) (RR rfl rfl rfl rfl) (fun z i491 => ?_)
                    refine gB hC _ _ _ _ _ _ _ qL_treats_494 rfl ?_
                    refine g_iald hC dL_treats_499 (hL275.ssR (by omega) (by omega)) (hL275.t3 (by omega) (by omega)) (by omega) (by omega) (by decide) (fun i499 => ?_)
                    refine gB hC _ _ _ _ _ _ _ qL_treats_500 rfl ?_
                    refine g_ast hC dL_treats_503 (hL275.ssR (by omega) (by omega)) (by omega) (by omega) (by decide) (by first | omega | exact cmpZ_in _ _ | exact bI_in _) (fun V503 e503 => ?_)
                    have hL503 : LB q w (shN N y17 (1 + y275)) Sh V503 := LB_t3 (by omega) hL275 e503 (by omega) (by omega) (fun i i0 i1 => hL275.tp (by omega) (by omega) i0 (by omega)) h3N
                    have hLIs := LI_sr hLI (s := y17) (m := (1 + y275)) (by omega) (by omega) (by omega) (by omega)
                    have hW503 := LW_T (M := shN N y17 (1 + y275)) (s := y17) (fun j hj _ => upN_ne (by omega)) (by omega) (by omega) (by omega) (LW_k (by omega) hL275 e503 (by omega) hW275)
                    have hx503 := XR_r (w := w) hx275 hI0 hL275 e503 (Or.inr (by omega))
                    have e5s : shN N y17 (1 + y275) 5 = N 5 := upN_ne (by omega)
                    have hIsc := hLIs.1.1
                    have hss := hIsc.1
                    unfold iScal at hss
                    have hsp2 := sPr_in (hIsc.2.2.2.1 y17 (by omega) (by omega))
                    refine gB hC _ _ _ _ _ _ _ qL_treats_504 rfl ?_
                    refine g_cV1i hC dL_treats_508 mL_127 vL_price_ (kL_price_ hL503 hIsc (by omega) (by omega)) rfl hL503.sL (by decide) rfl (Nat.le_of_ble_eq_true rfl) (RR rfl rfl rfl rfl) (fun z i508 => ?_)
                    refine gB hC _ _ _ _ _ _ _ qL_treats_511 rfl ?_
                    refine g_cV1e hC dL_treats_515 mL_170 vL_looks (kL_looks hL503 hW503 (hLIs).1 (hLIs).2.1.2.1 (LI.gb (hLIs) (by omega)) (hLIs).2.1.1) rfl hL503.sL (by decide) rfl (Nat.le_of_ble_eq_true rfl) (RR rfl rfl rfl rfl) (fun z V515 e515 => ?_)
                    have hL515 := e515.1
                    have hW515 := e515.2.1
                    have hx515 := XR_q hx503 hI0 hL503 e515.2.2
                    have hLI515 := LI_lk (by omega) (hLIs)
                    have hJ515 := hLI515.1
                    have hJc515 := hJ515.1
                    have hsk515 := hJc515.1
                    unfold iScal at hsk515
                    refine gB hC _ _ _ _ _ _ _ qL_treats_518 rfl ?_
                    refine g_getr hC dL_treats_521 fL_10 hL515.sL (by decide) rfl 0 rfl hL515.p0 ?_
                    refine gB hC _ _ _ _ _ _ _ qL_treats_524 rfl ?_
                    refine g_cV1e hC dL_treats_527 mL_191 vX11_shorter (xshorter hx515 hI0 (by omega) c461 (by omega) (by omega)) rfl hL515.sX (by decide) rfl (Nat.le_of_ble_eq_true rfl) (RR rfl rfl rfl rfl) (fun z V527 e527 => ?_)
                    have hx527 := e527.1
                    have hL527 := LB_x (by omega) hL515 e527.2
                    have hW527 := LW_x (by omega) hL515 e527.2 hW515
                    refine gB hC _ _ _ _ _ _ _ qL_treats_530 rfl ?_
                    refine g_icmp_ne hC 539 dL_treats_532 rfl (by first | omega | exact cmpZ_in _ _ | exact bI_in _) (by first | omega | exact cmpZ_in _ _ | exact bI_in _) (fun c532 => ?_) (fun c532 => ?_)
                    · exact absurd rfl c532 --stop
                    · refine gB hC _ _ _ _ _ _ _ qL_treats_535 rfl ?_
                      refine g_zreturn hC dL_treats_540 hr ?_ (gAct_mk (LI_mono hLI515 (by omega)) hx527 hL527 hW527) gs_rfl ⟨Nat.le_of_ble_eq_true rfl, Nat.le_of_ble_eq_true rfl⟩
                      exact Or.inr rfl
          · have c291 := bI_n0.mp c291
            refine gB hC _ _ _ _ _ _ _ qL_treats_294 rfl ?_
            refine g_iald hC dL_treats_296 (hL275.ssR (by omega) (by omega)) (hL275.t3 (by omega) (by omega)) (by omega) (by omega) (by decide) (fun i296 => ?_)
            refine gB hC _ _ _ _ _ _ _ qL_treats_297 rfl ?_
            refine g_icmp_gt hC 451 dL_treats_302 rfl (by first | omega | exact cmpZ_in _ _ | exact bI_in _) (by first | omega | exact cmpZ_in _ _ | exact bI_in _) (fun c302 => ?_) (fun c302 => ?_)
            · refine gB hC _ _ _ _ _ _ _ qL_treats_451 rfl ?_
              refine g_icmp_ne hC 541 dL_treats_453 rfl (by first | omega | exact cmpZ_in _ _ | exact bI_in _) (by first | omega | exact cmpZ_in _ _ | exact bI_in _) (fun c453 => ?_) (fun c453 => ?_)
              · refine gB hC _ _ _ _ _ _ _ qL_treats_541 rfl ?_
                refine g_zreturn hC dL_treats_542 hr ?_ (gAct_mk (LI_mono hLI (by omega)) hx275 hL275 hW275) gs_rfl ⟨Nat.le_of_ble_eq_true rfl, Nat.le_of_ble_eq_true rfl⟩
                exact Or.inr rfl
              · refine gB hC _ _ _ _ _ _ _ qL_treats_456 rfl ?_
                refine g_cV1 hC dL_treats_458 mL_60 vL_isAlive (kL_isAlive hL275 hI (by omega) (by omega)) rfl hL275.sL (by decide) rfl (Nat.le_of_ble_eq_true rfl) (RR rfl rfl rfl rfl) (fun z => ?_)
                refine g_if_eq hC 541 dL_treats_461 rfl (by first | omega | exact cmpZ_in _ _ | exact bI_in _) (fun c461 => ?_) (fun c461 => ?_)
                · have c461 := bI_0.mp c461
                  refine gB hC _ _ _ _ _ _ _ qL_treats_541 rfl ?_
                  refine g_zreturn hC dL_treats_542 hr ?_ (gAct_mk (LI_mono hLI (by omega)) hx275 hL275 hW275) gs_rfl ⟨Nat.le_of_ble_eq_true rfl, Nat.le_of_ble_eq_true rfl⟩
                  exact Or.inr rfl
                · have c461 := bI_n0.mp c461
                  refine gB hC _ _ _ _ _ _ _ qL_treats_464 rfl ?_
                  refine g_iald hC dL_treats_466 (hL275.ssR (by omega) (by omega)) (hL275.t3 (by omega) (by omega)) (by omega) (by omega) (by decide) (fun i466 => ?_)
                  refine gB hC _ _ _ _ _ _ _ qL_treats_467 rfl ?_
                  refine g_icmp_le hC 541 dL_treats_469 rfl (by first | omega | exact cmpZ_in _ _ | exact bI_in _) (by first | omega | exact cmpZ_in _ _ | exact bI_in _) (fun c469 => ?_) (fun c469 => ?_)
                  · refine gB hC _ _ _ _ _ _ _ qL_treats_541 rfl ?_
                    refine g_zreturn hC dL_treats_542 hr ?_ (gAct_mk (LI_mono hLI (by omega)) hx275 hL275 hW275) gs_rfl ⟨Nat.le_of_ble_eq_true rfl, Nat.le_of_ble_eq_true rfl⟩
                    exact Or.inr rfl
                  · refine gB hC _ _ _ _ _ _ _ qL_treats_472 rfl ?_
                    refine g_cV1i hC dL_treats_474 mL_64 vL_last (kL_last hL275 hI (by omega) (by omega)) rfl hL275.sL (by decide) rfl (Nat.le_of_ble_eq_true rfl) (RR rfl rfl rfl rfl) (fun z i474 => ?_)
                    refine gB hC _ _ _ _ _ _ _ qL_treats_477 rfl ?_
                    refine g_getiv hC dL_treats_483 fL_114 hL275.sL (by decide) rfl 4 rfl hL275.v4 (fun i483 => ?_)
                    refine g_icmp_lt hC 541 dL_treats_486 rfl (by first | omega | exact cmpZ_in _ _ | exact bI_in _) (by first | omega | exact cmpZ_in _ _ | exact bI_in _) (fun c486 => ?_) (fun c486 => ?_)
                    · refine gB hC _ _ _ _ _ _ _ qL_treats_541 rfl ?_
                      refine g_zreturn hC dL_treats_542 hr ?_ (gAct_mk (LI_mono hLI (by omega)) hx275 hL275 hW275) gs_rfl ⟨Nat.le_of_ble_eq_true rfl, Nat.le_of_ble_eq_true rfl⟩
                      exact Or.inr rfl
                    · refine gB hC _ _ _ _ _ _ _ qL_treats_489 rfl ?_
                      refine g_cV1i hC dL_treats_491 mL_127 vL_price_ (kL_price_ hL275 hI (by omega) (by omega)) rfl hL275.sL (by decide) rfl (Nat.le_of_ble_eq_true rfl) (RR rfl rfl rfl rfl) (fun z i491 => ?_)
                      refine gB hC _ _ _ _ _ _ _ qL_treats_494 rfl ?_
                      refine g_iald hC dL_treats_499 (hL275.ssR (by omega) (by omega)) (hL275.t3 (by omega) (by omega)) (by omega) (by omega) (by decide) (fun i499 => ?_)
                      refine gB hC _ _ _ _ _ _ _ qL_treats_500 rfl ?_
                      refine g_ast hC dL_treats_503 (hL275.ssR (by omega) (by omega)) (by omega) (by omega) (by decide) (by first | omega | exact cmpZ_in _ _ | exact bI_in _) (fun V503 e503 => ?_)
                      have hL503 : LB q w (shN N y17 (1 + y275)) Sh V503 := LB_t3 (by omega) hL275 e503 (by omega) (by omega) (fun i i0 i1 => hL275.tp (by omega) (by omega) i0 (by omega)) h3N
                      have hLIs := LI_sr hLI (s := y17) (m := (1 + y275)) (by omega) (by omega) (by omega) (by omega)
                      have hW503 := LW_T (M := shN N y17 (1 + y275)) (s := y17) (fun j hj _ => upN_ne (by omega)) (by omega) (by omega) (by omega) (LW_k (by omega) hL275 e503 (by omega) hW275)
                      have hx503 := XR_r (w := w) hx275 hI0 hL275 e503 (Or.inr (by omega))
                      have e5s : shN N y17 (1 + y275) 5 = N 5 := upN_ne (by omega)
                      have hIsc := hLIs.1.1
                      have hss := hIsc.1
                      unfold iScal at hss
                      have hsp2 := sPr_in (hIsc.2.2.2.1 y17 (by omega) (by omega))
                      refine gB hC _ _ _ _ _ _ _ qL_treats_504 rfl ?_
                      refine g_cV1i hC dL_treats_508 mL_127 vL_price_ (kL_price_ hL503 hIsc (by omega) (by omega)) rfl hL503.sL (by decide) rfl (Nat.le_of_ble_eq_true rfl) (RR rfl rfl rfl rfl) (fun z i508 => ?_)
                      refine gB hC _ _ _ _ _ _ _ qL_treats_511 rfl ?_
                      refine g_cV1e hC dL_treats_515 mL_170 vL_looks (kL_looks hL503 hW503 (hLIs).1 (hLIs).2.1.2.1 (LI.gb (hLIs) (by omega)) (hLIs).2.1.1) rfl hL503.sL (by decide) rfl (Nat.le_of_ble_eq_true rfl) (RR rfl rfl rfl rfl) (fun z V515 e515 => ?_)
                      have hL515 := e515.1
                      have hW515 := e515.2.1
                      have hx515 := XR_q hx503 hI0 hL503 e515.2.2
                      have hLI515 := LI_lk (by omega) (hLIs)
                      have hJ515 := hLI515.1
                      have hJc515 := hJ515.1
                      have hsk515 := hJc515.1
                      unfold iScal at hsk515
                      refine gB hC _ _ _ _ _ _ _ qL_treats_518 rfl ?_
                      refine g_getr hC dL_treats_521 fL_10 hL515.sL (by decide) rfl 0 rfl hL515.p0 ?_
                      refine gB hC _ _ _ _ _ _ _ qL_treats_524 rfl ?_
                      refine g_cV1e hC dL_treats_527 mL_191 vX11_shorter (xshorter hx515 hI0 (by omega) c461 (by omega) (by omega)) rfl hL515.sX (by decide) rfl (Nat.le_of_ble_eq_true rfl) (RR rfl rfl rfl rfl) (fun z V527 e527 => ?_)
                      have hx527 := e527.1
                      have hL527 := LB_x (by omega) hL515 e527.2
                      have hW527 := LW_x (by omega) hL515 e527.2 hW515
                      refine gB hC _ _ _ _ _ _ _ qL_treats_530 rfl ?_
                      refine g_icmp_ne hC 539 dL_treats_532 rfl (by first | omega | exact cmpZ_in _ _ | exact bI_in _) (by first | omega | exact cmpZ_in _ _ | exact bI_in _) (fun c532 => ?_) (fun c532 => ?_)
                      · exact absurd rfl c532 --stop
                      · refine gB hC _ _ _ _ _ _ _ qL_treats_535 rfl ?_
                        refine g_zreturn hC dL_treats_540 hr ?_ (gAct_mk (LI_mono hLI515 (by omega)) hx527 hL527 hW527) gs_rfl ⟨Nat.le_of_ble_eq_true rfl, Nat.le_of_ble_eq_true rfl⟩
                        exact Or.inr rfl
            · refine gB hC _ _ _ _ _ _ _ qL_treats_305 rfl ?_
              refine g_iald hC dL_treats_308 (hL275.ssR (by omega) (by omega)) (hL275.t1 (by omega) (by omega)) (by omega) (by omega) (by decide) (fun i308 => ?_)
              refine gB hC _ _ _ _ _ _ _ qL_treats_309 rfl ?_
              refine g_cV1i hC dL_treats_311 mL_64 vL_last (kL_last hL275 hI (by omega) (by omega)) rfl hL275.sL (by decide) rfl (Nat.le_of_ble_eq_true rfl) (RR rfl rfl rfl rfl) (fun z i311 => ?_)
              refine gB hC _ _ _ _ _ _ _ qL_treats_314 rfl ?_
              refine g_cV1i hC dL_treats_318 mL_81 vL_full (kL_full hL275 hI (by omega) (by omega) (by omega) (by omega) (by omega)) rfl hL275.sL (by decide) rfl (Nat.le_of_ble_eq_true rfl) (RR rfl rfl rfl rfl) (fun z i318 => ?_)
              rw [show (8822 : Int) + (sF N y17 2 + sF N y17 3 - 1 - 8822 + 1) = (sF N y17 2 + sF N y17 3) by omega] at i318 ⊢
              have hrf : rfs N (sF N y17 1) (sF N y17 2 + sF N y17 3) (1 + y275) = -1 ∨ ((sF N y17 2 + sF N y17 3) ≤ rfs N (sF N y17 1) (sF N y17 2 + sF N y17 3) (1 + y275) ∧ rfs N (sF N y17 1) (sF N y17 2 + sF N y17 3) (1 + y275) < (sF N y17 2 + sF N y17 3) + ((1 + y275).toNat : Int)) := rfsT_in N _ _ _
              refine gB hC _ _ _ _ _ _ _ qL_treats_321 rfl ?_
              refine g_getr hC dL_treats_324 fL_10 hL275.sL (by decide) rfl 0 rfl hL275.p0 ?_
              refine gB hC _ _ _ _ _ _ _ qL_treats_327 rfl ?_
              refine g_cV1e hC dL_treats_330 mL_188 vX11_longer (xlonger hx275 hI0 (by omega) c291 (by omega) (by omega)) rfl hL275.sX (by decide) rfl (Nat.le_of_ble_eq_true rfl) (RR rfl rfl rfl rfl) (fun z V330 e330 => ?_)
              have hx330 := e330.1
              have hL330 := LB_x (by omega) hL275 e330.2
              have hW330 := LW_x (by omega) hL275 e330.2 hW275
              refine gB hC _ _ _ _ _ _ _ qL_treats_333 rfl ?_
              refine g_if_lt hC 363 dL_treats_337 rfl (by first | omega | exact cmpZ_in _ _ | exact bI_in _) (fun c337 => ?_) (fun c337 => ?_)
              · have hr9 := m88_n c337 (by omega)
                rw [if_pos hr9] at hx330
                rw [if_pos hr9]
                have hhd := fun (i : Int) (i0 : 0 ≤ i) (i1 : i < (1 + y275)) => rfsT_had (1 + y275).toNat _ hr9 (by omega) i i0 (by omega)
                have hLIl := LI_lo (m := (1 + y275)) hLI (s := y17) (by omega) (by omega) (by omega) (by omega) (by omega) hhd
                have hIlo : INV (loN N y17 (1 + y275)) ∧ True := ⟨hLIl.1, trivial⟩
                refine gB hC _ _ _ _ _ _ _ qL_treats_363 rfl ?_
                refine g_loop (fun x : gV × Int × Nat => LB q w N Sh x.1 ∧ LW q w N x.1 ∧ XR (q + 2) (loN N y17 (1 + y275)) (kpP P9 c9 N) (min (c9 + 1) 6) Sh x.1 ∧ x.2.1 = snT N (sF N y17 1) (sF N y17 2 + sF N y17 3) x.2.2 ∧ (x.2.2 : Int) ≤ (1 + y275) ∧ ∀ i, 0 ≤ i → i < (x.2.2 : Int) → x.1 (w + 70 + y17) (sF N y17 3 + i) = nPr N (sF N y17 1) ((sF N y17 2 + sF N y17 3) + i)) (fun x => ((1 + y275) - x.2.2).toNat) 369 (fun x => [(2, q), (0, w0), (0, y17), (2, (w + 9 + y17)), (0, (1 + y275)), (0, m88 (rfs N (sF N y17 1) (sF N y17 2 + sF N y17 3) (1 + y275))), (0, snT N (sF N y17 1) (sF N y17 2 + sF N y17 3) (1 + y275).toNat), (0, x.2.1), (0, (x.2.2 : Int))]) (fun x => x.1) (V330, 0, 0) ⟨hL330, hW330, hx330, rfl, by show (0 : Int) ≤ _; omega, fun i i0 i1 => absurd i1 (by show ¬ i < 0; omega)⟩ ?_
                rintro ⟨V1, sum, t⟩ z ⟨hL1, hW1, hx1, hsum, ht, hpr⟩ ih
                dsimp only at hL1 hW1 hx1 hsum ht hpr ih ⊢
                refine gB hC _ _ _ _ _ _ _ qL_treats_369 rfl ?_
                refine g_icmp_ge hC 430 dL_treats_373 rfl (by first | omega | exact cmpZ_in _ _ | exact bI_in _) (by first | omega | exact cmpZ_in _ _ | exact bI_in _) (fun c373 => ?_) (fun c373 => ?_)
                · obtain rfl : t = (1 + y275).toNat := by omega
                  have hsn := snT_in hI (k := sF N y17 1) (first := (sF N y17 2 + sF N y17 3)) (by omega) (by omega) (1 + y275).toNat (fun i a b => hhd i a (by omega))
                  refine gB hC _ _ _ _ _ _ _ qL_treats_430 rfl ?_
                  refine g_iald hC dL_treats_433 (hL1.ssR (by omega) (by omega)) (hL1.t3 (by omega) (by omega)) (by omega) (by omega) (by decide) (fun i433 => ?_)
                  refine gB hC _ _ _ _ _ _ _ qL_treats_434 rfl ?_
                  refine g_ast hC dL_treats_437 (hL1.ssR (by omega) (by omega)) (by omega) (by omega) (by decide) (by first | omega | exact cmpZ_in _ _ | exact bI_in _) (fun V437 e437 => ?_)
                  have hL437 := LB_lo (by omega) hL1 e437 (by omega) (by omega) (by omega) (by omega) (fun i i0 i1 => hpr i i0 (by omega)) h3N
                  have hW437 := LW_T (loN_ag (s := y17) (i := (1 + y275)) (N := N) (by omega) (by omega)) (by omega) (by omega) (by omega) (LW_k (by omega) hL1 e437 (by omega) hW1)
                  have hx437 := XR_r (w := w) hx1 hIlo.1 hL1 e437 (Or.inr (by omega))
                  refine gB hC _ _ _ _ _ _ _ qL_treats_438 rfl ?_
                  refine g_icmp_ne hC 449 dL_treats_442 rfl (by first | omega | exact cmpZ_in _ _ | exact bI_in _) (by first | omega | exact cmpZ_in _ _ | exact bI_in _) (fun c442 => ?_) (fun c442 => ?_)
                  · exact absurd hsum.symm c442 --stop
                  · refine gB hC _ _ _ _ _ _ _ qL_treats_445 rfl ?_
                    refine g_zreturn hC dL_treats_450 hr ?_ (gAct_mk (LI_mono hLIl (by omega)) hx437 hL437 hW437) gs_rfl ⟨Nat.le_of_ble_eq_true rfl, Nat.le_of_ble_eq_true rfl⟩
                    exact Or.inr rfl
                · refine gB hC _ _ _ _ _ _ _ qL_treats_376 rfl ?_
                  refine g_getr hC dL_treats_377 fL_42 hL1.sL (by decide) rfl 16 rfl hL1.p16 ?_
                  refine gB hC _ _ _ _ _ _ _ qL_treats_380 rfl ?_
                  refine g_aald hC (j := 8) dL_treats_381 hL1.spO (by decide) (hL1.pp (by omega) (by omega)) (by omega) (by omega) (by decide) ?_
                  refine gB hC _ _ _ _ _ _ _ qL_treats_382 rfl ?_
                  refine g_iald hC dL_treats_384 (hL1.ssR (by omega) (by omega)) (hL1.t3 (by omega) (by omega)) (by omega) (by omega) (by decide) (fun i384 => ?_)
                  refine gB hC _ _ _ _ _ _ _ qL_treats_385 rfl ?_
                  refine g_iald hC dL_treats_391 (hL1.ssR (by omega) (by omega)) (hL1.t1 (by omega) (by omega)) (by omega) (by omega) (by decide) (fun i391 => ?_)
                  refine gB hC _ _ _ _ _ _ _ qL_treats_392 rfl ?_
                  refine g_cV1i hC dL_treats_394 mL_64 vL_last (kL_last hL1 hI (by omega) (by omega)) rfl hL1.sL (by decide) rfl (Nat.le_of_ble_eq_true rfl) (RR rfl rfl rfl rfl) (fun z i394 => ?_)
                  refine gB hC _ _ _ _ _ _ _ qL_treats_397 rfl ?_
                  refine g_cV1i hC dL_treats_402 mL_99 vL_price (kL_price hL1 hI (by omega) (by omega) (by omega) (by omega) (by omega)) rfl hL1.sL (by decide) rfl (Nat.le_of_ble_eq_true rfl) (RR rfl rfl rfl rfl) (fun z i402 => ?_)
                  rw [show (8822 : Int) + (sF N y17 2 + sF N y17 3 - 1 - 8822 + 1 + (t : Int)) = (sF N y17 2 + sF N y17 3) + (t : Int) by omega] at i402 ⊢
                  refine g_ast hC dL_treats_405 (hL1.spR (by omega) (by omega)) (by omega) (by omega) (by decide) (by first | omega | exact cmpZ_in _ _ | exact bI_in _) (fun V405 e405 => ?_)
                  have hL405 := LB_pr (by omega) hL1 e405 (by omega) (by omega) (Or.inr (by omega))
                  have hW405 := LW_k (by omega) hL1 e405 (by omega) hW1
                  have hx405 := XR_r (w := w) hx1 hIlo.1 hL1 e405 (Or.inr (by omega))
                  refine gB hC _ _ _ _ _ _ _ qL_treats_406 rfl ?_
                  refine g_getr hC dL_treats_409 fL_42 hL405.sL (by decide) rfl 16 rfl hL405.p16 ?_
                  refine gB hC _ _ _ _ _ _ _ qL_treats_412 rfl ?_
                  refine g_aald hC (j := 8) dL_treats_413 hL405.spO (by decide) (hL405.pp (by omega) (by omega)) (by omega) (by omega) (by decide) ?_
                  refine gB hC _ _ _ _ _ _ _ qL_treats_414 rfl ?_
                  refine g_iald hC dL_treats_416 (hL405.ssR (by omega) (by omega)) (hL405.t3 (by omega) (by omega)) (by omega) (by omega) (by decide) (fun i416 => ?_)
                  refine gB hC _ _ _ _ _ _ _ qL_treats_417 rfl ?_
                  refine g_iald hC dL_treats_420 (hL405.spR (by omega) (by omega)) (show V405 (w + 70 + y17) (sF N y17 3 + (t : Int)) = nPr N (sF N y17 1) ((sF N y17 2 + sF N y17 3) + (t : Int)) by rw [e405, up_eq]) (by omega) (by omega) (by decide) (fun i420 => ?_)
                  refine gB hC _ _ _ _ _ _ _ qL_treats_421 rfl ?_
                  refine ih (V405, _, t + 1) _ ⟨hL405, hW405, hx405, by show _ = snT N (sF N y17 1) (sF N y17 2 + sF N y17 3) t + _; rw [hsum], by show ((t + 1 : Nat) : Int) ≤ _; omega, fun i i0 i1 => ?_⟩ (by show ((1 + y275) - ((t + 1 : Nat) : Int)).toNat < ((1 + y275) - (t : Int)).toNat; omega)
                  show V405 (w + 70 + y17) (sF N y17 3 + i) = _
                  by_cases hi : i = t
                  · rw [hi, e405, up_eq]
                  · rw [e405, up_ne _ _ (Or.inr (by omega))]; exact hpr i i0 (by have : i < ((t + 1 : Nat) : Int) := i1; omega)
              · have hr9 := m88_p (by omega : ¬ m88 (rfs N (sF N y17 1) (sF N y17 2 + sF N y17 3) (1 + y275)) < 0)
                rw [if_neg hr9.1] at hx330
                rw [if_neg hr9.1]
                refine gB hC _ _ _ _ _ _ _ qL_treats_340 rfl ?_
                refine g_getr hC dL_treats_342 fL_16 hL330.sL (by decide) rfl 2 rfl hL330.p2 ?_
                refine gB hC _ _ _ _ _ _ _ qL_treats_345 rfl ?_
                refine g_iald hC dL_treats_347 hL330.sdt (hL330.dt (by omega) (by omega)) (by omega) (by omega) (by decide) (fun i347 => ?_)
                refine g_puti hC dL_treats_348 fL_139 hL330.sL (by decide) rfl (fun _ h => by cases h; rfl) 22 rfl (by first | omega | exact cmpZ_in _ _ | exact bI_in _) (fun V348 e348 => ?_)
                have hL348 := LB_rf hI hL330 e348 (show _ = dateZ (rfs N (sF N y17 1) (sF N y17 2 + sF N y17 3) (1 + y275)) by rw [show 8822 + m88 (rfs N (sF N y17 1) (sF N y17 2 + sF N y17 3) (1 + y275)) = rfs N (sF N y17 1) (sF N y17 2 + sF N y17 3) (1 + y275) by omega])
                have hx348 := XR_r (w := w) hx330 (rn_inv hI0 _) hL330 e348 (Or.inl rfl)
                have hW348 : LW q w (upN N 8 (dateZ (rfs N (sF N y17 1) (sF N y17 2 + sF N y17 3) (1 + y275)))) V348 := LW_q (by omega) hL330 e348 (by decide) (upN_ne (by decide)) (fun j _ _ => upN_ne (by omega)) hW330
                refine gB hC _ _ _ _ _ _ _ qL_treats_351 rfl ?_
                refine g_icmp_ne hC 361 dL_treats_354 rfl (by first | omega | exact cmpZ_in _ _ | exact bI_in _) (by first | omega | exact cmpZ_in _ _ | exact bI_in _) (fun c354 => ?_) (fun c354 => ?_)
                · exact absurd rfl c354 --stop
                · refine gB hC _ _ _ _ _ _ _ qL_treats_357 rfl ?_
                  refine g_zreturn hC dL_treats_362 hr ?_ (gAct_mk (LI_mono (LI_up hLI (rn_inv hI0 _) (by omega)) (by omega)) hx348 hL348 hW348) gs_rfl ⟨Nat.le_of_ble_eq_true rfl, Nat.le_of_ble_eq_true rfl⟩
                  exact Or.inr rfl
      · refine gB hC _ _ _ _ _ _ _ qL_treats_114 rfl ?_
        refine g_cV1 hC dL_treats_116 mL_60 vL_isAlive (kL_isAlive hL17 hI (by omega) (by omega)) rfl hL17.sL (by decide) rfl (Nat.le_of_ble_eq_true rfl) (RR rfl rfl rfl rfl) (fun z => ?_)
        refine g_if_eq hC 269 dL_treats_119 rfl (by first | omega | exact cmpZ_in _ _ | exact bI_in _) (fun c119 => ?_) (fun c119 => ?_)
        · have c119 := bI_0.mp c119
          refine gB hC _ _ _ _ _ _ _ qL_treats_269 rfl ?_
          refine g_getr hC dL_treats_271 fL_52 hL17.sL (by decide) rfl 1 rfl hL17.p1 ?_
          refine gB hC _ _ _ _ _ _ _ qL_treats_274 rfl ?_
          refine g_dice hC dL_treats_275 mL_147 vX12_next (kX12_next hL17.sD (by omega) (by omega)) rfl hL17.sD (by decide) rfl (Nat.le_of_ble_eq_true rfl) (RR rfl rfl rfl rfl) (fun zd275 y275 s275 V275 l275 u275 e275 => ?_)
          have hL275 := LB_dc (by omega) hL17 e275
          have hW275 := LW_dc (by omega) hL17 e275 hW17
          have hx275 := XR_dc (w := w) hx17 hI0 e275
          refine gB hC _ _ _ _ _ _ _ qL_treats_278 rfl ?_
          refine g_icmp_ne hC 451 dL_treats_283 rfl (by first | omega | exact cmpZ_in _ _ | exact bI_in _) (by first | omega | exact cmpZ_in _ _ | exact bI_in _) (fun c283 => ?_) (fun c283 => ?_)
          · refine gB hC _ _ _ _ _ _ _ qL_treats_451 rfl ?_
            refine g_icmp_ne hC 541 dL_treats_453 rfl (by first | omega | exact cmpZ_in _ _ | exact bI_in _) (by first | omega | exact cmpZ_in _ _ | exact bI_in _) (fun c453 => ?_) (fun c453 => ?_)
            · refine gB hC _ _ _ _ _ _ _ qL_treats_541 rfl ?_
              refine g_zreturn hC dL_treats_542 hr ?_ (gAct_mk (LI_mono hLI (by omega)) hx275 hL275 hW275) gs_rfl ⟨Nat.le_of_ble_eq_true rfl, Nat.le_of_ble_eq_true rfl⟩
              exact Or.inr rfl
            · exact absurd c453 (by omega) --stop
          · exact absurd c283 (by omega) --stop
        · have c119 := bI_n0.mp c119
          refine gB hC _ _ _ _ _ _ _ qL_treats_122 rfl ?_
          refine g_iald hC dL_treats_124 (hL17.ssR (by omega) (by omega)) (hL17.t2 (by omega) (by omega)) (by omega) (by omega) (by decide) (fun i124 => ?_)
          refine gB hC _ _ _ _ _ _ _ qL_treats_125 rfl ?_
          refine g_getiv hC dL_treats_126 fL_114 hL17.sL (by decide) rfl 4 rfl hL17.v4 (fun i126 => ?_)
          refine g_icmp_le hC 269 dL_treats_129 rfl (by first | omega | exact cmpZ_in _ _ | exact bI_in _) (by first | omega | exact cmpZ_in _ _ | exact bI_in _) (fun c129 => ?_) (fun c129 => ?_)
          · refine gB hC _ _ _ _ _ _ _ qL_treats_269 rfl ?_
            refine g_getr hC dL_treats_271 fL_52 hL17.sL (by decide) rfl 1 rfl hL17.p1 ?_
            refine gB hC _ _ _ _ _ _ _ qL_treats_274 rfl ?_
            refine g_dice hC dL_treats_275 mL_147 vX12_next (kX12_next hL17.sD (by omega) (by omega)) rfl hL17.sD (by decide) rfl (Nat.le_of_ble_eq_true rfl) (RR rfl rfl rfl rfl) (fun zd275 y275 s275 V275 l275 u275 e275 => ?_)
            have hL275 := LB_dc (by omega) hL17 e275
            have hW275 := LW_dc (by omega) hL17 e275 hW17
            have hx275 := XR_dc (w := w) hx17 hI0 e275
            refine gB hC _ _ _ _ _ _ _ qL_treats_278 rfl ?_
            refine g_icmp_ne hC 451 dL_treats_283 rfl (by first | omega | exact cmpZ_in _ _ | exact bI_in _) (by first | omega | exact cmpZ_in _ _ | exact bI_in _) (fun c283 => ?_) (fun c283 => ?_)
            · refine gB hC _ _ _ _ _ _ _ qL_treats_451 rfl ?_
              refine g_icmp_ne hC 541 dL_treats_453 rfl (by first | omega | exact cmpZ_in _ _ | exact bI_in _) (by first | omega | exact cmpZ_in _ _ | exact bI_in _) (fun c453 => ?_) (fun c453 => ?_)
              · refine gB hC _ _ _ _ _ _ _ qL_treats_541 rfl ?_
                refine g_zreturn hC dL_treats_542 hr ?_ (gAct_mk (LI_mono hLI (by omega)) hx275 hL275 hW275) gs_rfl ⟨Nat.le_of_ble_eq_true rfl, Nat.le_of_ble_eq_true rfl⟩
                exact Or.inr rfl
              · exact absurd c453 (by omega) --stop
            · exact absurd c283 (by omega) --stop
          · refine gB hC _ _ _ _ _ _ _ qL_treats_132 rfl ?_
            refine g_iald hC dL_treats_134 (hL17.ssR (by omega) (by omega)) (hL17.t2 (by omega) (by omega)) (by omega) (by omega) (by decide) (fun i134 => ?_)
            refine gB hC _ _ _ _ _ _ _ qL_treats_135 rfl ?_
            refine g_getiv hC dL_treats_136 fL_114 hL17.sL (by decide) rfl 4 rfl hL17.v4 (fun i136 => ?_)
            refine gB hC _ _ _ _ _ _ _ qL_treats_139 rfl ?_
            refine g_iald hC dL_treats_144 (hL17.ssR (by omega) (by omega)) (hL17.t0 (by omega) (by omega)) (by omega) (by omega) (by decide) (fun i144 => ?_)
            refine g_if_eq hC 154 dL_treats_145 rfl (by first | omega | exact cmpZ_in _ _ | exact bI_in _) (fun c145 => ?_) (fun c145 => ?_)
            · refine gB hC _ _ _ _ _ _ _ qL_treats_154 rfl ?_
              refine g_st0 (rfO N y17) (by unfold rfO; first | (rw [if_pos (by omega)]; done) | (rw [if_neg (by omega), if_pos (by omega)]; done) | (rw [if_neg (by omega), if_neg (by omega)]; done)) ?_
              refine gB hC _ _ _ _ _ _ _ qL_treats_180 rfl ?_
              refine g_getr hC dL_treats_183 fL_10 hL17.sL (by decide) rfl 0 rfl hL17.p0 ?_
              refine gB hC _ _ _ _ _ _ _ qL_treats_186 rfl ?_
              refine g_cV1i hC dL_treats_187 mL_182 vX11_refund (kX11_refund0 hx17 hI0 (by omega) (by omega)) rfl hL17.sX (by decide) rfl (Nat.le_of_ble_eq_true rfl) (RR rfl rfl rfl rfl) (fun z i187 => ?_)
              refine gB hC _ _ _ _ _ _ _ qL_treats_190 rfl ?_
              refine g_icmp_eq hC 197 dL_treats_192 rfl (by first | omega | exact cmpZ_in _ _ | exact bI_in _) (by first | omega | exact cmpZ_in _ _ | exact bI_in _) (fun c192 => ?_) (fun c192 => ?_)
              · refine gB hC _ _ _ _ _ _ _ qL_treats_197 rfl ?_
                refine g_getr hC dL_treats_198 fL_48 hL17.sL (by decide) rfl 21 rfl hL17.p21 ?_
                refine gB hC _ _ _ _ _ _ _ qL_treats_201 rfl ?_
                refine g_lald hC dL_treats_203 hL17.sbk (show V17 (w + 151) 1 = N 10 by exact hL17.b (b := 1) (by decide) (by decide)) (by omega) (by omega) (by decide) (fun i203 => ?_)
                refine gB hC _ _ _ _ _ _ _ qL_treats_204 rfl ?_
                refine g_iald hC dL_treats_207 (hL17.ssR (by omega) (by omega)) (hL17.t6 (by omega) (by omega)) (by omega) (by omega) (by decide) (fun i207 => ?_)
                refine g_i2l hC dL_treats_208 (by first | omega | exact cmpZ_in _ _ | exact bI_in _) ?_
                refine gB hC _ _ _ _ _ _ _ qL_treats_209 rfl ?_
                refine g_lst hC dL_treats_210 hL17.sbk (by omega) (by omega) (by decide) (by first | omega | exact cmpZ_in _ _ | exact bI_in _) (fun V210 e210 => ?_)
                have hL210 := LB_bk (by omega) hL17 e210 (by decide) (by decide) (fun s a b => (h3N s a b).1)
                have hW210 := LW_k (by omega) hL17 e210 (by omega) hW17
                have hx210 := XR_r (w := w) hx17 hI0 hL17 e210 (Or.inr (by omega))
                refine gB hC _ _ _ _ _ _ _ qL_treats_211 rfl ?_
                refine g_getr hC dL_treats_212 fL_48 hL210.sL (by decide) rfl 21 rfl hL210.p21 ?_
                refine gB hC _ _ _ _ _ _ _ qL_treats_215 rfl ?_
                refine g_lald hC dL_treats_217 hL210.sbk (show V210 (w + 151) 0 = N 9 by rw [e210, up_ne _ _ (Or.inr (by decide))]; exact hL17.b (b := 0) (by decide) (by decide)) (by omega) (by omega) (by decide) (fun i217 => ?_)
                refine gB hC _ _ _ _ _ _ _ qL_treats_218 rfl ?_
                refine g_i2l hC dL_treats_220 (by first | omega | exact cmpZ_in _ _ | exact bI_in _) ?_
                refine gB hC _ _ _ _ _ _ _ qL_treats_221 rfl ?_
                refine g_lst hC dL_treats_222 hL210.sbk (by omega) (by omega) (by decide) (by first | omega | exact cmpZ_in _ _ | exact bI_in _) (fun V222 e222 => ?_)
                have hL222 := LB_bk (by rw [upN_ne (by omega)]; omega) hL210 e222 (by decide) (by decide) (fun s a b => ((H3P_up h3N (by omega) (by omega)) s a b).1)
                have hW222 := LW_k (by omega) hL210 e222 (by omega) hW210
                have hx222 := XR_r (w := w) hx210 hI0 hL210 e222 (Or.inr (by omega))
                refine gB hC _ _ _ _ _ _ _ qL_treats_223 rfl ?_
                refine g_getr hC dL_treats_224 fL_48 hL222.sL (by decide) rfl 21 rfl hL222.p21 ?_
                refine gB hC _ _ _ _ _ _ _ qL_treats_227 rfl ?_
                refine g_lald hC dL_treats_229 hL222.sbk (show V222 (w + 151) 2 = N 11 by rw [e222, up_ne _ _ (Or.inr (by decide)), e210, up_ne _ _ (Or.inr (by decide))]; exact hL17.b (b := 2) (by decide) (by decide)) (by omega) (by omega) (by decide) (fun i229 => ?_)
                refine gB hC _ _ _ _ _ _ _ qL_treats_230 rfl ?_
                refine g_iald hC dL_treats_233 (hL222.ssR (by omega) (by omega)) (show V222 (w + 9 + y17) 6 = sF N y17 6 by rw [e222, up_row _ _ _ (by omega), e210, up_row _ _ _ (by omega)]; exact hL17.t6 (by omega) (by omega)) (by omega) (by omega) (by decide) (fun i233 => ?_)
                refine gB hC _ _ _ _ _ _ _ qL_treats_234 rfl ?_
                refine g_i2l hC dL_treats_237 (by first | omega | exact cmpZ_in _ _ | exact bI_in _) ?_
                refine gB hC _ _ _ _ _ _ _ qL_treats_238 rfl ?_
                refine g_lst hC dL_treats_239 hL222.sbk (by omega) (by omega) (by decide) (by first | omega | exact cmpZ_in _ _ | exact bI_in _) (fun V239 e239 => ?_)
                have hL239 := LB_bk (by rw [upN_ne (by omega), upN_ne (by omega)]; omega) hL222 e239 (by decide) (by decide) (fun s a b => ((H3P_up (H3P_up h3N (by omega) (by omega)) (by omega) (by omega)) s a b).1)
                have hW239 := LW_k (by omega) hL222 e239 (by omega) hW222
                have hx239 := XR_r (w := w) hx222 hI0 hL222 e239 (Or.inr (by omega))
                refine gB hC _ _ _ _ _ _ _ qL_treats_240 rfl ?_
                refine g_ast hC dL_treats_243 (hL239.ssR (by omega) (by omega)) (by omega) (by omega) (by decide) (by first | omega | exact cmpZ_in _ _ | exact bI_in _) (fun V243 e243 => ?_)
                have hL243 := LB_t0 (by rw [upN_ne (by omega), upN_ne (by omega), upN_ne (by omega)]; omega) hL239 e243 (by omega) (by rw [upN_ne (by omega), upN_ne (by omega), upN_ne (by omega)]; omega) (H3P_up (H3P_up (H3P_up h3N (by omega) (by omega)) (by omega) (by omega)) (by omega) (by omega))
                have hW243 := LW_k (by omega) hL239 e243 (by omega) hW239
                have hx243 := XR_r (w := w) hx239 hI0 hL239 e243 (Or.inr (by omega))
                rw [caN_eq (by omega) c119 hli.2] at hL243
                have hLIc := LI_ca hLI (s := y17) (by omega) (by omega) c119
                have hWc := LW_T (caN_ag (N := N)) (s := y17) (by omega) (by omega) (by omega) hW243
                refine gB hC _ _ _ _ _ _ _ qL_treats_244 rfl ?_
                refine g_cV1e hC dL_treats_245 mL_170 vL_looks (kL_looks hL243 hWc (hLIc).1 (hLIc).2.1.2.1 (LI.gb (hLIc) (by omega)) (hLIc).2.1.1) rfl hL243.sL (by decide) rfl (Nat.le_of_ble_eq_true rfl) (RR rfl rfl rfl rfl) (fun z V245 e245 => ?_)
                have hL245 := e245.1
                have hW245 := e245.2.1
                have hx245 := XR_q hx243 hI0 hL243 e245.2.2
                have hLI245 := LI_lk (by omega) (hLIc)
                have hJ245 := hLI245.1
                have hJc245 := hJ245.1
                have hsk245 := hJc245.1
                unfold iScal at hsk245
                refine gB hC _ _ _ _ _ _ _ qL_treats_248 rfl ?_
                refine g_getr hC dL_treats_251 fL_10 hL245.sL (by decide) rfl 0 rfl hL245.p0 ?_
                refine gB hC _ _ _ _ _ _ _ qL_treats_254 rfl ?_
                refine g_cV1e hC dL_treats_255 mL_185 vX11_cancel (xcancel hx245 hI0 (by omega) c119 (by omega)) rfl hL245.sX (by decide) rfl (Nat.le_of_ble_eq_true rfl) (RR rfl rfl rfl rfl) (fun z V255 e255 => ?_)
                have hx255 := e255.1
                have hL255 := LB_x (by omega) hL245 e255.2
                have hW255 := LW_x (by omega) hL245 e255.2 hW245
                refine gB hC _ _ _ _ _ _ _ qL_treats_258 rfl ?_
                refine g_icmp_ne hC 267 dL_treats_260 rfl (by first | omega | exact cmpZ_in _ _ | exact bI_in _) (by first | omega | exact cmpZ_in _ _ | exact bI_in _) (fun c260 => ?_) (fun c260 => ?_)
                · exact absurd rfl c260 --stop
                · refine gB hC _ _ _ _ _ _ _ qL_treats_263 rfl ?_
                  refine g_zreturn hC dL_treats_268 hr ?_ (gAct_mk (LI_mono hLI245 (by omega)) hx255 hL255 hW255) gs_rfl ⟨Nat.le_of_ble_eq_true rfl, Nat.le_of_ble_eq_true rfl⟩
                  exact Or.inr rfl
              · exact absurd rfl c192 --stop
            · refine gB hC _ _ _ _ _ _ _ qL_treats_148 rfl ?_
              refine g_icmp_ge hC 158 dL_treats_151 rfl (by first | omega | exact cmpZ_in _ _ | exact bI_in _) (by first | omega | exact cmpZ_in _ _ | exact bI_in _) (fun c151 => ?_) (fun c151 => ?_)
              · refine gB hC _ _ _ _ _ _ _ qL_treats_158 rfl ?_
                refine g_icmp_lt hC 172 dL_treats_162 rfl (by first | omega | exact cmpZ_in _ _ | exact bI_in _) (by first | omega | exact cmpZ_in _ _ | exact bI_in _) (fun c162 => ?_) (fun c162 => ?_)
                · refine gB hC _ _ _ _ _ _ _ qL_treats_172 rfl ?_
                  refine g_iald hC dL_treats_175 (hL17.ssR (by omega) (by omega)) (hL17.t6 (by omega) (by omega)) (by omega) (by omega) (by decide) (fun i175 => ?_)
                  refine gB hC _ _ _ _ _ _ _ qL_treats_176 rfl ?_
                  refine g_idiv hC dL_treats_179 (by first | omega | exact cmpZ_in _ _ | exact bI_in _) (by first | omega | exact cmpZ_in _ _ | exact bI_in _) (by omega) (by omega) ?_
                  refine g_st0 (rfO N y17) (by unfold rfO; first | (rw [if_pos (by omega)]; done) | (rw [if_neg (by omega), if_pos (by omega)]; done) | (rw [if_neg (by omega), if_neg (by omega)]; done)) ?_
                  refine gB hC _ _ _ _ _ _ _ qL_treats_180 rfl ?_
                  refine g_getr hC dL_treats_183 fL_10 hL17.sL (by decide) rfl 0 rfl hL17.p0 ?_
                  refine gB hC _ _ _ _ _ _ _ qL_treats_186 rfl ?_
                  refine g_cV1i hC dL_treats_187 mL_182 vX11_refund (kX11_refund0 hx17 hI0 (by omega) (by omega)) rfl hL17.sX (by decide) rfl (Nat.le_of_ble_eq_true rfl) (RR rfl rfl rfl rfl) (fun z i187 => ?_)
                  refine gB hC _ _ _ _ _ _ _ qL_treats_190 rfl ?_
                  refine g_icmp_eq hC 197 dL_treats_192 rfl (by first | omega | exact cmpZ_in _ _ | exact bI_in _) (by first | omega | exact cmpZ_in _ _ | exact bI_in _) (fun c192 => ?_) (fun c192 => ?_)
                  · refine gB hC _ _ _ _ _ _ _ qL_treats_197 rfl ?_
                    refine g_getr hC dL_treats_198 fL_48 hL17.sL (by decide) rfl 21 rfl hL17.p21 ?_
                    refine gB hC _ _ _ _ _ _ _ qL_treats_201 rfl ?_
                    refine g_lald hC dL_treats_203 hL17.sbk (show V17 (w + 151) 1 = N 10 by exact hL17.b (b := 1) (by decide) (by decide)) (by omega) (by omega) (by decide) (fun i203 => ?_)
                    refine gB hC _ _ _ _ _ _ _ qL_treats_204 rfl ?_
                    refine g_iald hC dL_treats_207 (hL17.ssR (by omega) (by omega)) (hL17.t6 (by omega) (by omega)) (by omega) (by omega) (by decide) (fun i207 => ?_)
                    refine g_i2l hC dL_treats_208 (by first | omega | exact cmpZ_in _ _ | exact bI_in _) ?_
                    refine gB hC _ _ _ _ _ _ _ qL_treats_209 rfl ?_
                    refine g_lst hC dL_treats_210 hL17.sbk (by omega) (by omega) (by decide) (by first | omega | exact cmpZ_in _ _ | exact bI_in _) (fun V210 e210 => ?_)
                    have hL210 := LB_bk (by omega) hL17 e210 (by decide) (by decide) (fun s a b => (h3N s a b).1)
                    have hW210 := LW_k (by omega) hL17 e210 (by omega) hW17
                    have hx210 := XR_r (w := w) hx17 hI0 hL17 e210 (Or.inr (by omega))
                    refine gB hC _ _ _ _ _ _ _ qL_treats_211 rfl ?_
                    refine g_getr hC dL_treats_212 fL_48 hL210.sL (by decide) rfl 21 rfl hL210.p21 ?_
                    refine gB hC _ _ _ _ _ _ _ qL_treats_215 rfl ?_
                    refine g_lald hC dL_treats_217 hL210.sbk (show V210 (w + 151) 0 = N 9 by rw [e210, up_ne _ _ (Or.inr (by decide))]; exact hL17.b (b := 0) (by decide) (by decide)) (by omega) (by omega) (by decide) (fun i217 => ?_)
                    refine gB hC _ _ _ _ _ _ _ qL_treats_218 rfl ?_
                    refine g_i2l hC dL_treats_220 (by first | omega | exact cmpZ_in _ _ | exact bI_in _) ?_
                    refine gB hC _ _ _ _ _ _ _ qL_treats_221 rfl ?_
                    refine g_lst hC dL_treats_222 hL210.sbk (by omega) (by omega) (by decide) (by first | omega | exact cmpZ_in _ _ | exact bI_in _) (fun V222 e222 => ?_)
                    have hL222 := LB_bk (by rw [upN_ne (by omega)]; omega) hL210 e222 (by decide) (by decide) (fun s a b => ((H3P_up h3N (by omega) (by omega)) s a b).1)
                    have hW222 := LW_k (by omega) hL210 e222 (by omega) hW210
                    have hx222 := XR_r (w := w) hx210 hI0 hL210 e222 (Or.inr (by omega))
                    refine gB hC _ _ _ _ _ _ _ qL_treats_223 rfl ?_
                    refine g_getr hC dL_treats_224 fL_48 hL222.sL (by decide) rfl 21 rfl hL222.p21 ?_
                    refine gB hC _ _ _ _ _ _ _ qL_treats_227 rfl ?_
                    refine g_lald hC dL_treats_229 hL222.sbk (show V222 (w + 151) 2 = N 11 by rw [e222, up_ne _ _ (Or.inr (by decide)), e210, up_ne _ _ (Or.inr (by decide))]; exact hL17.b (b := 2) (by decide) (by decide)) (by omega) (by omega) (by decide) (fun i229 => ?_)
                    refine gB hC _ _ _ _ _ _ _ qL_treats_230 rfl ?_
                    refine g_iald hC dL_treats_233 (hL222.ssR (by omega) (by omega)) (show V222 (w + 9 + y17) 6 = sF N y17 6 by rw [e222, up_row _ _ _ (by omega), e210, up_row _ _ _ (by omega)]; exact hL17.t6 (by omega) (by omega)) (by omega) (by omega) (by decide) (fun i233 => ?_)
                    refine gB hC _ _ _ _ _ _ _ qL_treats_234 rfl ?_
                    refine g_i2l hC dL_treats_237 (by first | omega | exact cmpZ_in _ _ | exact bI_in _) ?_
                    refine gB hC _ _ _ _ _ _ _ qL_treats_238 rfl ?_
                    refine g_lst hC dL_treats_239 hL222.sbk (by omega) (by omega) (by decide) (by first | omega | exact cmpZ_in _ _ | exact bI_in _) (fun V239 e239 => ?_)
                    have hL239 := LB_bk (by rw [upN_ne (by omega), upN_ne (by omega)]; omega) hL222 e239 (by decide) (by decide) (fun s a b => ((H3P_up (H3P_up h3N (by omega) (by omega)) (by omega) (by omega)) s a b).1)
                    have hW239 := LW_k (by omega) hL222 e239 (by omega) hW222
                    have hx239 := XR_r (w := w) hx222 hI0 hL222 e239 (Or.inr (by omega))
                    refine gB hC _ _ _ _ _ _ _ qL_treats_240 rfl ?_
                    refine g_ast hC dL_treats_243 (hL239.ssR (by omega) (by omega)) (by omega) (by omega) (by decide) (by first | omega | exact cmpZ_in _ _ | exact bI_in _) (fun V243 e243 => ?_)
                    have hL243 := LB_t0 (by rw [upN_ne (by omega), upN_ne (by omega), upN_ne (by omega)]; omega) hL239 e243 (by omega) (by rw [upN_ne (by omega), upN_ne (by omega), upN_ne (by omega)]; omega) (H3P_up (H3P_up (H3P_up h3N (by omega) (by omega)) (by omega) (by omega)) (by omega) (by omega))
                    have hW243 := LW_k (by omega) hL239 e243 (by omega) hW239
                    have hx243 := XR_r (w := w) hx239 hI0 hL239 e243 (Or.inr (by omega))
                    rw [caN_eq (by omega) c119 hli.2] at hL243
                    have hLIc := LI_ca hLI (s := y17) (by omega) (by omega) c119
                    have hWc := LW_T (caN_ag (N := N)) (s := y17) (by omega) (by omega) (by omega) hW243
                    refine gB hC _ _ _ _ _ _ _ qL_treats_244 rfl ?_
                    refine g_cV1e hC dL_treats_245 mL_170 vL_looks (kL_looks hL243 hWc (hLIc).1 (hLIc).2.1.2.1 (LI.gb (hLIc) (by omega)) (hLIc).2.1.1) rfl hL243.sL (by decide) rfl (Nat.le_of_ble_eq_true rfl) (RR rfl rfl rfl rfl) (fun z V245 e245 => ?_)
                    have hL245 := e245.1
                    have hW245 := e245.2.1
                    have hx245 := XR_q hx243 hI0 hL243 e245.2.2
                    have hLI245 := LI_lk (by omega) (hLIc)
                    have hJ245 := hLI245.1
                    have hJc245 := hJ245.1
                    have hsk245 := hJc245.1
                    unfold iScal at hsk245
                    refine gB hC _ _ _ _ _ _ _ qL_treats_248 rfl ?_
                    refine g_getr hC dL_treats_251 fL_10 hL245.sL (by decide) rfl 0 rfl hL245.p0 ?_
                    refine gB hC _ _ _ _ _ _ _ qL_treats_254 rfl ?_
                    refine g_cV1e hC dL_treats_255 mL_185 vX11_cancel (xcancel hx245 hI0 (by omega) c119 (by omega)) rfl hL245.sX (by decide) rfl (Nat.le_of_ble_eq_true rfl) (RR rfl rfl rfl rfl) (fun z V255 e255 => ?_)
                    have hx255 := e255.1
                    have hL255 := LB_x (by omega) hL245 e255.2
                    have hW255 := LW_x (by omega) hL245 e255.2 hW245
                    refine gB hC _ _ _ _ _ _ _ qL_treats_258 rfl ?_
                    refine g_icmp_ne hC 267 dL_treats_260 rfl (by first | omega | exact cmpZ_in _ _ | exact bI_in _) (by first | omega | exact cmpZ_in _ _ | exact bI_in _) (fun c260 => ?_) (fun c260 => ?_)
                    · exact absurd rfl c260 --stop
                    · refine gB hC _ _ _ _ _ _ _ qL_treats_263 rfl ?_
                      refine g_zreturn hC dL_treats_268 hr ?_ (gAct_mk (LI_mono hLI245 (by omega)) hx255 hL255 hW255) gs_rfl ⟨Nat.le_of_ble_eq_true rfl, Nat.le_of_ble_eq_true rfl⟩
                      exact Or.inr rfl
                  · exact absurd rfl c192 --stop
                · refine gB hC _ _ _ _ _ _ _ qL_treats_165 rfl ?_
                  refine g_iald hC dL_treats_168 (hL17.ssR (by omega) (by omega)) (hL17.t6 (by omega) (by omega)) (by omega) (by omega) (by decide) (fun i168 => ?_)
                  refine gB hC _ _ _ _ _ _ _ qL_treats_169 rfl ?_
                  refine g_st0 (rfO N y17) (by unfold rfO; first | (rw [if_pos (by omega)]; done) | (rw [if_neg (by omega), if_pos (by omega)]; done) | (rw [if_neg (by omega), if_neg (by omega)]; done)) ?_
                  refine gB hC _ _ _ _ _ _ _ qL_treats_180 rfl ?_
                  refine g_getr hC dL_treats_183 fL_10 hL17.sL (by decide) rfl 0 rfl hL17.p0 ?_
                  refine gB hC _ _ _ _ _ _ _ qL_treats_186 rfl ?_
                  refine g_cV1i hC dL_treats_187 mL_182 vX11_refund (kX11_refund0 hx17 hI0 (by omega) (by omega)) rfl hL17.sX (by decide) rfl (Nat.le_of_ble_eq_true rfl) (RR rfl rfl rfl rfl) (fun z i187 => ?_)
                  refine gB hC _ _ _ _ _ _ _ qL_treats_190 rfl ?_
                  refine g_icmp_eq hC 197 dL_treats_192 rfl (by first | omega | exact cmpZ_in _ _ | exact bI_in _) (by first | omega | exact cmpZ_in _ _ | exact bI_in _) (fun c192 => ?_) (fun c192 => ?_)
                  · refine gB hC _ _ _ _ _ _ _ qL_treats_197 rfl ?_
                    refine g_getr hC dL_treats_198 fL_48 hL17.sL (by decide) rfl 21 rfl hL17.p21 ?_
                    refine gB hC _ _ _ _ _ _ _ qL_treats_201 rfl ?_
                    refine g_lald hC dL_treats_203 hL17.sbk (show V17 (w + 151) 1 = N 10 by exact hL17.b (b := 1) (by decide) (by decide)) (by omega) (by omega) (by decide) (fun i203 => ?_)
                    refine gB hC _ _ _ _ _ _ _ qL_treats_204 rfl ?_
                    refine g_iald hC dL_treats_207 (hL17.ssR (by omega) (by omega)) (hL17.t6 (by omega) (by omega)) (by omega) (by omega) (by decide) (fun i207 => ?_)
                    refine g_i2l hC dL_treats_208 (by first | omega | exact cmpZ_in _ _ | exact bI_in _) ?_
                    refine gB hC _ _ _ _ _ _ _ qL_treats_209 rfl ?_
                    refine g_lst hC dL_treats_210 hL17.sbk (by omega) (by omega) (by decide) (by first | omega | exact cmpZ_in _ _ | exact bI_in _) (fun V210 e210 => ?_)
                    have hL210 := LB_bk (by omega) hL17 e210 (by decide) (by decide) (fun s a b => (h3N s a b).1)
                    have hW210 := LW_k (by omega) hL17 e210 (by omega) hW17
                    have hx210 := XR_r (w := w) hx17 hI0 hL17 e210 (Or.inr (by omega))
                    refine gB hC _ _ _ _ _ _ _ qL_treats_211 rfl ?_
                    refine g_getr hC dL_treats_212 fL_48 hL210.sL (by decide) rfl 21 rfl hL210.p21 ?_
                    refine gB hC _ _ _ _ _ _ _ qL_treats_215 rfl ?_
                    refine g_lald hC dL_treats_217 hL210.sbk (show V210 (w + 151) 0 = N 9 by rw [e210, up_ne _ _ (Or.inr (by decide))]; exact hL17.b (b := 0) (by decide) (by decide)) (by omega) (by omega) (by decide) (fun i217 => ?_)
                    refine gB hC _ _ _ _ _ _ _ qL_treats_218 rfl ?_
                    refine g_i2l hC dL_treats_220 (by first | omega | exact cmpZ_in _ _ | exact bI_in _) ?_
                    refine gB hC _ _ _ _ _ _ _ qL_treats_221 rfl ?_
                    refine g_lst hC dL_treats_222 hL210.sbk (by omega) (by omega) (by decide) (by first | omega | exact cmpZ_in _ _ | exact bI_in _) (fun V222 e222 => ?_)
                    have hL222 := LB_bk (by rw [upN_ne (by omega)]; omega) hL210 e222 (by decide) (by decide) (fun s a b => ((H3P_up h3N (by omega) (by omega)) s a b).1)
                    have hW222 := LW_k (by omega) hL210 e222 (by omega) hW210
                    have hx222 := XR_r (w := w) hx210 hI0 hL210 e222 (Or.inr (by omega))
                    refine gB hC _ _ _ _ _ _ _ qL_treats_223 rfl ?_
                    refine g_getr hC dL_treats_224 fL_48 hL222.sL (by decide) rfl 21 rfl hL222.p21 ?_
                    refine gB hC _ _ _ _ _ _ _ qL_treats_227 rfl ?_
                    refine g_lald hC dL_treats_229 hL222.sbk (show V222 (w + 151) 2 = N 11 by rw [e222, up_ne _ _ (Or.inr (by decide)), e210, up_ne _ _ (Or.inr (by decide))]; exact hL17.b (b := 2) (by decide) (by decide)) (by omega) (by omega) (by decide) (fun i229 => ?_)
                    refine gB hC _ _ _ _ _ _ _ qL_treats_230 rfl ?_
                    refine g_iald hC dL_treats_233 (hL222.ssR (by omega) (by omega)) (show V222 (w + 9 + y17) 6 = sF N y17 6 by rw [e222, up_row _ _ _ (by omega), e210, up_row _ _ _ (by omega)]; exact hL17.t6 (by omega) (by omega)) (by omega) (by omega) (by decide) (fun i233 => ?_)
                    refine gB hC _ _ _ _ _ _ _ qL_treats_234 rfl ?_
                    refine g_i2l hC dL_treats_237 (by first | omega | exact cmpZ_in _ _ | exact bI_in _) ?_
                    refine gB hC _ _ _ _ _ _ _ qL_treats_238 rfl ?_
                    refine g_lst hC dL_treats_239 hL222.sbk (by omega) (by omega) (by decide) (by first | omega | exact cmpZ_in _ _ | exact bI_in _) (fun V239 e239 => ?_)
                    have hL239 := LB_bk (by rw [upN_ne (by omega), upN_ne (by omega)]; omega) hL222 e239 (by decide) (by decide) (fun s a b => ((H3P_up (H3P_up h3N (by omega) (by omega)) (by omega) (by omega)) s a b).1)
                    have hW239 := LW_k (by omega) hL222 e239 (by omega) hW222
                    have hx239 := XR_r (w := w) hx222 hI0 hL222 e239 (Or.inr (by omega))
                    refine gB hC _ _ _ _ _ _ _ qL_treats_240 rfl ?_
                    refine g_ast hC dL_treats_243 (hL239.ssR (by omega) (by omega)) (by omega) (by omega) (by decide) (by first | omega | exact cmpZ_in _ _ | exact bI_in _) (fun V243 e243 => ?_)
                    have hL243 := LB_t0 (by rw [upN_ne (by omega), upN_ne (by omega), upN_ne (by omega)]; omega) hL239 e243 (by omega) (by rw [upN_ne (by omega), upN_ne (by omega), upN_ne (by omega)]; omega) (H3P_up (H3P_up (H3P_up h3N (by omega) (by omega)) (by omega) (by omega)) (by omega) (by omega))
                    have hW243 := LW_k (by omega) hL239 e243 (by omega) hW239
                    have hx243 := XR_r (w := w) hx239 hI0 hL239 e243 (Or.inr (by omega))
                    rw [caN_eq (by omega) c119 hli.2] at hL243
                    have hLIc := LI_ca hLI (s := y17) (by omega) (by omega) c119
                    have hWc := LW_T (caN_ag (N := N)) (s := y17) (by omega) (by omega) (by omega) hW243
                    refine gB hC _ _ _ _ _ _ _ qL_treats_244 rfl ?_
                    refine g_cV1e hC dL_treats_245 mL_170 vL_looks (kL_looks hL243 hWc (hLIc).1 (hLIc).2.1.2.1 (LI.gb (hLIc) (by omega)) (hLIc).2.1.1) rfl hL243.sL (by decide) rfl (Nat.le_of_ble_eq_true rfl) (RR rfl rfl rfl rfl) (fun z V245 e245 => ?_)
                    have hL245 := e245.1
                    have hW245 := e245.2.1
                    have hx245 := XR_q hx243 hI0 hL243 e245.2.2
                    have hLI245 := LI_lk (by omega) (hLIc)
                    have hJ245 := hLI245.1
                    have hJc245 := hJ245.1
                    have hsk245 := hJc245.1
                    unfold iScal at hsk245
                    refine gB hC _ _ _ _ _ _ _ qL_treats_248 rfl ?_
                    refine g_getr hC dL_treats_251 fL_10 hL245.sL (by decide) rfl 0 rfl hL245.p0 ?_
                    refine gB hC _ _ _ _ _ _ _ qL_treats_254 rfl ?_
                    refine g_cV1e hC dL_treats_255 mL_185 vX11_cancel (xcancel hx245 hI0 (by omega) c119 (by omega)) rfl hL245.sX (by decide) rfl (Nat.le_of_ble_eq_true rfl) (RR rfl rfl rfl rfl) (fun z V255 e255 => ?_)
                    have hx255 := e255.1
                    have hL255 := LB_x (by omega) hL245 e255.2
                    have hW255 := LW_x (by omega) hL245 e255.2 hW245
                    refine gB hC _ _ _ _ _ _ _ qL_treats_258 rfl ?_
                    refine g_icmp_ne hC 267 dL_treats_260 rfl (by first | omega | exact cmpZ_in _ _ | exact bI_in _) (by first | omega | exact cmpZ_in _ _ | exact bI_in _) (fun c260 => ?_) (fun c260 => ?_)
                    · exact absurd rfl c260 --stop
                    · refine gB hC _ _ _ _ _ _ _ qL_treats_263 rfl ?_
                      refine g_zreturn hC dL_treats_268 hr ?_ (gAct_mk (LI_mono hLI245 (by omega)) hx255 hL255 hW255) gs_rfl ⟨Nat.le_of_ble_eq_true rfl, Nat.le_of_ble_eq_true rfl⟩
                      exact Or.inr rfl
                  · exact absurd rfl c192 --stop
              · refine gB hC _ _ _ _ _ _ _ qL_treats_154 rfl ?_
                refine g_st0 (rfO N y17) (by unfold rfO; first | (rw [if_pos (by omega)]; done) | (rw [if_neg (by omega), if_pos (by omega)]; done) | (rw [if_neg (by omega), if_neg (by omega)]; done)) ?_
                refine gB hC _ _ _ _ _ _ _ qL_treats_180 rfl ?_
                refine g_getr hC dL_treats_183 fL_10 hL17.sL (by decide) rfl 0 rfl hL17.p0 ?_
                refine gB hC _ _ _ _ _ _ _ qL_treats_186 rfl ?_
                refine g_cV1i hC dL_treats_187 mL_182 vX11_refund (kX11_refund0 hx17 hI0 (by omega) (by omega)) rfl hL17.sX (by decide) rfl (Nat.le_of_ble_eq_true rfl) (RR rfl rfl rfl rfl) (fun z i187 => ?_)
                refine gB hC _ _ _ _ _ _ _ qL_treats_190 rfl ?_
                refine g_icmp_eq hC 197 dL_treats_192 rfl (by first | omega | exact cmpZ_in _ _ | exact bI_in _) (by first | omega | exact cmpZ_in _ _ | exact bI_in _) (fun c192 => ?_) (fun c192 => ?_)
                · refine gB hC _ _ _ _ _ _ _ qL_treats_197 rfl ?_
                  refine g_getr hC dL_treats_198 fL_48 hL17.sL (by decide) rfl 21 rfl hL17.p21 ?_
                  refine gB hC _ _ _ _ _ _ _ qL_treats_201 rfl ?_
                  refine g_lald hC dL_treats_203 hL17.sbk (show V17 (w + 151) 1 = N 10 by exact hL17.b (b := 1) (by decide) (by decide)) (by omega) (by omega) (by decide) (fun i203 => ?_)
                  refine gB hC _ _ _ _ _ _ _ qL_treats_204 rfl ?_
                  refine g_iald hC dL_treats_207 (hL17.ssR (by omega) (by omega)) (hL17.t6 (by omega) (by omega)) (by omega) (by omega) (by decide) (fun i207 => ?_)
                  refine g_i2l hC dL_treats_208 (by first | omega | exact cmpZ_in _ _ | exact bI_in _) ?_
                  refine gB hC _ _ _ _ _ _ _ qL_treats_209 rfl ?_
                  refine g_lst hC dL_treats_210 hL17.sbk (by omega) (by omega) (by decide) (by first | omega | exact cmpZ_in _ _ | exact bI_in _) (fun V210 e210 => ?_)
                  have hL210 := LB_bk (by omega) hL17 e210 (by decide) (by decide) (fun s a b => (h3N s a b).1)
                  have hW210 := LW_k (by omega) hL17 e210 (by omega) hW17
                  have hx210 := XR_r (w := w) hx17 hI0 hL17 e210 (Or.inr (by omega))
                  refine gB hC _ _ _ _ _ _ _ qL_treats_211 rfl ?_
                  refine g_getr hC dL_treats_212 fL_48 hL210.sL (by decide) rfl 21 rfl hL210.p21 ?_
                  refine gB hC _ _ _ _ _ _ _ qL_treats_215 rfl ?_
                  refine g_lald hC dL_treats_217 hL210.sbk (show V210 (w + 151) 0 = N 9 by rw [e210, up_ne _ _ (Or.inr (by decide))]; exact hL17.b (b := 0) (by decide) (by decide)) (by omega) (by omega) (by decide) (fun i217 => ?_)
                  refine gB hC _ _ _ _ _ _ _ qL_treats_218 rfl ?_
                  refine g_i2l hC dL_treats_220 (by first | omega | exact cmpZ_in _ _ | exact bI_in _) ?_
                  refine gB hC _ _ _ _ _ _ _ qL_treats_221 rfl ?_
                  refine g_lst hC dL_treats_222 hL210.sbk (by omega) (by omega) (by decide) (by first | omega | exact cmpZ_in _ _ | exact bI_in _) (fun V222 e222 => ?_)
                  have hL222 := LB_bk (by rw [upN_ne (by omega)]; omega) hL210 e222 (by decide) (by decide) (fun s a b => ((H3P_up h3N (by omega) (by omega)) s a b).1)
                  have hW222 := LW_k (by omega) hL210 e222 (by omega) hW210
                  have hx222 := XR_r (w := w) hx210 hI0 hL210 e222 (Or.inr (by omega))
                  refine gB hC _ _ _ _ _ _ _ qL_treats_223 rfl ?_
                  refine g_getr hC dL_treats_224 fL_48 hL222.sL (by decide) rfl 21 rfl hL222.p21 ?_
                  refine gB hC _ _ _ _ _ _ _ qL_treats_227 rfl ?_
                  refine g_lald hC dL_treats_229 hL222.sbk (show V222 (w + 151) 2 = N 11 by rw [e222, up_ne _ _ (Or.inr (by decide)), e210, up_ne _ _ (Or.inr (by decide))]; exact hL17.b (b := 2) (by decide) (by decide)) (by omega) (by omega) (by decide) (fun i229 => ?_)
                  refine gB hC _ _ _ _ _ _ _ qL_treats_230 rfl ?_
                  refine g_iald hC dL_treats_233 (hL222.ssR (by omega) (by omega)) (show V222 (w + 9 + y17) 6 = sF N y17 6 by rw [e222, up_row _ _ _ (by omega), e210, up_row _ _ _ (by omega)]; exact hL17.t6 (by omega) (by omega)) (by omega) (by omega) (by decide) (fun i233 => ?_)
                  refine gB hC _ _ _ _ _ _ _ qL_treats_234 rfl ?_
                  refine g_i2l hC dL_treats_237 (by first | omega | exact cmpZ_in _ _ | exact bI_in _) ?_
                  refine gB hC _ _ _ _ _ _ _ qL_treats_238 rfl ?_
                  refine g_lst hC dL_treats_239 hL222.sbk (by omega) (by omega) (by decide) (by first | omega | exact cmpZ_in _ _ | exact bI_in _) (fun V239 e239 => ?_)
                  have hL239 := LB_bk (by rw [upN_ne (by omega), upN_ne (by omega)]; omega) hL222 e239 (by decide) (by decide) (fun s a b => ((H3P_up (H3P_up h3N (by omega) (by omega)) (by omega) (by omega)) s a b).1)
                  have hW239 := LW_k (by omega) hL222 e239 (by omega) hW222
                  have hx239 := XR_r (w := w) hx222 hI0 hL222 e239 (Or.inr (by omega))
                  refine gB hC _ _ _ _ _ _ _ qL_treats_240 rfl ?_
                  refine g_ast hC dL_treats_243 (hL239.ssR (by omega) (by omega)) (by omega) (by omega) (by decide) (by first | omega | exact cmpZ_in _ _ | exact bI_in _) (fun V243 e243 => ?_)
                  have hL243 := LB_t0 (by rw [upN_ne (by omega), upN_ne (by omega), upN_ne (by omega)]; omega) hL239 e243 (by omega) (by rw [upN_ne (by omega), upN_ne (by omega), upN_ne (by omega)]; omega) (H3P_up (H3P_up (H3P_up h3N (by omega) (by omega)) (by omega) (by omega)) (by omega) (by omega))
                  have hW243 := LW_k (by omega) hL239 e243 (by omega) hW239
                  have hx243 := XR_r (w := w) hx239 hI0 hL239 e243 (Or.inr (by omega))
                  rw [caN_eq (by omega) c119 hli.2] at hL243
                  have hLIc := LI_ca hLI (s := y17) (by omega) (by omega) c119
                  have hWc := LW_T (caN_ag (N := N)) (s := y17) (by omega) (by omega) (by omega) hW243
                  refine gB hC _ _ _ _ _ _ _ qL_treats_244 rfl ?_
                  refine g_cV1e hC dL_treats_245 mL_170 vL_looks (kL_looks hL243 hWc (hLIc).1 (hLIc).2.1.2.1 (LI.gb (hLIc) (by omega)) (hLIc).2.1.1) rfl hL243.sL (by decide) rfl (Nat.le_of_ble_eq_true rfl) (RR rfl rfl rfl rfl) (fun z V245 e245 => ?_)
                  have hL245 := e245.1
                  have hW245 := e245.2.1
                  have hx245 := XR_q hx243 hI0 hL243 e245.2.2
                  have hLI245 := LI_lk (by omega) (hLIc)
                  have hJ245 := hLI245.1
                  have hJc245 := hJ245.1
                  have hsk245 := hJc245.1
                  unfold iScal at hsk245
                  refine gB hC _ _ _ _ _ _ _ qL_treats_248 rfl ?_
                  refine g_getr hC dL_treats_251 fL_10 hL245.sL (by decide) rfl 0 rfl hL245.p0 ?_
                  refine gB hC _ _ _ _ _ _ _ qL_treats_254 rfl ?_
                  refine g_cV1e hC dL_treats_255 mL_185 vX11_cancel (xcancel hx245 hI0 (by omega) c119 (by omega)) rfl hL245.sX (by decide) rfl (Nat.le_of_ble_eq_true rfl) (RR rfl rfl rfl rfl) (fun z V255 e255 => ?_)
                  have hx255 := e255.1
                  have hL255 := LB_x (by omega) hL245 e255.2
                  have hW255 := LW_x (by omega) hL245 e255.2 hW245
                  refine gB hC _ _ _ _ _ _ _ qL_treats_258 rfl ?_
                  refine g_icmp_ne hC 267 dL_treats_260 rfl (by first | omega | exact cmpZ_in _ _ | exact bI_in _) (by first | omega | exact cmpZ_in _ _ | exact bI_in _) (fun c260 => ?_) (fun c260 => ?_)
                  · exact absurd rfl c260 --stop
                  · refine gB hC _ _ _ _ _ _ _ qL_treats_263 rfl ?_
                    refine g_zreturn hC dL_treats_268 hr ?_ (gAct_mk (LI_mono hLI245 (by omega)) hx255 hL255 hW255) gs_rfl ⟨Nat.le_of_ble_eq_true rfl, Nat.le_of_ble_eq_true rfl⟩
                    exact Or.inr rfl
                · exact absurd rfl c192 --stop
    · refine gB hC _ _ _ _ _ _ _ qL_treats_32 rfl ?_
      refine g_iald hC dL_treats_34 (hL17.ssR (by omega) (by omega)) (hL17.t0 (by omega) (by omega)) (by omega) (by omega) (by decide) (fun i34 => ?_)
      refine g_if_ne hC 109 dL_treats_35 rfl (by first | omega | exact cmpZ_in _ _ | exact bI_in _) (fun c35 => ?_) (fun c35 => ?_)
      · refine gB hC _ _ _ _ _ _ _ qL_treats_109 rfl ?_
        refine g_icmp_ne hC 269 dL_treats_111 rfl (by first | omega | exact cmpZ_in _ _ | exact bI_in _) (by first | omega | exact cmpZ_in _ _ | exact bI_in _) (fun c111 => ?_) (fun c111 => ?_)
        · refine gB hC _ _ _ _ _ _ _ qL_treats_269 rfl ?_
          refine g_getr hC dL_treats_271 fL_52 hL17.sL (by decide) rfl 1 rfl hL17.p1 ?_
          refine gB hC _ _ _ _ _ _ _ qL_treats_274 rfl ?_
          refine g_dice hC dL_treats_275 mL_147 vX12_next (kX12_next hL17.sD (by omega) (by omega)) rfl hL17.sD (by decide) rfl (Nat.le_of_ble_eq_true rfl) (RR rfl rfl rfl rfl) (fun zd275 y275 s275 V275 l275 u275 e275 => ?_)
          have hL275 := LB_dc (by omega) hL17 e275
          have hW275 := LW_dc (by omega) hL17 e275 hW17
          have hx275 := XR_dc (w := w) hx17 hI0 e275
          refine gB hC _ _ _ _ _ _ _ qL_treats_278 rfl ?_
          refine g_icmp_ne hC 451 dL_treats_283 rfl (by first | omega | exact cmpZ_in _ _ | exact bI_in _) (by first | omega | exact cmpZ_in _ _ | exact bI_in _) (fun c283 => ?_) (fun c283 => ?_)
          · refine gB hC _ _ _ _ _ _ _ qL_treats_451 rfl ?_
            refine g_icmp_ne hC 541 dL_treats_453 rfl (by first | omega | exact cmpZ_in _ _ | exact bI_in _) (by first | omega | exact cmpZ_in _ _ | exact bI_in _) (fun c453 => ?_) (fun c453 => ?_)
            · refine gB hC _ _ _ _ _ _ _ qL_treats_541 rfl ?_
              refine g_zreturn hC dL_treats_542 hr ?_ (gAct_mk (LI_mono hLI (by omega)) hx275 hL275 hW275) gs_rfl ⟨Nat.le_of_ble_eq_true rfl, Nat.le_of_ble_eq_true rfl⟩
              exact Or.inr rfl
            · exact absurd c453 (by omega) --stop
          · exact absurd c283 (by omega) --stop
        · exact absurd c111 (by omega) --stop
      · refine gB hC _ _ _ _ _ _ _ qL_treats_38 rfl ?_
        refine g_cV1i hC dL_treats_43 mL_127 vL_price_ (kL_price_ hL17 hI (by omega) (by omega)) rfl hL17.sL (by decide) rfl (Nat.le_of_ble_eq_true rfl) (RR rfl rfl rfl rfl) (fun z i43 => ?_)
        refine gB hC _ _ _ _ _ _ _ qL_treats_46 rfl ?_
        refine g_idiv hC dL_treats_54 (by first | omega | exact cmpZ_in _ _ | exact bI_in _) (by first | omega | exact cmpZ_in _ _ | exact bI_in _) (by omega) (by omega) ?_
        refine g_ast hC dL_treats_55 (hL17.ssR (by omega) (by omega)) (by omega) (by omega) (by decide) (by first | omega | exact cmpZ_in _ _ | exact bI_in _) (fun V55 e55 => ?_)
        have e55 : V55 = up V17 (w + 9 + y17) 6 (dpO N y17) := e55
        have hL55 := LB_t6 (by omega) hL17 e55 (by omega) (by omega) h3N
        have hW55 := LW_k (by omega) hL17 e55 (by omega) hW17
        have hx55 := XR_r (w := w) hx17 hI0 hL17 e55 (Or.inr (by omega))
        refine gB hC _ _ _ _ _ _ _ qL_treats_56 rfl ?_
        refine g_ast hC dL_treats_59 (hL55.ssR (by omega) (by omega)) (by omega) (by omega) (by decide) (by first | omega | exact cmpZ_in _ _ | exact bI_in _) (fun V59 e59 => ?_)
        have hL59 := LB_t0 (by rw [upN_ne (by omega)]; omega) hL55 e59 (by omega) (by rw [upN_ne (by omega)]; omega) (H3P_up h3N (by omega) (by omega))
        have hW59 := LW_k (by omega) hL55 e59 (by omega) hW55
        have hx59 := XR_r (w := w) hx55 hI0 hL55 e59 (Or.inr (by omega))
        refine gB hC _ _ _ _ _ _ _ qL_treats_60 rfl ?_
        refine g_getr hC dL_treats_61 fL_48 hL59.sL (by decide) rfl 21 rfl hL59.p21 ?_
        refine gB hC _ _ _ _ _ _ _ qL_treats_64 rfl ?_
        refine g_lald hC dL_treats_66 hL59.sbk (show V59 (w + 151) 0 = N 9 by rw [e59, up_row _ _ _ (by omega), e55, up_row _ _ _ (by omega)]; exact hL17.b (b := 0) (by decide) (by decide)) (by omega) (by omega) (by decide) (fun i66 => ?_)
        refine gB hC _ _ _ _ _ _ _ qL_treats_67 rfl ?_
        refine g_iald hC dL_treats_70 (hL59.ssR (by omega) (by omega)) (show V59 (w + 9 + y17) 6 = (dpO N y17) by rw [e59, up_ne _ _ (Or.inr (by decide)), e55, up_eq]) (by omega) (by omega) (by decide) (fun i70 => ?_)
        refine g_i2l hC dL_treats_71 (by first | omega | exact cmpZ_in _ _ | exact bI_in _) ?_
        refine gB hC _ _ _ _ _ _ _ qL_treats_72 rfl ?_
        refine g_lst hC dL_treats_73 hL59.sbk (by omega) (by omega) (by decide) (by first | omega | exact cmpZ_in _ _ | exact bI_in _) (fun V73 e73 => ?_)
        have hL73 := LB_bk (by rw [upN_ne (by omega), upN_ne (by omega)]; omega) hL59 e73 (by decide) (by decide) (fun s a b => ((H3P_up (H3P_up h3N (by omega) (by omega)) (by omega) (by omega)) s a b).1)
        have hW73 := LW_k (by omega) hL59 e73 (by omega) hW59
        have hx73 := XR_r (w := w) hx59 hI0 hL59 e73 (Or.inr (by omega))
        refine gB hC _ _ _ _ _ _ _ qL_treats_74 rfl ?_
        refine g_getr hC dL_treats_75 fL_48 hL73.sL (by decide) rfl 21 rfl hL73.p21 ?_
        refine gB hC _ _ _ _ _ _ _ qL_treats_78 rfl ?_
        refine g_lald hC dL_treats_80 hL73.sbk (show V73 (w + 151) 1 = N 10 by rw [e73, up_ne _ _ (Or.inr (by decide)), e59, up_row _ _ _ (by omega), e55, up_row _ _ _ (by omega)]; exact hL17.b (b := 1) (by decide) (by decide)) (by omega) (by omega) (by decide) (fun i80 => ?_)
        refine gB hC _ _ _ _ _ _ _ qL_treats_81 rfl ?_
        refine g_iald hC dL_treats_84 (hL73.ssR (by omega) (by omega)) (show V73 (w + 9 + y17) 6 = (dpO N y17) by rw [e73, up_row _ _ _ (by omega), e59, up_ne _ _ (Or.inr (by decide)), e55, up_eq]) (by omega) (by omega) (by decide) (fun i84 => ?_)
        refine g_i2l hC dL_treats_85 (by first | omega | exact cmpZ_in _ _ | exact bI_in _) ?_
        refine gB hC _ _ _ _ _ _ _ qL_treats_86 rfl ?_
        refine g_lst hC dL_treats_87 hL73.sbk (by omega) (by omega) (by decide) (by first | omega | exact cmpZ_in _ _ | exact bI_in _) (fun V87 e87 => ?_)
        have hL87 := LB_bk (by rw [upN_ne (by omega), upN_ne (by omega), upN_ne (by omega)]; omega) hL73 e87 (by decide) (by decide) (fun s a b => ((H3P_up (H3P_up (H3P_up h3N (by omega) (by omega)) (by omega) (by omega)) (by omega) (by omega)) s a b).1)
        have hW87 := LW_k (by omega) hL73 e87 (by omega) hW73
        have hx87 := XR_r (w := w) hx73 hI0 hL73 e87 (Or.inr (by omega))
        rw [payN_eq N (by omega)] at hL87
        have hp9 := pay9f N (s := y17) (by omega)
        have hLIp := LI_pay hLI (s := y17) (by omega) (by omega) c35
        have e5p : payN N y17 5 = N 5 := (payN_ag' N).lo (s := y17) (by omega) (by omega)
        have hWp := LW_T (payN_ag' N) (s := y17) (by omega) (by omega) (by omega) hW87
        have hIpc := hLIp.1.1
        have hsp := hIpc.1
        unfold iScal at hsp
        refine gB hC _ _ _ _ _ _ _ qL_treats_88 rfl ?_
        refine g_getr hC dL_treats_89 fL_10 hL87.sL (by decide) rfl 0 rfl hL87.p0 ?_
        refine gB hC _ _ _ _ _ _ _ qL_treats_92 rfl ?_
        refine g_cV1e hC dL_treats_93 mL_179 vX11_pay (xpay hx87 hI0 (by omega) c35) rfl hL87.sX (by decide) rfl (Nat.le_of_ble_eq_true rfl) (RR rfl rfl rfl rfl) (fun z V93 e93 => ?_)
        have hx93 := e93.1
        have hL93 := LB_x (by omega) hL87 e93.2
        have hW93 := LW_x (by omega) hL87 e93.2 hWp
        refine gB hC _ _ _ _ _ _ _ qL_treats_96 rfl ?_
        refine g_iald hC dL_treats_99 (hL93.ssR (by omega) (by omega)) ((hL93.t6 (by omega) (by omega)).trans hp9.1) (by omega) (by omega) (by decide) (fun i99 => ?_)
        refine g_icmp_ne hC 107 dL_treats_100 rfl (by first | omega | exact cmpZ_in _ _ | exact bI_in _) (by first | omega | exact cmpZ_in _ _ | exact bI_in _) (fun c100 => ?_) (fun c100 => ?_)
        · exact absurd rfl c100 --stop
        · refine gB hC _ _ _ _ _ _ _ qL_treats_103 rfl ?_
          refine g_zreturn hC dL_treats_108 hr ?_ (gAct_mk (LI_mono hLIp (by omega)) hx93 hL93 hW93) gs_rfl ⟨Nat.le_of_ble_eq_true rfl, Nat.le_of_ble_eq_true rfl⟩
          exact Or.inr rfl
  · refine gB hC _ _ _ _ _ _ _ qL_treats_7 rfl ?_
    refine g_zreturn hC dL_treats_8 hr ?_ (gAct_mk (LI_mono hLI (by omega)) hx hL hW) gs_rfl ⟨Nat.le_of_ble_eq_true rfl, Nat.le_of_ble_eq_true rfl⟩
    exact Or.inr rfl
