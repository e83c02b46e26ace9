/-! the class: rooms given (rows laid by wip/whole/n75.py) -/
theorem kX5_lowestFree {E l Sh V z} {p9 x9 r9 : Int} (zP : Sh p9 = some (4, 0)) (zL : Sh (p9 + 3) = some (100, 6)) (pL : V p9 4 = p9 + 3) (h0 : 0 ≤ r9) (h1 : r9 ≤ 6) (h2 : inI x9) : gM E l yX5_lowestFree (.code yX5_lowestFree cX5_lowestFree 4 (some .int)) (rmk 0 0 0 0) [(2, p9), (0, x9), (0, r9)] Sh V z (gRi (lfT (V (p9 + 3)) x9 r9.toNat 0) Sh V) := by
  refine gM_at (L0 := [(2, p9), (0, x9), (0, r9), (9, 0)]) rfl rfl rfl ?_
  intro p e s m args below meth c hC hr hex hnm hz
  have hlf := lfT_in (V (p9 + 3)) x9 r9.toNat 0
  refine gB hC _ _ _ _ _ _ _ qX5_lowestFree_0 rfl ?_
  refine g_loop (fun x : Int × Nat => lfT (V (p9 + 3)) x9 r9.toNat 0 = lfT (V (p9 + 3)) x9 x.2 x.1 ∧ x.1 + x.2 = r9 ∧ 0 ≤ x.1) (fun x => x.2) 2 (fun x => [(2, p9), (0, x9), (0, r9), (0, x.1)]) (fun _ => V) (0, r9.toNat) ⟨rfl, by show (0 : Int) + (r9.toNat : Int) = r9; omega, Int.le_refl _⟩ ?_
  rintro ⟨r, q⟩ z ⟨hl, hr9, hr0⟩ ih
  dsimp only at hl hr9 hr0 ih ⊢
  refine gB hC _ _ _ _ _ _ _ qX5_lowestFree_2 rfl ?_
  refine g_icmp_ge hC 31 dX5_lowestFree_4 rfl (by first | omega | exact cmpZ_in _ _ | exact bI_in _) (by first | omega | exact cmpZ_in _ _ | exact bI_in _) (fun c4 => ?_) (fun c4 => ?_)
  · refine gB hC _ _ _ _ _ _ _ qX5_lowestFree_31 rfl ?_
    refine g_ireturn hC dX5_lowestFree_32 hr ⟨?_, rfl, rfl, by omega⟩ gs_rfl ⟨Nat.le_of_ble_eq_true rfl, Nat.le_of_ble_eq_true rfl⟩
    obtain rfl : q = 0 := by omega
    rw [hl]; rfl
  · obtain ⟨q2, rfl⟩ : ∃ q2, q = q2 + 1 := ⟨q - 1, by omega⟩
    rw [lfT] at hl
    refine gB hC _ _ _ _ _ _ _ qX5_lowestFree_7 rfl ?_
    refine g_icmp_ge hC 31 dX5_lowestFree_10 rfl (by first | omega | exact cmpZ_in _ _ | exact bI_in _) (by first | omega | exact cmpZ_in _ _ | exact bI_in _) (fun c10 => ?_) (fun c10 => ?_)
    · exfalso; omega --stop
    · refine gB hC _ _ _ _ _ _ _ qX5_lowestFree_13 rfl ?_
      refine g_getr hC dX5_lowestFree_14 fX5_18 zP (by decide) rfl 4 rfl pL ?_
      refine gB hC _ _ _ _ _ _ _ qX5_lowestFree_17 rfl ?_
      refine g_iaload hC dX5_lowestFree_18 zL (by omega) (by omega) (by decide) (fun i18 => ?_)
      refine gB hC _ _ _ _ _ _ _ qX5_lowestFree_19 rfl ?_
      refine g_icmp_ge hC 25 dX5_lowestFree_20 rfl (by first | omega | exact cmpZ_in _ _ | exact bI_in _) (by first | omega | exact cmpZ_in _ _ | exact bI_in _) (fun c20 => ?_) (fun c20 => ?_)
      · refine gB hC _ _ _ _ _ _ _ qX5_lowestFree_25 rfl ?_
        exact ih (r + 1, q2) _ ⟨by rw [hl, if_neg (by omega)], by show r + 1 + (q2 : Int) = r9; omega, by show 0 ≤ r + 1; omega⟩ (Nat.lt_succ_self _)
      · refine gB hC _ _ _ _ _ _ _ qX5_lowestFree_23 rfl ?_
        refine g_ireturn hC dX5_lowestFree_24 hr ⟨?_, rfl, rfl, by omega⟩ gs_rfl ⟨Nat.le_of_ble_eq_true rfl, Nat.le_of_ble_eq_true rfl⟩
        rw [hl, if_pos (by omega)]

theorem kX5_sort {E l Sh V z} {h9 p9 k9 : Int} {N : gN0} (zP : Sh p9 = some (4, 0)) (zO : Sh (p9 + 1) = some (100, 60)) (pO : V p9 0 = p9 + 1) (hm : RH h9 N Sh V) (hI0 : INV N) (hd9 : h9 + 162 ≤ p9 ∨ p9 + 4 ≤ h9) (hk : inI k9) : gM E l yX5_sort (.code yX5_sort cX5_sort 6 none) (rmk 1 0 0 40) [(2, p9), (2, h9 + 4), (0, k9)] Sh V z (gRe none (fun V' => (∃ m : Nat, V' p9 1 = m ∧ SRT N k9 (V' (p9 + 1)) m (N 5).toNat) ∧ (∀ j, j ≠ 1 → V' p9 j = V p9 j) ∧ ∀ a, a ≠ p9 → a ≠ p9 + 1 → V' a = V a) Sh) := by
  refine gM_at (L0 := [(2, p9), (2, h9 + 4), (0, k9), (9, 0), (9, 0), (9, 0)]) rfl rfl rfl ?_
  intro p e s m args below meth c hC hr hex hnm hz
  have hI := hI0.1
  have hsc := hI.1
  unfold iScal at hsc
  have hz9 := hI0.szO
  refine gB hC _ _ _ _ _ _ _ qX5_sort_0 rfl ?_
  refine g_puti hC dX5_sort_2 fX5_41 zP (by decide) rfl (fun _ h => by cases h; rfl) 1 rfl (by first | omega | exact cmpZ_in _ _ | exact bI_in _) (fun V2 e2 => ?_)
  refine gB hC _ _ _ _ _ _ _ qX5_sort_5 rfl ?_
  refine g_loop (fun x : gV × Nat × Nat × aV × aV => x.1 p9 1 = x.2.2.1 ∧ SRT N k9 (x.1 (p9 + 1)) x.2.2.1 x.2.1 ∧ (∀ j, j ≠ 1 → x.1 p9 j = V p9 j) ∧ (∀ a, a ≠ p9 → a ≠ p9 + 1 → x.1 a = V a) ∧ (x.2.1 : Int) ≤ N 5) (fun x => (N 5 - x.2.1).toNat) 7 (fun x => [(2, p9), (2, h9 + 4), (0, k9), (0, (x.2.1 : Int)), x.2.2.2.1, x.2.2.2.2]) (fun x => x.1) (V2, 0, 0, (9, 0), (9, 0)) ⟨by dsimp only; rw [e2, up_eq]; rfl, SRT_0 _ _ _, fun j hj => by dsimp only; rw [e2, up_ne _ _ (Or.inr hj)], fun a q1 _ => by dsimp only; rw [e2, up_row _ _ _ q1], by show (0 : Int) ≤ N 5; omega⟩ ?_
  rintro ⟨V1, t, m, a4, a5⟩ z ⟨hs1, hsr, hj1, hf1, ht⟩ ih
  dsimp only at hs1 hsr hj1 hf1 ht ih ⊢
  have hm1 : RH h9 N Sh V1 := RH_ag hm hz9 (fun _ _ _ => rfl) (fun a x y => hf1 a (by omega) (by omega))
  have hmt := hsr.2.2.2.2
  refine gB hC _ _ _ _ _ _ _ qX5_sort_7 rfl ?_
  refine g_getiv hC dX5_sort_9 fX5_72 hm.1.sT (by decide) rfl 1 rfl hm1.tS (fun i9 => ?_)
  refine g_icmp_ge hC 125 dX5_sort_12 rfl (by first | omega | exact cmpZ_in _ _ | exact bI_in _) (by first | omega | exact cmpZ_in _ _ | exact bI_in _) (fun c12 => ?_) (fun c12 => ?_)
  · refine g_return hC dX5_sort_125 hr ⟨rfl, rfl, ⟨m, hs1, ?_⟩, hj1, hf1⟩ gs_rfl ⟨Nat.le_of_ble_eq_true rfl, Nat.le_of_ble_eq_true rfl⟩
    have e9 : t = (N 5).toNat := by omega
    rw [← e9]; exact hsr
  · have hso := (hI.2.2.2.1 t (by omega) (by omega)).1
    refine gB hC _ _ _ _ _ _ _ qX5_sort_15 rfl ?_
    refine g_getr hC dX5_sort_16 fX5_45 hm.1.sT (by decide) rfl 0 rfl hm1.2.1.pR ?_
    refine gB hC _ _ _ _ _ _ _ qX5_sort_19 rfl ?_
    refine g_aald hC (j := 6) dX5_sort_20 hm.1.sR (by decide) (hm1.2.1.ps (by omega) (by omega)) (by omega) (by omega) (by decide) ?_
    refine gB hC _ _ _ _ _ _ _ qX5_sort_21 rfl ?_
    refine g_getiv hC dX5_sort_25 fX5_73 (hm.1.ss (by omega) (by omega)) (by decide) rfl 1 rfl (hm1.st (by omega) (by omega)).f1 (fun i25 => ?_)
    refine gB hC _ _ _ _ _ _ _ qX5_sort_28 rfl ?_
    refine g_icmp_ne hC 119 dX5_sort_29 rfl (by first | omega | exact cmpZ_in _ _ | exact bI_in _) (by first | omega | exact cmpZ_in _ _ | exact bI_in _) (fun c29 => ?_) (fun c29 => ?_)
    · refine gB hC _ _ _ _ _ _ _ qX5_sort_119 rfl ?_
      refine ih (V1, t + 1, m, _, _) _ ⟨hs1, SRT_skip hsr (fun q => by unfold alK at q; omega), hj1, hf1, by show ((t + 1 : Nat) : Int) ≤ N 5; omega⟩ (by show (N 5 - ((t + 1 : Nat) : Int)).toNat < (N 5 - t).toNat; omega)
    · refine gB hC _ _ _ _ _ _ _ qX5_sort_32 rfl ?_
      refine g_cV1 hC dX5_sort_34 mX5_76 vX8_isAlive (kX8_isAlive (hm.1.ss (by omega) (by omega)) (hm1.st (by omega) (by omega))) rfl (hm.1.ss (by omega) (by omega)) (by decide) rfl (Nat.le_of_ble_eq_true rfl) (RR rfl rfl rfl rfl) (fun z => ?_)
      refine g_if_ne hC 43 dX5_sort_37 rfl (by first | omega | exact cmpZ_in _ _ | exact bI_in _) (fun c37 => ?_) (fun c37 => ?_)
      · have c37 := bI_n0.mp c37
        refine gB hC _ _ _ _ _ _ _ qX5_sort_43 rfl ?_
        refine g_getiv hC dX5_sort_44 fX5_41 zP (by decide) rfl 1 rfl hs1 (fun i44 => ?_)
        refine gB hC _ _ _ _ _ _ _ qX5_sort_47 rfl ?_
        refine g_loop (fun x : gV × Nat => x.1 = insV V1 (p9 + 1) m (x.2 : Int) ∧ x.2 ≤ m ∧ ∀ j : Int, (x.2 : Int) ≤ j → j < m → sF N t 2 < sF N (V1 (p9 + 1) j) 2) (fun x => x.2) 49 (fun x => [(2, p9), (2, h9 + 4), (0, k9), (0, (t : Int)), (2, h9 + 6 + 2 * (t : Int)), (0, (x.2 : Int))]) (fun x => x.1) (V1, m) ⟨insV_0 V1 (p9 + 1) m, Nat.le_refl _, fun j j0 j1 => by have : (m : Int) ≤ j := j0; omega⟩ ?_
        rintro ⟨V2', pl⟩ z ⟨hV2, hpl, hgt⟩ ih2
        dsimp only at hV2 hpl hgt ih2 ⊢
        subst hV2
        have ei : ∀ a j, (a ≠ p9 + 1 ∨ j ≤ (pl : Int)) → insV V1 (p9 + 1) m pl a j = V1 a j := fun a j hj => by unfold insV; rw [if_neg (by omega)]
        have er : ∀ a, a ≠ p9 + 1 → insV V1 (p9 + 1) m pl a = V1 a := fun a ha => by funext j; exact ei a j (Or.inl ha)
        have hm2 : RH h9 N Sh (insV V1 (p9 + 1) m pl) := RH_ag hm1 hz9 (fun _ _ _ => rfl) (fun a x y => er a (by omega))
        have po2 : insV V1 (p9 + 1) m pl p9 0 = p9 + 1 := by rw [ei p9 0 (Or.inl (by omega)), hj1 0 (by decide)]; exact pO
        have ps2 : insV V1 (p9 + 1) m pl p9 1 = m := by rw [ei p9 1 (Or.inl (by omega))]; exact hs1
        have pv2 : insV V1 (p9 + 1) m pl (p9 + 1) ((pl : Int) - 1) = V1 (p9 + 1) ((pl : Int) - 1) := ei _ _ (Or.inr (by omega))
        refine gB hC _ _ _ _ _ _ _ qX5_sort_49 rfl ?_
        refine g_if_le hC 101 dX5_sort_51 rfl (by first | omega | exact cmpZ_in _ _ | exact bI_in _) (fun c51 => ?_) (fun c51 => ?_)
        · have hex9 : pl = 0 ∨ sF N (V1 (p9 + 1) ((pl : Int) - 1)) 2 ≤ sF N t 2 := by omega
          refine gB hC _ _ _ _ _ _ _ qX5_sort_101 rfl ?_
          refine g_getr hC dX5_sort_102 fX5_9 zP (by decide) rfl 0 rfl po2 ?_
          refine gB hC _ _ _ _ _ _ _ qX5_sort_105 rfl ?_
          refine g_ast hC dX5_sort_108 zO (by omega) (by omega) (by decide) (by first | omega | exact cmpZ_in _ _ | exact bI_in _) (fun V108 e108 => ?_)
          refine gB hC _ _ _ _ _ _ _ qX5_sort_109 rfl ?_
          refine g_getiv hC dX5_sort_111 fX5_41 zP (by decide) rfl 1 rfl ((congrFun (congrFun e108 _) _).trans ((up_ne _ _ (by omega)).trans ps2)) (fun i111 => ?_)
          refine gB hC _ _ _ _ _ _ _ qX5_sort_114 rfl ?_
          refine g_puti hC dX5_sort_116 fX5_41 zP (by decide) rfl (fun _ h => by cases h; rfl) 1 rfl (by first | omega | exact cmpZ_in _ _ | exact bI_in _) (fun V116 e116 => ?_)
          refine gB hC _ _ _ _ _ _ _ qX5_sort_119 rfl ?_
          have ef : ∀ i : Int, V116 (p9 + 1) i = if i = (pl : Int) then (t : Int) else insV V1 (p9 + 1) m pl (p9 + 1) i := fun i => by
            rw [e116, up_ne _ _ (Or.inl (by omega)), e108]
            by_cases hi : i = (pl : Int)
            · rw [if_pos hi, hi, up_eq]
            · rw [if_neg hi, up_ne _ _ (Or.inr hi)]
          have hnew : SRT N k9 (V116 (p9 + 1)) (m + 1) (t + 1) := by
            refine SRT_ins hsr ⟨by omega, by omega⟩ hpl hgt hex9 (fun i i0 i1 => ?_) ?_ (fun i i0 i1 => ?_)
            · rw [ef, if_neg (by omega)]; unfold insV; rw [if_neg (by omega)]
            · rw [ef, if_pos rfl]
            · rw [ef, if_neg (by omega)]; unfold insV; rw [if_pos ⟨rfl, i0, i1⟩]
          refine ih (V116, t + 1, m + 1, _, _) _ ⟨by dsimp only; rw [e116, up_eq]; omega, hnew, fun j hj => ?_, fun a q1 q2 => ?_, by show ((t + 1 : Nat) : Int) ≤ N 5; omega⟩ (by show (N 5 - ((t + 1 : Nat) : Int)).toNat < (N 5 - t).toNat; omega)
          · show V116 p9 j = V p9 j
            rw [e116, up_ne _ _ (Or.inr hj), e108, up_ne _ _ (Or.inl (by omega))]
            unfold insV
            rw [if_neg (by omega)]
            exact hj1 j hj
          · show V116 a = V a
            rw [e116, up_row _ _ _ q1, e108, up_row _ _ _ q2]
            funext j
            unfold insV
            rw [if_neg (fun q => q2 q.1), hf1 a q1 q2]
        · have hfp := hsr.1 ((pl : Int) - 1) (by omega) (by omega)
          have hsp := (hI.2.2.2.1 (V1 (p9 + 1) ((pl : Int) - 1)) hfp.1 (by omega)).1
          refine gB hC _ _ _ _ _ _ _ qX5_sort_54 rfl ?_
          refine g_getr hC dX5_sort_55 fX5_45 hm.1.sT (by decide) rfl 0 rfl hm2.2.1.pR ?_
          refine gB hC _ _ _ _ _ _ _ qX5_sort_58 rfl ?_
          refine g_getr hC dX5_sort_59 fX5_9 zP (by decide) rfl 0 rfl po2 ?_
          refine gB hC _ _ _ _ _ _ _ qX5_sort_62 rfl ?_
          refine g_iald hC dX5_sort_66 zO pv2 (by omega) (by omega) (by decide) (fun i66 => ?_)
          refine g_aald hC (j := 6) dX5_sort_67 hm.1.sR (by decide) (hm2.2.1.ps (by omega) (by omega)) (by omega) (by omega) (by decide) ?_
          refine g_getiv hC dX5_sort_68 fX5_51 (hm.1.ss (by omega) (by omega)) (by decide) rfl 2 rfl (hm2.st (by omega) (by omega)).f2 (fun i68 => ?_)
          refine gB hC _ _ _ _ _ _ _ qX5_sort_71 rfl ?_
          refine g_getiv hC dX5_sort_73 fX5_51 (hm.1.ss (by omega) (by omega)) (by decide) rfl 2 rfl (hm2.st (by omega) (by omega)).f2 (fun i73 => ?_)
          refine g_icmp_le hC 101 dX5_sort_76 rfl (by first | omega | exact cmpZ_in _ _ | exact bI_in _) (by first | omega | exact cmpZ_in _ _ | exact bI_in _) (fun c76 => ?_) (fun c76 => ?_)
          · have hex9 : pl = 0 ∨ sF N (V1 (p9 + 1) ((pl : Int) - 1)) 2 ≤ sF N t 2 := by omega
            refine gB hC _ _ _ _ _ _ _ qX5_sort_101 rfl ?_
            refine g_getr hC dX5_sort_102 fX5_9 zP (by decide) rfl 0 rfl po2 ?_
            refine gB hC _ _ _ _ _ _ _ qX5_sort_105 rfl ?_
            refine g_ast hC dX5_sort_108 zO (by omega) (by omega) (by decide) (by first | omega | exact cmpZ_in _ _ | exact bI_in _) (fun V108 e108 => ?_)
            refine gB hC _ _ _ _ _ _ _ qX5_sort_109 rfl ?_
            refine g_getiv hC dX5_sort_111 fX5_41 zP (by decide) rfl 1 rfl ((congrFun (congrFun e108 _) _).trans ((up_ne _ _ (by omega)).trans ps2)) (fun i111 => ?_)
            refine gB hC _ _ _ _ _ _ _ qX5_sort_114 rfl ?_
            refine g_puti hC dX5_sort_116 fX5_41 zP (by decide) rfl (fun _ h => by cases h; rfl) 1 rfl (by first | omega | exact cmpZ_in _ _ | exact bI_in _) (fun V116 e116 => ?_)
            refine gB hC _ _ _ _ _ _ _ qX5_sort_119 rfl ?_
            have ef : ∀ i : Int, V116 (p9 + 1) i = if i = (pl : Int) then (t : Int) else insV V1 (p9 + 1) m pl (p9 + 1) i := fun i => by
              rw [e116, up_ne _ _ (Or.inl (by omega)), e108]
              by_cases hi : i = (pl : Int)
              · rw [if_pos hi, hi, up_eq]
              · rw [if_neg hi, up_ne _ _ (Or.inr hi)]
            have hnew : SRT N k9 (V116 (p9 + 1)) (m + 1) (t + 1) := by
              refine SRT_ins hsr ⟨by omega, by omega⟩ hpl hgt hex9 (fun i i0 i1 => ?_) ?_ (fun i i0 i1 => ?_)
              · rw [ef, if_neg (by omega)]; unfold insV; rw [if_neg (by omega)]
              · rw [ef, if_pos rfl]
              · rw [ef, if_neg (by omega)]; unfold insV; rw [if_pos ⟨rfl, i0, i1⟩]
            refine ih (V116, t + 1, m + 1, _, _) _ ⟨by dsimp only; rw [e116, up_eq]; omega, hnew, fun j hj => ?_, fun a q1 q2 => ?_, by show ((t + 1 : Nat) : Int) ≤ N 5; omega⟩ (by show (N 5 - ((t + 1 : Nat) : Int)).toNat < (N 5 - t).toNat; omega)
            · show V116 p9 j = V p9 j
              rw [e116, up_ne _ _ (Or.inr hj), e108, up_ne _ _ (Or.inl (by omega))]
              unfold insV
              rw [if_neg (by omega)]
              exact hj1 j hj
            · show V116 a = V a
              rw [e116, up_row _ _ _ q1, e108, up_row _ _ _ q2]
              funext j
              unfold insV
              rw [if_neg (fun q => q2 q.1), hf1 a q1 q2]
          · refine gB hC _ _ _ _ _ _ _ qX5_sort_79 rfl ?_
            refine g_getr hC dX5_sort_80 fX5_9 zP (by decide) rfl 0 rfl po2 ?_
            refine gB hC _ _ _ _ _ _ _ qX5_sort_83 rfl ?_
            refine g_getr hC dX5_sort_86 fX5_9 zP (by decide) rfl 0 rfl po2 ?_
            refine gB hC _ _ _ _ _ _ _ qX5_sort_89 rfl ?_
            refine g_iald hC dX5_sort_93 zO pv2 (by omega) (by omega) (by decide) (fun i93 => ?_)
            refine g_ast hC dX5_sort_94 zO (by omega) (by omega) (by decide) (by first | omega | exact cmpZ_in _ _ | exact bI_in _) (fun V94 e94 => ?_)
            refine gB hC _ _ _ _ _ _ _ qX5_sort_95 rfl ?_
            rw [insV_up (by omega)] at e94
            obtain ⟨pl2, rfl⟩ : ∃ pl2, pl = pl2 + 1 := ⟨pl - 1, by omega⟩
            rw [show ((pl2 + 1 : Nat) : Int) - 1 = (pl2 : Int) by omega] at e94 c76
            rw [show ((pl2 + 1 : Nat) : Int) + -1 = (pl2 : Int) by omega]
            refine ih2 (V94, pl2) _ ⟨e94, by show pl2 ≤ m; omega, fun j j0 j1 => ?_⟩ (Nat.lt_succ_self _)
            have j2 : (pl2 : Int) ≤ j := j0
            by_cases hj : j = (pl2 : Int)
            · rw [hj]; omega
            · exact hgt j (by omega) j1
      · have c37 := bI_0.mp c37
        refine gB hC _ _ _ _ _ _ _ qX5_sort_40 rfl ?_
        refine gB hC _ _ _ _ _ _ _ qX5_sort_119 rfl ?_
        refine ih (V1, t + 1, m, _, _) _ ⟨hs1, SRT_skip hsr (fun q => by unfold alK at q; omega), hj1, hf1, by show ((t + 1 : Nat) : Int) ≤ N 5; omega⟩ (by show (N 5 - ((t + 1 : Nat) : Int)).toNat < (N 5 - t).toNat; omega)

def IFF (w : Int) (P : Prop) : Prop := w = 1 ↔ P

/-- the rooms are given to a kind's stays: what the plan tells behind -/
def PLN (p : Int) (N : gN0) (k : Int) (V : gV) : Prop := ∃ m : Nat, V p 1 = m ∧ SRT N k (V (p + 1)) m (N 5).toNat ∧ (∀ j : Int, 0 ≤ j → j < m → V (p + 2) (V (p + 1) j) = (gvT N k (kF N k 0) (N 5).toNat).1 (V (p + 1) j)) ∧ (V p 3 = 0 ∨ V p 3 = 1) ∧ IFF (V p 3) (∃ j : Int, 0 ≤ j ∧ j < m ∧ (gvT N k (kF N k 0) (N 5).toNat).1 (V (p + 1) j) = -1)
theorem kX5_give {E l Sh V z} {h9 p9 k9 : Int} {N : gN0} (zP : Sh p9 = some (4, 0)) (zO : Sh (p9 + 1) = some (100, 60)) (pO : V p9 0 = p9 + 1) (zM : Sh (p9 + 2) = some (100, 60)) (pM : V p9 2 = p9 + 2) (zL : Sh (p9 + 3) = some (100, 6)) (pL : V p9 4 = p9 + 3) (hm : RH h9 N Sh V) (hI0 : INV N) (hd9 : h9 + 162 ≤ p9 ∨ p9 + 4 ≤ h9) (h0 : 0 ≤ k9) (h1 : k9 < N 1) : gM E l yX5_give (.code yX5_give cX5_give 6 none) (rmk 2 0 0 70) [(2, p9), (2, h9), (0, k9)] Sh V z (gRe none (fun V' => PLN p9 N k9 V' ∧ (∀ j, j ≠ 1 → j ≠ 3 → V' p9 j = V p9 j) ∧ ∀ a, (a < p9 ∨ p9 + 4 ≤ a) → V' a = V a) Sh) := by
  refine gM_at (L0 := [(2, p9), (2, h9), (0, k9), (9, 0), (9, 0), (9, 0)]) rfl rfl rfl ?_
  intro p e s m args below meth c hC hr hex hnm hz
  have hI := hI0.1
  have hsc := hI.1
  unfold iScal at hsc
  have hz9 := hI0.szO
  have hk := hI.2.1 k9 h0 h1
  unfold kOk at hk
  refine gB hC _ _ _ _ _ _ _ qX5_give_0 rfl ?_
  refine g_getr hC dX5_give_2 fX5_21 hm.1.sH (by decide) rfl 11 rfl hm.2.1.p11 ?_
  refine gB hC _ _ _ _ _ _ _ qX5_give_5 rfl ?_
  refine g_cV0e hC dX5_give_6 mX5_27 vX5_sort (kX5_sort zP zO pO hm hI0 hd9 (by omega)) rfl zP (by decide) rfl (Nat.le_of_ble_eq_true rfl) (RR rfl rfl rfl rfl) (fun z V6 e6 => ?_)
  obtain ⟨⟨m, hs6, hsr⟩, hj6, hf6⟩ := e6
  have hm6 : RH h9 N Sh V6 := RH_ag hm hz9 (fun _ _ _ => rfl) (fun a x y => hf6 a (by omega) (by omega))
  have hmt := hsr.2.2.2.2
  refine gB hC _ _ _ _ _ _ _ qX5_give_9 rfl ?_
  refine g_getr hC dX5_give_10 fX5_18 zP (by decide) rfl 4 rfl ((hj6 4 (by decide)).trans pL) ?_
  refine gB hC _ _ _ _ _ _ _ qX5_give_13 rfl ?_
  refine g_cS0m hC dX5_give_14 mX5_31 sJ7_fill_53178 (kJ7_fill_53178 zL (by decide) (by decide)) rfl rfl (Nat.le_of_ble_eq_true rfl) (RR rfl rfl rfl rfl) (fun z V14 e14 => ?_)
  refine gB hC _ _ _ _ _ _ _ qX5_give_17 rfl ?_
  refine g_putz hC dX5_give_19 fX5_37 zP (by decide) rfl (fun _ h => by cases h; rfl) 3 rfl (by first | omega | exact cmpZ_in _ _ | exact bI_in _) (fun V19 e19 => ?_)
  refine gB hC _ _ _ _ _ _ _ qX5_give_22 rfl ?_
  have hV0 : ∀ a j, (a ≠ p9 ∨ j ≠ 3) → a ≠ p9 + 3 → V19 a j = V6 a j := fun a j q1 q2 => by rw [e19, up_ne _ _ q1, e14, rwV_ne q2]
  refine g_loop (fun x : gV × Nat × aV × aV => (∀ j : Int, 0 ≤ j → j < (x.2.1 : Int) → x.1 (p9 + 2) (V6 (p9 + 1) j) = (gvT N k9 (kF N k9 0) x.2.1).1 (V6 (p9 + 1) j)) ∧ LN N (V6 (p9 + 1)) (gvT N k9 (kF N k9 0) x.2.1).1 (x.1 (p9 + 3)) (x.2.1 : Int) ∧ (x.1 p9 3 = 0 ∨ x.1 p9 3 = 1) ∧ IFF (x.1 p9 3) (∃ j : Int, 0 ≤ j ∧ j < (x.2.1 : Int) ∧ (gvT N k9 (kF N k9 0) x.2.1).1 (V6 (p9 + 1) j) = -1) ∧ x.1 (p9 + 1) = V6 (p9 + 1) ∧ (∀ j, j ≠ 3 → x.1 p9 j = V6 p9 j) ∧ (∀ a, a ≠ p9 → a ≠ p9 + 2 → a ≠ p9 + 3 → x.1 a = V6 a) ∧ x.2.1 ≤ m) (fun x => m - x.2.1) 24 (fun x => [(2, p9), (2, h9), (0, k9), (0, (x.2.1 : Int)), x.2.2.1, x.2.2.2]) (fun x => x.1) (V19, 0, (9, 0), (9, 0)) ⟨fun j j0 j1 => by have : j < 0 := j1; omega, fun r r0 r1 => ⟨fun j j0 j1 => by have : j < 0 := j1; omega, Or.inl (by dsimp only; rw [e19, up_row _ _ _ (by omega), e14, rwV_at r0 (by omega)])⟩, Or.inl (by dsimp only; rw [e19, up_eq]), ⟨fun q => (by dsimp only at q; rw [e19, up_eq] at q; cases q), fun ⟨j, j0, j1, _⟩ => (by have : j < 0 := j1; omega)⟩, funext (fun j => hV0 _ j (Or.inl (by omega)) (by omega)), fun j hj => hV0 _ j (Or.inr hj) (by omega), fun a q1 q2 q3 => funext (fun j => hV0 a j (Or.inl q1) q3), Nat.zero_le _⟩ ?_
  rintro ⟨V1, i, a4, a5⟩ z ⟨hro, hln, hw1, hw2, ho1, hj1, hf1, hi9⟩ ih
  dsimp only at hro hln hw1 hw2 ho1 hj1 hf1 hi9 ih ⊢
  have hs1 : V1 p9 1 = m := (hj1 1 (by decide)).trans hs6
  refine gB hC _ _ _ _ _ _ _ qX5_give_24 rfl ?_
  refine g_getiv hC dX5_give_26 fX5_41 zP (by decide) rfl 1 rfl hs1 (fun i26 => ?_)
  refine g_icmp_ge hC 113 dX5_give_29 rfl (by first | omega | exact cmpZ_in _ _ | exact bI_in _) (by first | omega | exact cmpZ_in _ _ | exact bI_in _) (fun c29 => ?_) (fun c29 => ?_)
  · refine g_return hC dX5_give_113 hr ⟨rfl, rfl, ⟨m, ?_, ?_, ?_, ?_, ?_⟩, ?_, ?_⟩ gs_rfl ⟨Nat.le_of_ble_eq_true rfl, Nat.le_of_ble_eq_true rfl⟩
    all_goals (have e9 : i = m := by omega)
    all_goals subst e9
    · exact hs1
    · rw [ho1]; exact hsr
    · rw [ho1, gv_end hI hsr]; exact hro
    · exact hw1
    · rw [ho1, gv_end hI hsr]; exact hw2
    · exact fun j q1 q3 => (hj1 j q3).trans (hj6 j q1)
    · intro a ha
      rw [hf1 a (by omega) (by omega) (by omega), hf6 a (by omega) (by omega)]
  · have hfi := hsr.1 (i : Int) (by omega) (by omega)
    have hsi := (hI.2.2.2.1 (V6 (p9 + 1) i) hfi.1 (by omega)).1
    have hlf := lfT_in (V1 (p9 + 3)) (sF N (V6 (p9 + 1) i) 2) (kF N k9 0).toNat 0
    have eo : V1 (p9 + 1) (i : Int) = V6 (p9 + 1) i := by rw [ho1]
    have hm1 : RH h9 N Sh V1 := RH_ag hm6 hz9 (fun _ _ _ => rfl) (fun a x y => hf1 a (by omega) (by omega) (by omega))
    have pO1 : V1 p9 0 = p9 + 1 := (hj1 0 (by decide)).trans ((hj6 0 (by decide)).trans pO)
    have pM1 : V1 p9 2 = p9 + 2 := (hj1 2 (by decide)).trans ((hj6 2 (by decide)).trans pM)
    have pL1 : V1 p9 4 = p9 + 3 := (hj1 4 (by decide)).trans ((hj6 4 (by decide)).trans pL)
    refine gB hC _ _ _ _ _ _ _ qX5_give_32 rfl ?_
    refine g_getr hC dX5_give_33 fX5_21 hm.1.sH (by decide) rfl 11 rfl hm1.2.1.p11 ?_
    refine g_getr hC dX5_give_36 fX5_45 hm.1.sT (by decide) rfl 0 rfl hm1.2.1.pR ?_
    refine gB hC _ _ _ _ _ _ _ qX5_give_39 rfl ?_
    refine g_getr hC dX5_give_40 fX5_9 zP (by decide) rfl 0 rfl pO1 ?_
    refine gB hC _ _ _ _ _ _ _ qX5_give_43 rfl ?_
    refine g_iald hC dX5_give_44 zO eo (by omega) (by omega) (by decide) (fun i44 => ?_)
    refine g_aald hC (j := 6) dX5_give_45 hm.1.sR (by decide) (hm1.2.1.ps (by omega) (by omega)) (by omega) (by omega) (by decide) ?_
    refine gB hC _ _ _ _ _ _ _ qX5_give_46 rfl ?_
    refine g_getiv hC dX5_give_51 fX5_51 (hm.1.ss (by omega) (by omega)) (by decide) rfl 2 rfl (hm1.st (by omega) (by omega)).f2 (fun i51 => ?_)
    refine gB hC _ _ _ _ _ _ _ qX5_give_54 rfl ?_
    refine g_getr hC dX5_give_55 fX5_56 hm.1.sH (by decide) rfl 8 rfl hm1.2.1.p8 ?_
    refine gB hC _ _ _ _ _ _ _ qX5_give_58 rfl ?_
    refine g_aald hC (j := 4) dX5_give_59 hm.1.sK (by decide) (hm1.2.1.pk (by omega) (by omega)) (by omega) (by omega) (by decide) ?_
    refine g_getiv hC dX5_give_60 fX5_60 (hm.1.sk (by omega) (by omega)) (by decide) rfl 0 rfl (hm1.k0 (by omega) (by omega)) (fun i60 => ?_)
    refine g_cV1i hC dX5_give_63 mX5_64 vX5_lowestFree (kX5_lowestFree zP zL pL1 (by omega) (by omega) (by omega)) rfl zP (by decide) rfl (Nat.le_of_ble_eq_true rfl) (RR rfl rfl rfl rfl) (fun z i63 => ?_)
    refine gB hC _ _ _ _ _ _ _ qX5_give_66 rfl ?_
    refine g_getr hC dX5_give_69 fX5_15 zP (by decide) rfl 2 rfl pM1 ?_
    refine gB hC _ _ _ _ _ _ _ qX5_give_72 rfl ?_
    refine g_getr hC dX5_give_73 fX5_9 zP (by decide) rfl 0 rfl pO1 ?_
    refine gB hC _ _ _ _ _ _ _ qX5_give_76 rfl ?_
    refine g_iald hC dX5_give_77 zO eo (by omega) (by omega) (by decide) (fun i77 => ?_)
    refine gB hC _ _ _ _ _ _ _ qX5_give_78 rfl ?_
    refine g_ast hC dX5_give_80 zM (by omega) (by omega) (by decide) (by first | omega | exact cmpZ_in _ _ | exact bI_in _) (fun V80 e80 => ?_)
    have hm1v : RH h9 N Sh V80 := RH_ag hm1 hz9 (fun _ _ _ => rfl) (fun a x y => by rw [e80, up_row _ _ _ (by omega)])
    refine gB hC _ _ _ _ _ _ _ qX5_give_81 rfl ?_
    refine g_icmp_ne hC 95 dX5_give_84 rfl (by first | omega | exact cmpZ_in _ _ | exact bI_in _) (by first | omega | exact cmpZ_in _ _ | exact bI_in _) (fun c84 => ?_) (fun c84 => ?_)
    · refine gB hC _ _ _ _ _ _ _ qX5_give_95 rfl ?_
      refine g_getr hC dX5_give_96 fX5_18 zP (by decide) rfl 4 rfl ((congrFun (congrFun e80 _) _).trans ((up_ne _ _ (by omega)).trans pL1)) ?_
      refine gB hC _ _ _ _ _ _ _ qX5_give_99 rfl ?_
      refine g_cV1i hC dX5_give_103 mX5_68 vX8_lastNight (kX8_lastNight (hm.1.ss hfi.1 (by omega)) (hm1v.st hfi.1 (by omega)) (hI.2.2.2.1 _ hfi.1 (by omega))) rfl (hm.1.ss (by omega) (by omega)) (by decide) rfl (Nat.le_of_ble_eq_true rfl) (RR rfl rfl rfl rfl) (fun z i103 => ?_)
      refine g_ast hC dX5_give_106 zL (by omega) (by omega) (by decide) (by first | omega | exact cmpZ_in _ _ | exact bI_in _) (fun V106 e106 => ?_)
      refine gB hC _ _ _ _ _ _ _ qX5_give_107 rfl ?_
      have hnx : LN N (V6 (p9 + 1)) (gvT N k9 (kF N k9 0) (i + 1)).1 (V106 (p9 + 3)) ((i + 1 : Nat) : Int) := LN_next hI hsr (by omega) hln (x := lfT (V1 (p9 + 3)) (sF N (V6 (p9 + 1) i) 2) (kF N k9 0).toNat 0) rfl (by omega) (by omega) (fun q => absurd q c84) (fun _ => ⟨by rw [e106, up_eq], fun r _ _ hr => by rw [e106, up_ne _ _ (Or.inr hr), e80, up_row _ _ _ (by omega)]⟩)
      have hnw : (gvT N k9 (kF N k9 0) (i + 1)).1 (V6 (p9 + 1) i) = lfT (V1 (p9 + 3)) (sF N (V6 (p9 + 1) i) 2) (kF N k9 0).toNat 0 := by rw [gv_new hI hsr (by omega), gv_lf hI hsr (by omega) hln (by omega)]
      refine ih (V106, i + 1, _, _) _ ⟨fun j j0 j1 => ?_, hnx, ?_, ?_, ?_, fun j hj => ?_, fun a q1 q2 q3 => ?_, by show i + 1 ≤ m; omega⟩ (by show m - (i + 1) < m - i; omega)
      · have j2 : j < ((i + 1 : Nat) : Int) := j1
        show V106 (p9 + 2) _ = (gvT N k9 (kF N k9 0) (i + 1)).1 _
        by_cases hj : j = (i : Int)
        · rw [hj, hnw]; rw [e106, up_row _ _ _ (by omega), e80, up_eq]
        · rw [gv_old hI hsr (by omega) j0 (by omega), ← hro j j0 (by omega)]; rw [e106, up_row _ _ _ (by omega), e80, up_ne _ _ (Or.inr (f_ne hsr j0 (by omega) (by omega)))]
      · show V106 p9 3 = 0 ∨ V106 p9 3 = 1
        rw [e106, up_row _ _ _ (by omega), e80, up_row _ _ _ (by omega)]; exact hw1
      · show V106 p9 3 = 1 ↔ _
        rw [e106, up_row _ _ _ (by omega), e80, up_row _ _ _ (by omega), (show V1 p9 3 = 1 ↔ _ from hw2)]
        constructor
        · rintro ⟨j, j0, j1, j2⟩
          exact ⟨j, j0, by show j < ((i + 1 : Nat) : Int); omega, by show (gvT N k9 (kF N k9 0) (i + 1)).1 _ = -1; rw [gv_old hI hsr (by omega) j0 j1]; exact j2⟩
        · rintro ⟨j, j0, j1, j2⟩
          have j3 : j < ((i + 1 : Nat) : Int) := j1
          have j4 : (gvT N k9 (kF N k9 0) (i + 1)).1 (V6 (p9 + 1) j) = -1 := j2
          by_cases hj : j = (i : Int)
          · rw [hj, hnw] at j4; exact absurd j4 c84
          · rw [gv_old hI hsr (by omega) j0 (by omega)] at j4; exact ⟨j, j0, by omega, j4⟩
      · show V106 (p9 + 1) = V6 (p9 + 1)
        rw [e106, up_row _ _ _ (by omega), e80, up_row _ _ _ (by omega)]; exact ho1
      · show V106 p9 j = V6 p9 j
        rw [e106, up_row _ _ _ (by omega), e80, up_row _ _ _ (by omega)]; exact hj1 j hj
      · show V106 a = V6 a
        rw [e106, up_row _ _ _ q3, e80, up_row _ _ _ q2]; exact hf1 a q1 q2 q3
    · refine gB hC _ _ _ _ _ _ _ qX5_give_87 rfl ?_
      refine g_putz hC dX5_give_89 fX5_37 zP (by decide) rfl (fun _ h => by cases h; rfl) 3 rfl (by first | omega | exact cmpZ_in _ _ | exact bI_in _) (fun V89 e89 => ?_)
      refine gB hC _ _ _ _ _ _ _ qX5_give_92 rfl ?_
      refine gB hC _ _ _ _ _ _ _ qX5_give_107 rfl ?_
      have hnx : LN N (V6 (p9 + 1)) (gvT N k9 (kF N k9 0) (i + 1)).1 (V89 (p9 + 3)) ((i + 1 : Nat) : Int) := LN_next hI hsr (by omega) hln (x := lfT (V1 (p9 + 3)) (sF N (V6 (p9 + 1) i) 2) (kF N k9 0).toNat 0) rfl (by omega) (by omega) (fun _ r _ _ => by rw [e89, up_row _ _ _ (by omega), e80, up_row _ _ _ (by omega)]) (fun q => absurd c84 q)
      have hnw : (gvT N k9 (kF N k9 0) (i + 1)).1 (V6 (p9 + 1) i) = lfT (V1 (p9 + 3)) (sF N (V6 (p9 + 1) i) 2) (kF N k9 0).toNat 0 := by rw [gv_new hI hsr (by omega), gv_lf hI hsr (by omega) hln (by omega)]
      refine ih (V89, i + 1, _, _) _ ⟨fun j j0 j1 => ?_, hnx, ?_, ?_, ?_, fun j hj => ?_, fun a q1 q2 q3 => ?_, by show i + 1 ≤ m; omega⟩ (by show m - (i + 1) < m - i; omega)
      · have j2 : j < ((i + 1 : Nat) : Int) := j1
        show V89 (p9 + 2) _ = (gvT N k9 (kF N k9 0) (i + 1)).1 _
        by_cases hj : j = (i : Int)
        · rw [hj, hnw]; rw [e89, up_row _ _ _ (by omega), e80, up_eq]
        · rw [gv_old hI hsr (by omega) j0 (by omega), ← hro j j0 (by omega)]; rw [e89, up_row _ _ _ (by omega), e80, up_ne _ _ (Or.inr (f_ne hsr j0 (by omega) (by omega)))]
      · right; show V89 p9 3 = 1; rw [e89, up_eq]
      · show V89 p9 3 = 1 ↔ _
        refine ⟨fun _ => ⟨i, by omega, by show (i : Int) < ((i + 1 : Nat) : Int); omega, by show (gvT N k9 (kF N k9 0) (i + 1)).1 _ = -1; rw [hnw]; exact c84⟩, fun _ => by rw [e89, up_eq]⟩
      · show V89 (p9 + 1) = V6 (p9 + 1)
        rw [e89, up_row _ _ _ (by omega), e80, up_row _ _ _ (by omega)]; exact ho1
      · show V89 p9 j = V6 p9 j
        rw [e89, up_ne _ _ (Or.inr hj), e80, up_row _ _ _ (by omega)]; exact hj1 j hj
      · show V89 a = V6 a
        rw [e89, up_row _ _ _ q1, e80, up_row _ _ _ q2]; exact hf1 a q1 q2 q3

