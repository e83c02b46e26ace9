/-! the reference: how many more (rows laid by wip/whole/m17.py) -/
theorem rwV_rw (V : gV) (a0 : Int) (C D : gN0) {m n : Int} (h : m ≤ n) : rwV (rwV V a0 C m) a0 D n = rwV V a0 D n := by
  funext a j
  unfold rwV
  by_cases q : a = a0 ∧ 0 ≤ j ∧ j < n
  · rw [if_pos q, if_pos q]
  · rw [if_neg q, if_neg q, if_neg (fun g => q ⟨g.1, g.2.1, by omega⟩)]
/-- how many more can be sold, of some -/
def moT (odds risk rooms : Int) : Nat → Int
  | 0 => 0
  | m + 1 => if smT odds (rooms + (m + 1)).toNat rooms (rooms + (m + 1) - rooms).toNat ≤ risk * pw (rooms + (m + 1) - 1).toNat then m + 1 else moT odds risk rooms m
theorem moT_in (odds risk rooms : Int) : ∀ m : Nat, 0 ≤ moT odds risk rooms m ∧ moT odds risk rooms m ≤ m := by
  intro m
  induction m with
  | zero => exact ⟨Int.le_refl _, Int.le_refl _⟩
  | succ m ih => unfold moT; split <;> omega
/-- an answer, the limbs may be others -/
def gRm (x b : Int) (Sh : gSh) (V : gV) : gPo := fun o Sh' V' _ => o = .inl (some (0, x)) ∧ Sh' = Sh ∧ inI x ∧ ∃ (C : gN0) (m : Int), m ≤ 44 ∧ V' = rwV V (b + 5) C m

theorem kX12_moreToSell {E l Sh V z} {b : Int} {N : gN0} {k0 odds risk : Int} (hm : gMd b N Sh V) (hI : INV N) (hk : inI k0) (h1 : inI odds) (h2 : inI risk) : gM E l yX12_moreToSell (.code yX12_moreToSell cX12_moreToSell 7 (some .int)) (rmk 3 0 0 90) [(2, b), (0, k0), (0, odds), (0, risk)] Sh V z (gRm (if (fitC (bI (0 ≤ k0 ∧ k0 ≤ N 1 - 1)) (bI ((0 ≤ odds ∧ odds ≤ 1000) ∧ 0 ≤ risk ∧ risk ≤ 1000)) 1) = 0 then moT odds risk (kF N k0 0) 3 else 0) b Sh (up V b 3 (fitC (bI (0 ≤ k0 ∧ k0 ≤ N 1 - 1)) (bI ((0 ≤ odds ∧ odds ≤ 1000) ∧ 0 ≤ risk ∧ risk ≤ 1000)) 1))) := by
  refine gM_at (L0 := [(2, b), (0, k0), (0, odds), (0, risk), (9, 0), (9, 0), (9, 0)]) rfl rfl rfl ?_
  intro p e s m args below meth c hC hr hex hnm hz
  have hsc := hI.1.1
  unfold iScal at hsc
  refine gB hC _ _ _ _ _ _ _ qX12_moreToSell_0 rfl ?_
  refine g_cV1 hC dX12_moreToSell_3 mX12_118 vX12_isKind (kX12_isKind hm (by omega) (by omega)) rfl hm.1.1 (by decide) rfl (Nat.le_of_ble_eq_true rfl) (RR rfl rfl rfl rfl) (fun z => ?_)
  refine gB hC _ _ _ _ _ _ _ qX12_moreToSell_6 rfl ?_
  refine g_cS1 hC dX12_moreToSell_11 mX12_35 sX12_in (kX12_in (by omega) (by omega) (by omega)) rfl rfl (Nat.le_of_ble_eq_true rfl) (RR rfl rfl rfl rfl) (fun z => ?_)
  refine g_if_eq hC 32 dX12_moreToSell_14 rfl (by first | omega | exact bI_in _) (fun c14 => ?_) (fun c14 => ?_)
  · have c14 := bI_0.mp c14
    refine gB hC _ _ _ _ _ _ _ qX12_moreToSell_32 rfl ?_
    refine gB hC _ _ _ _ _ _ _ qX12_moreToSell_33 rfl ?_
    refine g_cV1m hC dX12_moreToSell_34 mX12_111 vX12_fits (kX12_fitsC (C := (fitC (bI (0 ≤ k0 ∧ k0 ≤ N 1 - 1)) (bI ((0 ≤ odds ∧ odds ≤ 1000) ∧ 0 ≤ risk ∧ risk ≤ 1000)) 1)) hm (by first | omega | exact bI_in _) (by first | omega | exact bI_in _) (by first | omega | exact bI_in _) (fit_eq (by first | rfl | exact (bI_t (by omega)).symm | exact (bI_f (by omega)).symm) (by first | rfl | exact (bI_t (by omega)).symm | exact (bI_f (by omega)).symm) (by first | rfl | exact (bI_t (by omega)).symm | exact (bI_f (by omega)).symm))) rfl hm.1.1 (by decide) rfl (Nat.le_of_ble_eq_true rfl) (RR rfl rfl rfl rfl) (fun z V34 e34 => ?_)
    have hm34 := gMd_o hm e34 (Or.inr ⟨rfl, by decide⟩)
    have h234 : V34 b 2 = V b 2 := by rw [e34, up_ne _ _ (Or.inr (by decide))]
    refine g_if_ne hC 42 dX12_moreToSell_37 rfl (by first | omega | exact bI_in _) (fun c37 => ?_) (fun c37 => ?_)
    · exact absurd (bI_n0.mp c37) (fit_n2 (by first | rfl | exact bI_f (by omega)))
    · have cF := bI_0.mp c37
      refine gB hC _ _ _ _ _ _ _ qX12_moreToSell_40 rfl ?_
      refine g_ireturn hC dX12_moreToSell_41 hr ⟨?_, rfl, ?_, ?_⟩ gs_rfl ⟨Nat.le_of_ble_eq_true rfl, Nat.le_of_ble_eq_true rfl⟩
      · show _ = _
        first | rw [if_neg cF] | rw [if_pos cF, show n = 3 by omega]
      · first | (rw [if_neg cF]; decide) | (rw [if_pos cF]; exact ⟨by have := moT_in odds risk (kF N k0 0) 3; omega, by have := moT_in odds risk (kF N k0 0) 3; omega⟩)
      · first | exact ⟨fun _ => 0, 0, by decide, by rw [← rwV_0]; exact e34⟩ | exact ⟨D, m9, hm9, by rw [hV9, e34]⟩
  · have c14 := bI_n0.mp c14
    refine gB hC _ _ _ _ _ _ _ qX12_moreToSell_17 rfl ?_
    refine g_cS1 hC dX12_moreToSell_22 mX12_35 sX12_in (kX12_in (by omega) (by omega) (by omega)) rfl rfl (Nat.le_of_ble_eq_true rfl) (RR rfl rfl rfl rfl) (fun z => ?_)
    refine g_if_eq hC 32 dX12_moreToSell_25 rfl (by first | omega | exact bI_in _) (fun c25 => ?_) (fun c25 => ?_)
    · have c25 := bI_0.mp c25
      refine gB hC _ _ _ _ _ _ _ qX12_moreToSell_32 rfl ?_
      refine gB hC _ _ _ _ _ _ _ qX12_moreToSell_33 rfl ?_
      refine g_cV1m hC dX12_moreToSell_34 mX12_111 vX12_fits (kX12_fitsC (C := (fitC (bI (0 ≤ k0 ∧ k0 ≤ N 1 - 1)) (bI ((0 ≤ odds ∧ odds ≤ 1000) ∧ 0 ≤ risk ∧ risk ≤ 1000)) 1)) hm (by first | omega | exact bI_in _) (by first | omega | exact bI_in _) (by first | omega | exact bI_in _) (fit_eq (by first | rfl | exact (bI_t (by omega)).symm | exact (bI_f (by omega)).symm) (by first | rfl | exact (bI_t (by omega)).symm | exact (bI_f (by omega)).symm) (by first | rfl | exact (bI_t (by omega)).symm | exact (bI_f (by omega)).symm))) rfl hm.1.1 (by decide) rfl (Nat.le_of_ble_eq_true rfl) (RR rfl rfl rfl rfl) (fun z V34 e34 => ?_)
      have hm34 := gMd_o hm e34 (Or.inr ⟨rfl, by decide⟩)
      have h234 : V34 b 2 = V b 2 := by rw [e34, up_ne _ _ (Or.inr (by decide))]
      refine g_if_ne hC 42 dX12_moreToSell_37 rfl (by first | omega | exact bI_in _) (fun c37 => ?_) (fun c37 => ?_)
      · exact absurd (bI_n0.mp c37) (fit_n2 (by first | rfl | exact bI_f (by omega)))
      · have cF := bI_0.mp c37
        refine gB hC _ _ _ _ _ _ _ qX12_moreToSell_40 rfl ?_
        refine g_ireturn hC dX12_moreToSell_41 hr ⟨?_, rfl, ?_, ?_⟩ gs_rfl ⟨Nat.le_of_ble_eq_true rfl, Nat.le_of_ble_eq_true rfl⟩
        · show _ = _
          first | rw [if_neg cF] | rw [if_pos cF, show n = 3 by omega]
        · first | (rw [if_neg cF]; decide) | (rw [if_pos cF]; exact ⟨by have := moT_in odds risk (kF N k0 0) 3; omega, by have := moT_in odds risk (kF N k0 0) 3; omega⟩)
        · first | exact ⟨fun _ => 0, 0, by decide, by rw [← rwV_0]; exact e34⟩ | exact ⟨D, m9, hm9, by rw [hV9, e34]⟩
    · have c25 := bI_n0.mp c25
      refine gB hC _ _ _ _ _ _ _ qX12_moreToSell_28 rfl ?_
      refine gB hC _ _ _ _ _ _ _ qX12_moreToSell_33 rfl ?_
      refine g_cV1m hC dX12_moreToSell_34 mX12_111 vX12_fits (kX12_fitsC (C := (fitC (bI (0 ≤ k0 ∧ k0 ≤ N 1 - 1)) (bI ((0 ≤ odds ∧ odds ≤ 1000) ∧ 0 ≤ risk ∧ risk ≤ 1000)) 1)) hm (by first | omega | exact bI_in _) (by first | omega | exact bI_in _) (by first | omega | exact bI_in _) (fit_eq (by first | rfl | exact (bI_t (by omega)).symm | exact (bI_f (by omega)).symm) (by first | rfl | exact (bI_t (by omega)).symm | exact (bI_f (by omega)).symm) (by first | rfl | exact (bI_t (by omega)).symm | exact (bI_f (by omega)).symm))) rfl hm.1.1 (by decide) rfl (Nat.le_of_ble_eq_true rfl) (RR rfl rfl rfl rfl) (fun z V34 e34 => ?_)
      have hm34 := gMd_o hm e34 (Or.inr ⟨rfl, by decide⟩)
      have h234 : V34 b 2 = V b 2 := by rw [e34, up_ne _ _ (Or.inr (by decide))]
      refine g_if_ne hC 42 dX12_moreToSell_37 rfl (by first | omega | exact bI_in _) (fun c37 => ?_) (fun c37 => ?_)
      · have cF := bI_n0.mp c37
        have hp1 := fit_p1 cF
        have hp2 := fit_p2 cF
        have hkk := hI.1.2.1 k0 hp1.1 (by omega)
        unfold kOk at hkk
        refine gB hC _ _ _ _ _ _ _ qX12_moreToSell_42 rfl ?_
        refine g_cV1i hC dX12_moreToSell_45 mX12_63 vX12_ofKind (kX12_ofKind hm34 (by omega) (by omega)) rfl hm34.1.1 (by decide) rfl (Nat.le_of_ble_eq_true rfl) (RR rfl rfl rfl rfl) (fun z i45 => ?_)
        refine gB hC _ _ _ _ _ _ _ qX12_moreToSell_48 rfl ?_
        refine g_loop (fun x : Nat × gV => x.1 ≤ 3 ∧ ∃ (C : gN0) (m : Int), m ≤ 44 ∧ x.2 = rwV V34 (b + 5) C m) (fun x => 3 - x.1) 56 (fun x => [(2, b), (0, k0), (0, odds), (0, risk), (0, kF N k0 0), (0, moT odds risk (kF N k0 0) x.1), (0, (x.1 : Int) + 1)]) (fun x => x.2) (0, V34) ⟨Nat.zero_le _, fun _ => 0, 0, by decide, rwV_0 _ _ _⟩ ?_
        rintro ⟨n, V9⟩ z ⟨hn, D, m9, hm9, hV9⟩ ih
        dsimp only at hn hV9 ih ⊢
        have hmn : gMd b N Sh V9 := by rw [hV9]; exact gMd_rw hm34 _ _
        have hmo := moT_in odds risk (kF N k0 0) n
        refine gB hC _ _ _ _ _ _ _ qX12_moreToSell_56 rfl ?_
        refine g_icmp_gt hC 88 dX12_moreToSell_59 rfl (by first | omega | exact bI_in _) (by first | omega | exact bI_in _) (fun c59 => ?_) (fun c59 => ?_)
        · refine gB hC _ _ _ _ _ _ _ qX12_moreToSell_88 rfl ?_
          refine g_ireturn hC dX12_moreToSell_90 hr ⟨?_, rfl, ?_, ?_⟩ gs_rfl ⟨Nat.le_of_ble_eq_true rfl, Nat.le_of_ble_eq_true rfl⟩
          · show _ = _
            first | rw [if_neg cF] | rw [if_pos cF, show n = 3 by omega]
          · first | (rw [if_neg cF]; decide) | (rw [if_pos cF]; exact ⟨by have := moT_in odds risk (kF N k0 0) 3; omega, by have := moT_in odds risk (kF N k0 0) 3; omega⟩)
          · first | exact ⟨fun _ => 0, 0, by decide, by rw [← rwV_0]; exact e34⟩ | exact ⟨D, m9, hm9, by rw [hV9, e34]⟩
        · refine gB hC _ _ _ _ _ _ _ qX12_moreToSell_62 rfl ?_
          refine g_callV hC _ dX12_moreToSell_72 mX12_196 vX12_isSafe (kX12_isSafe hmn (by omega) (by omega) (by omega) hp2.1 hp2.2) rfl hmn.1.1 (by decide) rfl (Nat.le_of_ble_eq_true rfl) (RR rfl rfl rfl rfl) (fun r0 Sh' V' z h => ?_) (fun X Sh' V' z' h => nomatch h.1)
          obtain ⟨hh1, rfl, D', e72⟩ := h
          cases hh1
          simp only [Option.toList, List.cons_append, List.nil_append]
          refine g_if_eq hC 82 dX12_moreToSell_75 rfl (by first | omega | exact bI_in _) (fun c75 => ?_) (fun c75 => ?_)
          · have c75 := bI_0.mp c75
            have c75' := c75
            refine gB hC _ _ _ _ _ _ _ qX12_moreToSell_82 rfl ?_
            first
            | (have h9 := ih (n + 1, V') z ⟨by show n + 1 ≤ 3; omega, D', 44, by decide, by show V' = _; rw [e72, hV9, rwV_rw _ _ _ _ hm9]⟩ (by show 3 - (n + 1) < 3 - n; omega)
               rw [show moT odds risk (kF N k0 0) (n + 1) = (n : Int) + 1 by rw [moT, if_pos c75']] at h9
               exact h9)
            | (have h9 := ih (n + 1, V') z ⟨by show n + 1 ≤ 3; omega, D', 44, by decide, by show V' = _; rw [e72, hV9, rwV_rw _ _ _ _ hm9]⟩ (by show 3 - (n + 1) < 3 - n; omega)
               rw [show moT odds risk (kF N k0 0) (n + 1) = moT odds risk (kF N k0 0) n by rw [moT, if_neg c75']] at h9
               exact h9)
          · have c75 := bI_n0.mp c75
            have c75' := c75
            refine gB hC _ _ _ _ _ _ _ qX12_moreToSell_78 rfl ?_
            have c75' := c75
            refine gB hC _ _ _ _ _ _ _ qX12_moreToSell_82 rfl ?_
            first
            | (have h9 := ih (n + 1, V') z ⟨by show n + 1 ≤ 3; omega, D', 44, by decide, by show V' = _; rw [e72, hV9, rwV_rw _ _ _ _ hm9]⟩ (by show 3 - (n + 1) < 3 - n; omega)
               rw [show moT odds risk (kF N k0 0) (n + 1) = (n : Int) + 1 by rw [moT, if_pos c75']] at h9
               exact h9)
            | (have h9 := ih (n + 1, V') z ⟨by show n + 1 ≤ 3; omega, D', 44, by decide, by show V' = _; rw [e72, hV9, rwV_rw _ _ _ _ hm9]⟩ (by show 3 - (n + 1) < 3 - n; omega)
               rw [show moT odds risk (kF N k0 0) (n + 1) = moT odds risk (kF N k0 0) n by rw [moT, if_neg c75']] at h9
               exact h9)
      · have cF := bI_0.mp c37
        refine gB hC _ _ _ _ _ _ _ qX12_moreToSell_40 rfl ?_
        refine g_ireturn hC dX12_moreToSell_41 hr ⟨?_, rfl, ?_, ?_⟩ gs_rfl ⟨Nat.le_of_ble_eq_true rfl, Nat.le_of_ble_eq_true rfl⟩
        · show _ = _
          first | rw [if_neg cF] | rw [if_pos cF, show n = 3 by omega]
        · first | (rw [if_neg cF]; decide) | (rw [if_pos cF]; exact ⟨by have := moT_in odds risk (kF N k0 0) 3; omega, by have := moT_in odds risk (kF N k0 0) 3; omega⟩)
        · first | exact ⟨fun _ => 0, 0, by decide, by rw [← rwV_0]; exact e34⟩ | exact ⟨D, m9, hm9, by rw [hV9, e34]⟩
