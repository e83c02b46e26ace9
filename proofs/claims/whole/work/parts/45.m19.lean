/-! the reference: shares (rows laid by wip/whole/m19.py) -/
/-- an answer that is a float -/
def gRf (x : UInt32) (Sh : gSh) (V : gV) : gPo := fun o Sh' V' _ => o = .inl (some (3, fb x)) ∧ Sh' = Sh ∧ V' = V

theorem kX12_share {E l Sh V z} {b : Int} {N : gN0} {k0 date : Int} (hm : gMd b N Sh V) (hI : INV N) (hk : inI k0) (h1 : inI date) : gM E l yX12_share (.code yX12_share cX12_share 3 (some .float)) (rmk 8 0 0 200) [(2, b), (0, k0), (0, date)] Sh V z (gRf (if (fitC (bI (0 ≤ k0 ∧ k0 ≤ N 1 - 1)) (bI (dayZ date ≠ -1)) 1) = 0 then shB (cnt N k0 (dayZ date)) (kF N k0 0) else FP.fconst0) Sh (up V b 3 (fitC (bI (0 ≤ k0 ∧ k0 ≤ N 1 - 1)) (bI (dayZ date ≠ -1)) 1))) := by
  refine gM_at (L0 := [(2, b), (0, k0), (0, date)]) rfl rfl rfl ?_
  intro p e s m args below meth c hC hr hex hnm hz
  have hsc := hI.1.1
  unfold iScal at hsc
  have hdf := dayZ_in date
  have hcn := cnt_in hI.1 k0 (dayZ date)
  refine gB hC _ _ _ _ _ _ _ qX12_share_0 rfl ?_
  refine g_cV1 hC dX12_share_3 mX12_118 vX12_isKind (kX12_isKind hm (by omega) (by omega)) rfl hm.1.1 (by decide) rfl (Nat.le_of_ble_eq_true rfl) (RR rfl rfl rfl rfl) (fun z => ?_)
  refine gB hC _ _ _ _ _ _ _ qX12_share_6 rfl ?_
  refine g_cS1 hC dX12_share_7 mX12_121 sX12_isDate (kX12_isDate (by omega)) rfl rfl (Nat.le_of_ble_eq_true rfl) (RR rfl rfl rfl rfl) (fun z => ?_)
  refine gB hC _ _ _ _ _ _ _ qX12_share_10 rfl ?_
  refine g_cV1m hC dX12_share_11 mX12_111 vX12_fits (kX12_fitsC (C := (fitC (bI (0 ≤ k0 ∧ k0 ≤ N 1 - 1)) (bI (dayZ date ≠ -1)) 1)) hm (by first | omega | exact bI_in _) (by first | omega | exact bI_in _) (by first | omega | exact bI_in _) (fit_eq (by first | rfl | exact (bI_t (by omega)).symm | exact (bI_f (by omega)).symm) (by first | rfl | exact (bI_t (by omega)).symm | exact (bI_f (by omega)).symm) (by first | rfl | exact (bI_t (by omega)).symm | exact (bI_f (by omega)).symm))) rfl hm.1.1 (by decide) rfl (Nat.le_of_ble_eq_true rfl) (RR rfl rfl rfl rfl) (fun z V11 e11 => ?_)
  have hm11 := gMd_o hm e11 (Or.inr ⟨rfl, by decide⟩)
  have h211 : V11 b 2 = V b 2 := by rw [e11, up_ne _ _ (Or.inr (by decide))]
  refine g_if_eq hC 38 dX12_share_14 rfl (by first | omega | exact bI_in _) (fun c14 => ?_) (fun c14 => ?_)
  · have cF := bI_0.mp c14
    refine g_fconst0 hC dX12_share_38 ?_
    refine g_freturn hC dX12_share_39 hr ⟨?_, rfl, ?_⟩ gs_rfl ⟨Nat.le_of_ble_eq_true rfl, Nat.le_of_ble_eq_true rfl⟩
    · rw [if_neg cF]
    · exact e11
  · have cF := bI_n0.mp c14
    have hp1 := fit_p1 cF
    have hp2 := fit_p2 cF
    have hkk := hI.1.2.1 k0 hp1.1 (by omega)
    unfold kOk at hkk
    refine gB hC _ _ _ _ _ _ _ qX12_share_17 rfl ?_
    refine g_cS1i hC dX12_share_20 mX12_27 sX12_dayOf (kX12_dayOf (by omega)) rfl rfl (Nat.le_of_ble_eq_true rfl) (RR rfl rfl rfl rfl) (fun z i20 => ?_)
    refine g_cV1i hC dX12_share_23 mX12_60 vX12_counts (kX12_counts hm11 hI.1 (by omega) (by omega)) rfl hm11.1.1 (by decide) rfl (Nat.le_of_ble_eq_true rfl) (RR rfl rfl rfl rfl) (fun z i23 => ?_)
    refine g_i2f hC dX12_share_26 ?_
    refine gB hC _ _ _ _ _ _ _ qX12_share_27 rfl ?_
    refine g_cV1i hC dX12_share_30 mX12_63 vX12_ofKind (kX12_ofKind hm11 (by omega) (by omega)) rfl hm11.1.1 (by decide) rfl (Nat.le_of_ble_eq_true rfl) (RR rfl rfl rfl rfl) (fun z i30 => ?_)
    refine g_i2f hC dX12_share_33 ?_
    refine g_fdiv hC dX12_share_34 (shB_n hcn.1 hcn.2 hkk.1 hkk.2.1) ?_
    refine gB hC _ _ _ _ _ _ _ qX12_share_35 rfl ?_
    refine g_freturn hC dX12_share_39 hr ⟨?_, rfl, ?_⟩ gs_rfl ⟨Nat.le_of_ble_eq_true rfl, Nat.le_of_ble_eq_true rfl⟩
    · rw [if_pos cF]; rfl
    · exact e11
