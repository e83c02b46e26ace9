/-! the reference: changes (rows laid by wip/whole/m6.py) -/
theorem lkS_in : ∀ (q : Nat) (N : gN0) (a m : Int), 0 ≤ m → 0 ≤ (lkS q N a m).2 ∧ (lkS q N a m).2 ≤ m + q := by
  intro q
  induction q with
  | zero => intro N a m h; exact ⟨h, by show m ≤ m + 0; omega⟩
  | succ q ih =>
    intro N a m h
    rw [lkS]
    split
    · split
      · have := ih (shG N (1496 + a * 5)) a m h; omega
      · split
        · have := ih (shG (mkN N (N (1496 + a * 5)) (N (1496 + a * 5 + 1)) (N (1496 + a * 5 + 2)) (N (1496 + a * 5 + 3)) (N (1496 + a * 5 + 4)) (N (1496 + a * 5 + 1)) (-1)) (1496 + a * 5)) a (m + 1) (by omega); omega
        · have := ih N (a + 1) m h; omega
    · show 0 ≤ m ∧ m ≤ _; omega
theorem lk_in {N : gN0} (h : InvC N) : 0 ≤ (lk N).2 ∧ (lk N).2 ≤ 20 := by
  have := lkS_in (N 7).toNat N 0 0 (Int.le_refl _)
  have hs := h.1
  unfold iScal at hs
  unfold lk
  omega
/-- the extra places of a kind are others -/
theorem InvC_x {N : gN0} {k x : Int} (hI : InvC N) (h0 : 0 ≤ k) (h1 : k < N 1) (h2 : 0 ≤ x) (h3 : x ≤ 3) : INV N → INV (upN N (31 + k * 3 + 2) x) := by
  intro h
  obtain ⟨⟨i1, i2, i3, i4, i5⟩, hb, ho⟩ := h
  have hs := i1
  unfold iScal at hs
  have e : ∀ j, j ≠ 31 + k * 3 + 2 → upN N (31 + k * 3 + 2) x j = N j := fun j hj => upN_ne hj
  have ex := upN_eq N (31 + k * 3 + 2) x
  generalize upN N (31 + k * 3 + 2) x = M at *
  have el : ∀ j, j < 31 ∨ 40 ≤ j → M j = N j := fun j hj => e j (by omega)
  refine ⟨⟨?_, ?_, ?_, ?_, ?_⟩, bOk_of ?_ (fun j p q => el j (by omega)) hb, oOk_of (fun j p q => el j (by omega)) ho⟩
  · unfold iScal
    rw [el 0 (by decide), el 1 (by decide), el 2 (by decide), el 3 (by decide), el 4 (by decide), el 5 (by decide), el 6 (by decide), el 7 (by decide)]
    exact i1
  · intro k' a0 a1
    rw [el 1 (by decide)] at a1
    have := i2 k' a0 a1
    unfold kOk kF at this ⊢
    rw [e (31 + k' * 3 + 0) (by omega), e (31 + k' * 3 + 1) (by omega)]
    by_cases hk : k' = k
    · subst hk
      rw [ex]
      omega
    · rw [e (31 + k' * 3 + 2) (by omega)]
      exact this
  · intro i a0 a1
    rw [el 2 (by decide)] at a1
    have := i3 i a0 a1
    unfold seOk seF at this ⊢
    rw [el _ (by omega), el _ (by omega), el _ (by omega), el _ (by omega)]
    exact this
  · intro s a0 a1
    rw [el 5 (by decide)] at a1
    have := i4 s a0 a1
    have es : ∀ w, 0 ≤ w → sF M s w = sF N s w := fun w hw => el _ (by omega)
    unfold sOk at this ⊢
    rw [es 0 (by decide), es 1 (by decide), es 2 (by decide), es 3 (by decide), es 4 (by decide), es 5 (by decide), es 6 (by decide), es 7 (by decide), es 8 (by decide), es 9 (by decide), el 1 (by decide)]
    refine ⟨this.1, fun n n0 n1 => ?_⟩
    rw [es _ (by omega)]
    exact this.2 n n0 n1
  · intro g a0 a1
    rw [el 7 (by decide)] at a1
    have := i5 g a0 a1
    unfold gOk gF at this ⊢
    rw [el _ (by omega), el _ (by omega), el _ (by omega), el _ (by omega), el _ (by omega), el _ (by omega)]
    exact this
  · unfold Phi
    rw [el 5 (by decide), phT_eq (N := N) _ (fun s p q => by unfold sF; exact el _ (by omega))]

theorem kX12_addKind {E l Sh V z} {b : Int} {N : gN0} {rooms price : Int} (hm : gMd b N Sh V) (hI : INV N) (hv0 : 0 ≤ V b 2) (hv1 : V b 2 ≤ 6) (h1 : inI rooms) (h2 : inI price) : gM E l yX12_addKind (.code yX12_addKind cX12_addKind 4 (some .int)) (rmk 8 0 0 200) [(2, b), (0, rooms), (0, price)] Sh V z (gRi (if (fitC (bI ((1 ≤ rooms ∧ rooms ≤ 6) ∧ 100 ≤ price ∧ price ≤ 100000)) (bI (N 1 < 3)) 1) = 0 then N 1 else 0) Sh (if (fitC (bI ((1 ≤ rooms ∧ rooms ≤ 6) ∧ 100 ≤ price ∧ price ≤ 100000)) (bI (N 1 < 3)) 1) = 0 then wrN (kpV (up V b 3 0) b) b (upN (upN (upN N (31 + N 1 * 3 + 0) rooms) (31 + N 1 * 3 + 1) price) 1 (N 1 + 1)) else up V b 3 (fitC (bI ((1 ≤ rooms ∧ rooms ≤ 6) ∧ 100 ≤ price ∧ price ≤ 100000)) (bI (N 1 < 3)) 1))) := by
  refine gM_at (L0 := [(2, b), (0, rooms), (0, price), (9, 0)]) rfl rfl rfl ?_
  intro p e s m args below meth c hC hr hex hnm hz
  have hsc := hI.1.1
  unfold iScal at hsc
  refine gB hC _ _ _ _ _ _ _ qX12_addKind_0 rfl ?_
  refine g_cS1 hC dX12_addKind_5 mX12_35 sX12_in (kX12_in (by omega) (by omega) (by omega)) rfl rfl (Nat.le_of_ble_eq_true rfl) (RR rfl rfl rfl rfl) (fun z => ?_)
  refine g_if_eq hC 26 dX12_addKind_8 rfl (by first | omega | exact bI_in _) (fun c8 => ?_) (fun c8 => ?_)
  · have c8 := bI_0.mp c8
    refine gB hC _ _ _ _ _ _ _ qX12_addKind_26 rfl ?_
    refine gB hC _ _ _ _ _ _ _ qX12_addKind_27 rfl ?_
    refine g_getr hC dX12_addKind_28 fX12_9 hm.1.1 (by decide) rfl 0 rfl hm.2.1.1 ?_
    refine gB hC _ _ _ _ _ _ _ qX12_addKind_31 rfl ?_
    refine g_iald hC dX12_addKind_32 hm.1.2.1 (gMd_at hm _) (by omega) (by omega) (by decide) (fun i32 => ?_)
    refine gB hC _ _ _ _ _ _ _ qX12_addKind_33 rfl ?_
    refine g_icmp_ge hC 41 dX12_addKind_34 rfl (by first | omega | exact bI_in _) (by first | omega | exact bI_in _) (fun c34 => ?_) (fun c34 => ?_)
    · refine gB hC _ _ _ _ _ _ _ qX12_addKind_41 rfl ?_
      refine gB hC _ _ _ _ _ _ _ qX12_addKind_42 rfl ?_
      refine g_cV1m hC dX12_addKind_43 mX12_111 vX12_fits (kX12_fitsC (C := (fitC (bI ((1 ≤ rooms ∧ rooms ≤ 6) ∧ 100 ≤ price ∧ price ≤ 100000)) (bI (N 1 < 3)) 1)) hm (by first | omega | exact bI_in _) (by first | omega | exact bI_in _) (by first | omega | exact bI_in _) (fit_eq (by first | rfl | exact (bI_t (by omega)).symm | exact (bI_f (by omega)).symm) (by first | rfl | exact (bI_t (by omega)).symm | exact (bI_f (by omega)).symm) (by first | rfl | exact (bI_t (by omega)).symm | exact (bI_f (by omega)).symm))) rfl hm.1.1 (by decide) rfl (Nat.le_of_ble_eq_true rfl) (RR rfl rfl rfl rfl) (fun z V43 e43 => ?_)
      have hm43 := gMd_o hm e43 (Or.inr ⟨rfl, by decide⟩)
      have h243 : V43 b 2 = V b 2 := by rw [e43, up_ne _ _ (Or.inr (by decide))]
      refine g_if_ne hC 51 dX12_addKind_46 rfl (by first | omega | exact bI_in _) (fun c46 => ?_) (fun c46 => ?_)
      · exact absurd (bI_n0.mp c46) (fit_n1 (by first | rfl | exact bI_f (by omega)))
      · have cF := bI_0.mp c46
        refine gB hC _ _ _ _ _ _ _ qX12_addKind_49 rfl ?_
        refine g_ireturn hC dX12_addKind_50 hr ⟨?_, rfl, ?_, ?_⟩ gs_rfl ⟨Nat.le_of_ble_eq_true rfl, Nat.le_of_ble_eq_true rfl⟩
        · rw [if_neg cF]
        · rw [if_neg cF]; exact e43
        · rw [if_neg cF]; decide
    · refine gB hC _ _ _ _ _ _ _ qX12_addKind_37 rfl ?_
      refine gB hC _ _ _ _ _ _ _ qX12_addKind_42 rfl ?_
      refine g_cV1m hC dX12_addKind_43 mX12_111 vX12_fits (kX12_fitsC (C := (fitC (bI ((1 ≤ rooms ∧ rooms ≤ 6) ∧ 100 ≤ price ∧ price ≤ 100000)) (bI (N 1 < 3)) 1)) hm (by first | omega | exact bI_in _) (by first | omega | exact bI_in _) (by first | omega | exact bI_in _) (fit_eq (by first | rfl | exact (bI_t (by omega)).symm | exact (bI_f (by omega)).symm) (by first | rfl | exact (bI_t (by omega)).symm | exact (bI_f (by omega)).symm) (by first | rfl | exact (bI_t (by omega)).symm | exact (bI_f (by omega)).symm))) rfl hm.1.1 (by decide) rfl (Nat.le_of_ble_eq_true rfl) (RR rfl rfl rfl rfl) (fun z V43 e43 => ?_)
      have hm43 := gMd_o hm e43 (Or.inr ⟨rfl, by decide⟩)
      have h243 : V43 b 2 = V b 2 := by rw [e43, up_ne _ _ (Or.inr (by decide))]
      refine g_if_ne hC 51 dX12_addKind_46 rfl (by first | omega | exact bI_in _) (fun c46 => ?_) (fun c46 => ?_)
      · exact absurd (bI_n0.mp c46) (fit_n1 (by first | rfl | exact bI_f (by omega)))
      · have cF := bI_0.mp c46
        refine gB hC _ _ _ _ _ _ _ qX12_addKind_49 rfl ?_
        refine g_ireturn hC dX12_addKind_50 hr ⟨?_, rfl, ?_, ?_⟩ gs_rfl ⟨Nat.le_of_ble_eq_true rfl, Nat.le_of_ble_eq_true rfl⟩
        · rw [if_neg cF]
        · rw [if_neg cF]; exact e43
        · rw [if_neg cF]; decide
  · have c8 := bI_n0.mp c8
    refine gB hC _ _ _ _ _ _ _ qX12_addKind_11 rfl ?_
    refine g_ldc hC 100000 kX12_110 rfl dX12_addKind_14 ?_
    refine g_cS1 hC dX12_addKind_16 mX12_35 sX12_in (kX12_in (by omega) (by omega) (by omega)) rfl rfl (Nat.le_of_ble_eq_true rfl) (RR rfl rfl rfl rfl) (fun z => ?_)
    refine g_if_eq hC 26 dX12_addKind_19 rfl (by first | omega | exact bI_in _) (fun c19 => ?_) (fun c19 => ?_)
    · have c19 := bI_0.mp c19
      refine gB hC _ _ _ _ _ _ _ qX12_addKind_26 rfl ?_
      refine gB hC _ _ _ _ _ _ _ qX12_addKind_27 rfl ?_
      refine g_getr hC dX12_addKind_28 fX12_9 hm.1.1 (by decide) rfl 0 rfl hm.2.1.1 ?_
      refine gB hC _ _ _ _ _ _ _ qX12_addKind_31 rfl ?_
      refine g_iald hC dX12_addKind_32 hm.1.2.1 (gMd_at hm _) (by omega) (by omega) (by decide) (fun i32 => ?_)
      refine gB hC _ _ _ _ _ _ _ qX12_addKind_33 rfl ?_
      refine g_icmp_ge hC 41 dX12_addKind_34 rfl (by first | omega | exact bI_in _) (by first | omega | exact bI_in _) (fun c34 => ?_) (fun c34 => ?_)
      · refine gB hC _ _ _ _ _ _ _ qX12_addKind_41 rfl ?_
        refine gB hC _ _ _ _ _ _ _ qX12_addKind_42 rfl ?_
        refine g_cV1m hC dX12_addKind_43 mX12_111 vX12_fits (kX12_fitsC (C := (fitC (bI ((1 ≤ rooms ∧ rooms ≤ 6) ∧ 100 ≤ price ∧ price ≤ 100000)) (bI (N 1 < 3)) 1)) hm (by first | omega | exact bI_in _) (by first | omega | exact bI_in _) (by first | omega | exact bI_in _) (fit_eq (by first | rfl | exact (bI_t (by omega)).symm | exact (bI_f (by omega)).symm) (by first | rfl | exact (bI_t (by omega)).symm | exact (bI_f (by omega)).symm) (by first | rfl | exact (bI_t (by omega)).symm | exact (bI_f (by omega)).symm))) rfl hm.1.1 (by decide) rfl (Nat.le_of_ble_eq_true rfl) (RR rfl rfl rfl rfl) (fun z V43 e43 => ?_)
        have hm43 := gMd_o hm e43 (Or.inr ⟨rfl, by decide⟩)
        have h243 : V43 b 2 = V b 2 := by rw [e43, up_ne _ _ (Or.inr (by decide))]
        refine g_if_ne hC 51 dX12_addKind_46 rfl (by first | omega | exact bI_in _) (fun c46 => ?_) (fun c46 => ?_)
        · exact absurd (bI_n0.mp c46) (fit_n1 (by first | rfl | exact bI_f (by omega)))
        · have cF := bI_0.mp c46
          refine gB hC _ _ _ _ _ _ _ qX12_addKind_49 rfl ?_
          refine g_ireturn hC dX12_addKind_50 hr ⟨?_, rfl, ?_, ?_⟩ gs_rfl ⟨Nat.le_of_ble_eq_true rfl, Nat.le_of_ble_eq_true rfl⟩
          · rw [if_neg cF]
          · rw [if_neg cF]; exact e43
          · rw [if_neg cF]; decide
      · refine gB hC _ _ _ _ _ _ _ qX12_addKind_37 rfl ?_
        refine gB hC _ _ _ _ _ _ _ qX12_addKind_42 rfl ?_
        refine g_cV1m hC dX12_addKind_43 mX12_111 vX12_fits (kX12_fitsC (C := (fitC (bI ((1 ≤ rooms ∧ rooms ≤ 6) ∧ 100 ≤ price ∧ price ≤ 100000)) (bI (N 1 < 3)) 1)) hm (by first | omega | exact bI_in _) (by first | omega | exact bI_in _) (by first | omega | exact bI_in _) (fit_eq (by first | rfl | exact (bI_t (by omega)).symm | exact (bI_f (by omega)).symm) (by first | rfl | exact (bI_t (by omega)).symm | exact (bI_f (by omega)).symm) (by first | rfl | exact (bI_t (by omega)).symm | exact (bI_f (by omega)).symm))) rfl hm.1.1 (by decide) rfl (Nat.le_of_ble_eq_true rfl) (RR rfl rfl rfl rfl) (fun z V43 e43 => ?_)
        have hm43 := gMd_o hm e43 (Or.inr ⟨rfl, by decide⟩)
        have h243 : V43 b 2 = V b 2 := by rw [e43, up_ne _ _ (Or.inr (by decide))]
        refine g_if_ne hC 51 dX12_addKind_46 rfl (by first | omega | exact bI_in _) (fun c46 => ?_) (fun c46 => ?_)
        · exact absurd (bI_n0.mp c46) (fit_n1 (by first | rfl | exact bI_f (by omega)))
        · have cF := bI_0.mp c46
          refine gB hC _ _ _ _ _ _ _ qX12_addKind_49 rfl ?_
          refine g_ireturn hC dX12_addKind_50 hr ⟨?_, rfl, ?_, ?_⟩ gs_rfl ⟨Nat.le_of_ble_eq_true rfl, Nat.le_of_ble_eq_true rfl⟩
          · rw [if_neg cF]
          · rw [if_neg cF]; exact e43
          · rw [if_neg cF]; decide
    · have c19 := bI_n0.mp c19
      refine gB hC _ _ _ _ _ _ _ qX12_addKind_22 rfl ?_
      refine gB hC _ _ _ _ _ _ _ qX12_addKind_27 rfl ?_
      refine g_getr hC dX12_addKind_28 fX12_9 hm.1.1 (by decide) rfl 0 rfl hm.2.1.1 ?_
      refine gB hC _ _ _ _ _ _ _ qX12_addKind_31 rfl ?_
      refine g_iald hC dX12_addKind_32 hm.1.2.1 (gMd_at hm _) (by omega) (by omega) (by decide) (fun i32 => ?_)
      refine gB hC _ _ _ _ _ _ _ qX12_addKind_33 rfl ?_
      refine g_icmp_ge hC 41 dX12_addKind_34 rfl (by first | omega | exact bI_in _) (by first | omega | exact bI_in _) (fun c34 => ?_) (fun c34 => ?_)
      · refine gB hC _ _ _ _ _ _ _ qX12_addKind_41 rfl ?_
        refine gB hC _ _ _ _ _ _ _ qX12_addKind_42 rfl ?_
        refine g_cV1m hC dX12_addKind_43 mX12_111 vX12_fits (kX12_fitsC (C := (fitC (bI ((1 ≤ rooms ∧ rooms ≤ 6) ∧ 100 ≤ price ∧ price ≤ 100000)) (bI (N 1 < 3)) 1)) hm (by first | omega | exact bI_in _) (by first | omega | exact bI_in _) (by first | omega | exact bI_in _) (fit_eq (by first | rfl | exact (bI_t (by omega)).symm | exact (bI_f (by omega)).symm) (by first | rfl | exact (bI_t (by omega)).symm | exact (bI_f (by omega)).symm) (by first | rfl | exact (bI_t (by omega)).symm | exact (bI_f (by omega)).symm))) rfl hm.1.1 (by decide) rfl (Nat.le_of_ble_eq_true rfl) (RR rfl rfl rfl rfl) (fun z V43 e43 => ?_)
        have hm43 := gMd_o hm e43 (Or.inr ⟨rfl, by decide⟩)
        have h243 : V43 b 2 = V b 2 := by rw [e43, up_ne _ _ (Or.inr (by decide))]
        refine g_if_ne hC 51 dX12_addKind_46 rfl (by first | omega | exact bI_in _) (fun c46 => ?_) (fun c46 => ?_)
        · exact absurd (bI_n0.mp c46) (fit_n2 (by first | rfl | exact bI_f (by omega)))
        · have cF := bI_0.mp c46
          refine gB hC _ _ _ _ _ _ _ qX12_addKind_49 rfl ?_
          refine g_ireturn hC dX12_addKind_50 hr ⟨?_, rfl, ?_, ?_⟩ gs_rfl ⟨Nat.le_of_ble_eq_true rfl, Nat.le_of_ble_eq_true rfl⟩
          · rw [if_neg cF]
          · rw [if_neg cF]; exact e43
          · rw [if_neg cF]; decide
      · refine gB hC _ _ _ _ _ _ _ qX12_addKind_37 rfl ?_
        refine gB hC _ _ _ _ _ _ _ qX12_addKind_42 rfl ?_
        refine g_cV1m hC dX12_addKind_43 mX12_111 vX12_fits (kX12_fitsC (C := (fitC (bI ((1 ≤ rooms ∧ rooms ≤ 6) ∧ 100 ≤ price ∧ price ≤ 100000)) (bI (N 1 < 3)) 1)) hm (by first | omega | exact bI_in _) (by first | omega | exact bI_in _) (by first | omega | exact bI_in _) (fit_eq (by first | rfl | exact (bI_t (by omega)).symm | exact (bI_f (by omega)).symm) (by first | rfl | exact (bI_t (by omega)).symm | exact (bI_f (by omega)).symm) (by first | rfl | exact (bI_t (by omega)).symm | exact (bI_f (by omega)).symm))) rfl hm.1.1 (by decide) rfl (Nat.le_of_ble_eq_true rfl) (RR rfl rfl rfl rfl) (fun z V43 e43 => ?_)
        have hm43 := gMd_o hm e43 (Or.inr ⟨rfl, by decide⟩)
        have h243 : V43 b 2 = V b 2 := by rw [e43, up_ne _ _ (Or.inr (by decide))]
        refine g_if_ne hC 51 dX12_addKind_46 rfl (by first | omega | exact bI_in _) (fun c46 => ?_) (fun c46 => ?_)
        · have cF := bI_n0.mp c46
          have hp1 := fit_p1 cF
          have hp2 := fit_p2 cF
          refine gB hC _ _ _ _ _ _ _ qX12_addKind_51 rfl ?_
          refine g_cV0m hC dX12_addKind_52 mX12_115 vX12_keeps (kX12_keeps hm43 (by omega) (by omega)) rfl hm43.1.1 (by decide) rfl (Nat.le_of_ble_eq_true rfl) (RR rfl rfl rfl rfl) (fun z V52 e52 => ?_)
          have hm52 := gMd_kp hm43 e52
          refine gB hC _ _ _ _ _ _ _ qX12_addKind_55 rfl ?_
          refine g_getr hC dX12_addKind_56 fX12_9 hm52.1.1 (by decide) rfl 0 rfl hm52.2.1.1 ?_
          refine gB hC _ _ _ _ _ _ _ qX12_addKind_59 rfl ?_
          refine g_iald hC dX12_addKind_60 hm52.1.2.1 (gMd_at hm52 _) (by omega) (by omega) (by decide) (fun i60 => ?_)
          refine gB hC _ _ _ _ _ _ _ qX12_addKind_61 rfl ?_
          refine g_getr hC dX12_addKind_63 fX12_9 hm52.1.1 (by decide) rfl 0 rfl hm52.2.1.1 ?_
          refine gB hC _ _ _ _ _ _ _ qX12_addKind_66 rfl ?_
          refine g_ast hC dX12_addKind_75 hm52.1.2.1 (by omega) (by omega) (by decide) (by first | omega | exact bI_in _) (fun V75 e75 => ?_)
          have hw75 := gMw_up (gMw_in hm52) e75
          refine gB hC _ _ _ _ _ _ _ qX12_addKind_76 rfl ?_
          refine g_getr hC dX12_addKind_77 fX12_9 hw75.1.1.1 (by decide) rfl 0 rfl hw75.1.2.1.1 ?_
          refine gB hC _ _ _ _ _ _ _ qX12_addKind_80 rfl ?_
          refine g_ast hC dX12_addKind_89 hw75.1.1.2.1 (by omega) (by omega) (by decide) (by first | omega | exact bI_in _) (fun V89 e89 => ?_)
          have hw89 := gMw_up hw75 e89
          refine gB hC _ _ _ _ _ _ _ qX12_addKind_90 rfl ?_
          refine g_getr hC dX12_addKind_91 fX12_9 hw89.1.1.1 (by decide) rfl 0 rfl hw89.1.2.1.1 ?_
          refine gB hC _ _ _ _ _ _ _ qX12_addKind_94 rfl ?_
          refine g_iald hC dX12_addKind_96 hw89.1.1.2.1 (gMd_at hw89.1 _) (by omega) (by omega) (by decide) (fun i96 => ?_)
          repeat rw [upN_ne (by omega)]
          refine gB hC _ _ _ _ _ _ _ qX12_addKind_97 rfl ?_
          refine g_ast hC dX12_addKind_99 hw89.1.1.2.1 (by omega) (by omega) (by decide) (by first | omega | exact bI_in _) (fun V99 e99 => ?_)
          have hw99 := gMw_up hw89 e99
          refine gB hC _ _ _ _ _ _ _ qX12_addKind_100 rfl ?_
          refine g_ireturn hC dX12_addKind_101 hr ⟨?_, rfl, ?_, ?_⟩ gs_rfl ⟨Nat.le_of_ble_eq_true rfl, Nat.le_of_ble_eq_true rfl⟩
          · rw [if_pos cF]
          · rw [if_pos cF, hw99.2, e52, e43, cF]
            first | done | rfl
          · rw [if_pos cF]
            omega
        · exact absurd (fit_ok (by first | rfl | exact bI_t (by omega)) (by first | rfl | exact bI_t (by omega)) (by first | rfl | exact bI_t (by omega))) (bI_0.mp c46)

theorem kX12_setExtra {E l Sh V z} {b : Int} {N : gN0} {k0 x : Int} (hm : gMd b N Sh V) (hI : INV N) (hv0 : 0 ≤ V b 2) (hv1 : V b 2 ≤ 6) (hk : inI k0) (h2 : inI x) : gM E l yX12_setExtra (.code yX12_setExtra cX12_setExtra 3 (some .int)) (rmk 8 0 0 200) [(2, b), (0, k0), (0, x)] Sh V z (gRi (if (fitC (bI (0 ≤ k0 ∧ k0 ≤ N 1 - 1)) (bI (0 ≤ x ∧ x ≤ 3)) 1) = 0 then (lk (upN N (31 + k0 * 3 + 2) x)).2 else 0) Sh (if (fitC (bI (0 ≤ k0 ∧ k0 ≤ N 1 - 1)) (bI (0 ≤ x ∧ x ≤ 3)) 1) = 0 then wrN (kpV (up V b 3 0) b) b ((lk (upN N (31 + k0 * 3 + 2) x)).1) else up V b 3 (fitC (bI (0 ≤ k0 ∧ k0 ≤ N 1 - 1)) (bI (0 ≤ x ∧ x ≤ 3)) 1))) := by
  refine gM_at (L0 := [(2, b), (0, k0), (0, x)]) rfl rfl rfl ?_
  intro p e s m args below meth c hC hr hex hnm hz
  have hsc := hI.1.1
  unfold iScal at hsc
  refine gB hC _ _ _ _ _ _ _ qX12_setExtra_0 rfl ?_
  refine g_cV1 hC dX12_setExtra_3 mX12_118 vX12_isKind (kX12_isKind hm (by omega) (by omega)) rfl hm.1.1 (by decide) rfl (Nat.le_of_ble_eq_true rfl) (RR rfl rfl rfl rfl) (fun z => ?_)
  refine gB hC _ _ _ _ _ _ _ qX12_setExtra_6 rfl ?_
  refine g_cS1 hC dX12_setExtra_9 mX12_35 sX12_in (kX12_in (by omega) (by omega) (by omega)) rfl rfl (Nat.le_of_ble_eq_true rfl) (RR rfl rfl rfl rfl) (fun z => ?_)
  refine gB hC _ _ _ _ _ _ _ qX12_setExtra_12 rfl ?_
  refine g_cV1m hC dX12_setExtra_13 mX12_111 vX12_fits (kX12_fitsC (C := (fitC (bI (0 ≤ k0 ∧ k0 ≤ N 1 - 1)) (bI (0 ≤ x ∧ x ≤ 3)) 1)) hm (by first | omega | exact bI_in _) (by first | omega | exact bI_in _) (by first | omega | exact bI_in _) (fit_eq (by first | rfl | exact (bI_t (by omega)).symm | exact (bI_f (by omega)).symm) (by first | rfl | exact (bI_t (by omega)).symm | exact (bI_f (by omega)).symm) (by first | rfl | exact (bI_t (by omega)).symm | exact (bI_f (by omega)).symm))) rfl hm.1.1 (by decide) rfl (Nat.le_of_ble_eq_true rfl) (RR rfl rfl rfl rfl) (fun z V13 e13 => ?_)
  have hm13 := gMd_o hm e13 (Or.inr ⟨rfl, by decide⟩)
  have h213 : V13 b 2 = V b 2 := by rw [e13, up_ne _ _ (Or.inr (by decide))]
  refine g_if_ne hC 21 dX12_setExtra_16 rfl (by first | omega | exact bI_in _) (fun c16 => ?_) (fun c16 => ?_)
  · have cF := bI_n0.mp c16
    have hp1 := fit_p1 cF
    have hp2 := fit_p2 cF
    have hIx := InvC_x hI.1 hp1.1 (by omega) hp2.1 hp2.2 hI
    have hli := lk_in hIx.1
    refine gB hC _ _ _ _ _ _ _ qX12_setExtra_21 rfl ?_
    refine g_cV0m hC dX12_setExtra_22 mX12_115 vX12_keeps (kX12_keeps hm13 (by omega) (by omega)) rfl hm13.1.1 (by decide) rfl (Nat.le_of_ble_eq_true rfl) (RR rfl rfl rfl rfl) (fun z V22 e22 => ?_)
    have hm22 := gMd_kp hm13 e22
    refine gB hC _ _ _ _ _ _ _ qX12_setExtra_25 rfl ?_
    refine g_getr hC dX12_setExtra_26 fX12_9 hm22.1.1 (by decide) rfl 0 rfl hm22.2.1.1 ?_
    refine gB hC _ _ _ _ _ _ _ qX12_setExtra_29 rfl ?_
    refine g_ast hC dX12_setExtra_38 hm22.1.2.1 (by omega) (by omega) (by decide) (by first | omega | exact bI_in _) (fun V38 e38 => ?_)
    have hw38 := gMw_up (gMw_in hm22) e38
    refine gB hC _ _ _ _ _ _ _ qX12_setExtra_39 rfl ?_
    refine g_cV1im hC dX12_setExtra_40 mX12_124 vX12_looks (kX12_looks hw38.1 hIx.1) rfl hw38.1.1.1 (by decide) rfl (Nat.le_of_ble_eq_true rfl) (RR rfl rfl rfl rfl) (fun z V40 e40 i40 => ?_)
    have hw40 := gMw_wr hw38 e40
    refine g_ireturn hC dX12_setExtra_43 hr ⟨?_, rfl, ?_, ?_⟩ gs_rfl ⟨Nat.le_of_ble_eq_true rfl, Nat.le_of_ble_eq_true rfl⟩
    · rw [if_pos cF]
    · rw [if_pos cF, hw40.2, e22, e13, cF]
      first | done | rfl
    · rw [if_pos cF]
      omega
  · have cF := bI_0.mp c16
    refine gB hC _ _ _ _ _ _ _ qX12_setExtra_19 rfl ?_
    refine g_ireturn hC dX12_setExtra_20 hr ⟨?_, rfl, ?_, ?_⟩ gs_rfl ⟨Nat.le_of_ble_eq_true rfl, Nat.le_of_ble_eq_true rfl⟩
    · rw [if_neg cF]
    · rw [if_neg cF]; exact e13
    · rw [if_neg cF]; decide

theorem kX12_setWeekend {E l Sh V z} {b : Int} {N : gN0} {x y : Int} (hm : gMd b N Sh V) (hI : INV N) (hv0 : 0 ≤ V b 2) (hv1 : V b 2 ≤ 6) (h1 : inI x) (h2 : inI y) : gM E l yX12_setWeekend (.code yX12_setWeekend cX12_setWeekend 4 (some .int)) (rmk 8 0 0 200) [(2, b), (0, x), (0, y)] Sh V z (gRi (if (fitC (bI ((0 ≤ x ∧ x ≤ 100) ∧ 0 ≤ y ∧ y ≤ 1000)) 1 1) = 0 then N 4 else 0) Sh (if (fitC (bI ((0 ≤ x ∧ x ≤ 100) ∧ 0 ≤ y ∧ y ≤ 1000)) 1 1) = 0 then wrN (kpV (up V b 3 0) b) b (upN (upN N 3 x) 4 y) else up V b 3 (fitC (bI ((0 ≤ x ∧ x ≤ 100) ∧ 0 ≤ y ∧ y ≤ 1000)) 1 1))) := by
  refine gM_at (L0 := [(2, b), (0, x), (0, y), (9, 0)]) rfl rfl rfl ?_
  intro p e s m args below meth c hC hr hex hnm hz
  have hsc := hI.1.1
  unfold iScal at hsc
  refine gB hC _ _ _ _ _ _ _ qX12_setWeekend_0 rfl ?_
  refine g_cS1 hC dX12_setWeekend_5 mX12_35 sX12_in (kX12_in (by omega) (by omega) (by omega)) rfl rfl (Nat.le_of_ble_eq_true rfl) (RR rfl rfl rfl rfl) (fun z => ?_)
  refine g_if_eq hC 26 dX12_setWeekend_8 rfl (by first | omega | exact bI_in _) (fun c8 => ?_) (fun c8 => ?_)
  · have c8 := bI_0.mp c8
    refine gB hC _ _ _ _ _ _ _ qX12_setWeekend_26 rfl ?_
    refine gB hC _ _ _ _ _ _ _ qX12_setWeekend_27 rfl ?_
    refine g_cV1m hC dX12_setWeekend_29 mX12_111 vX12_fits (kX12_fitsC (C := (fitC (bI ((0 ≤ x ∧ x ≤ 100) ∧ 0 ≤ y ∧ y ≤ 1000)) 1 1)) hm (by first | omega | exact bI_in _) (by first | omega | exact bI_in _) (by first | omega | exact bI_in _) (fit_eq (by first | rfl | exact (bI_t (by omega)).symm | exact (bI_f (by omega)).symm) (by first | rfl | exact (bI_t (by omega)).symm | exact (bI_f (by omega)).symm) (by first | rfl | exact (bI_t (by omega)).symm | exact (bI_f (by omega)).symm))) rfl hm.1.1 (by decide) rfl (Nat.le_of_ble_eq_true rfl) (RR rfl rfl rfl rfl) (fun z V29 e29 => ?_)
    have hm29 := gMd_o hm e29 (Or.inr ⟨rfl, by decide⟩)
    have h229 : V29 b 2 = V b 2 := by rw [e29, up_ne _ _ (Or.inr (by decide))]
    refine g_if_ne hC 37 dX12_setWeekend_32 rfl (by first | omega | exact bI_in _) (fun c32 => ?_) (fun c32 => ?_)
    · exact absurd (bI_n0.mp c32) (fit_n1 (by first | rfl | exact bI_f (by omega)))
    · have cF := bI_0.mp c32
      refine gB hC _ _ _ _ _ _ _ qX12_setWeekend_35 rfl ?_
      refine g_ireturn hC dX12_setWeekend_36 hr ⟨?_, rfl, ?_, ?_⟩ gs_rfl ⟨Nat.le_of_ble_eq_true rfl, Nat.le_of_ble_eq_true rfl⟩
      · rw [if_neg cF]
      · rw [if_neg cF]; exact e29
      · rw [if_neg cF]; decide
  · have c8 := bI_n0.mp c8
    refine gB hC _ _ _ _ _ _ _ qX12_setWeekend_11 rfl ?_
    refine g_cS1 hC dX12_setWeekend_16 mX12_35 sX12_in (kX12_in (by omega) (by omega) (by omega)) rfl rfl (Nat.le_of_ble_eq_true rfl) (RR rfl rfl rfl rfl) (fun z => ?_)
    refine g_if_eq hC 26 dX12_setWeekend_19 rfl (by first | omega | exact bI_in _) (fun c19 => ?_) (fun c19 => ?_)
    · have c19 := bI_0.mp c19
      refine gB hC _ _ _ _ _ _ _ qX12_setWeekend_26 rfl ?_
      refine gB hC _ _ _ _ _ _ _ qX12_setWeekend_27 rfl ?_
      refine g_cV1m hC dX12_setWeekend_29 mX12_111 vX12_fits (kX12_fitsC (C := (fitC (bI ((0 ≤ x ∧ x ≤ 100) ∧ 0 ≤ y ∧ y ≤ 1000)) 1 1)) hm (by first | omega | exact bI_in _) (by first | omega | exact bI_in _) (by first | omega | exact bI_in _) (fit_eq (by first | rfl | exact (bI_t (by omega)).symm | exact (bI_f (by omega)).symm) (by first | rfl | exact (bI_t (by omega)).symm | exact (bI_f (by omega)).symm) (by first | rfl | exact (bI_t (by omega)).symm | exact (bI_f (by omega)).symm))) rfl hm.1.1 (by decide) rfl (Nat.le_of_ble_eq_true rfl) (RR rfl rfl rfl rfl) (fun z V29 e29 => ?_)
      have hm29 := gMd_o hm e29 (Or.inr ⟨rfl, by decide⟩)
      have h229 : V29 b 2 = V b 2 := by rw [e29, up_ne _ _ (Or.inr (by decide))]
      refine g_if_ne hC 37 dX12_setWeekend_32 rfl (by first | omega | exact bI_in _) (fun c32 => ?_) (fun c32 => ?_)
      · exact absurd (bI_n0.mp c32) (fit_n1 (by first | rfl | exact bI_f (by omega)))
      · have cF := bI_0.mp c32
        refine gB hC _ _ _ _ _ _ _ qX12_setWeekend_35 rfl ?_
        refine g_ireturn hC dX12_setWeekend_36 hr ⟨?_, rfl, ?_, ?_⟩ gs_rfl ⟨Nat.le_of_ble_eq_true rfl, Nat.le_of_ble_eq_true rfl⟩
        · rw [if_neg cF]
        · rw [if_neg cF]; exact e29
        · rw [if_neg cF]; decide
    · have c19 := bI_n0.mp c19
      refine gB hC _ _ _ _ _ _ _ qX12_setWeekend_22 rfl ?_
      refine gB hC _ _ _ _ _ _ _ qX12_setWeekend_27 rfl ?_
      refine g_cV1m hC dX12_setWeekend_29 mX12_111 vX12_fits (kX12_fitsC (C := (fitC (bI ((0 ≤ x ∧ x ≤ 100) ∧ 0 ≤ y ∧ y ≤ 1000)) 1 1)) hm (by first | omega | exact bI_in _) (by first | omega | exact bI_in _) (by first | omega | exact bI_in _) (fit_eq (by first | rfl | exact (bI_t (by omega)).symm | exact (bI_f (by omega)).symm) (by first | rfl | exact (bI_t (by omega)).symm | exact (bI_f (by omega)).symm) (by first | rfl | exact (bI_t (by omega)).symm | exact (bI_f (by omega)).symm))) rfl hm.1.1 (by decide) rfl (Nat.le_of_ble_eq_true rfl) (RR rfl rfl rfl rfl) (fun z V29 e29 => ?_)
      have hm29 := gMd_o hm e29 (Or.inr ⟨rfl, by decide⟩)
      have h229 : V29 b 2 = V b 2 := by rw [e29, up_ne _ _ (Or.inr (by decide))]
      refine g_if_ne hC 37 dX12_setWeekend_32 rfl (by first | omega | exact bI_in _) (fun c32 => ?_) (fun c32 => ?_)
      · have cF := bI_n0.mp c32
        have hp1 := fit_p1 cF
        refine gB hC _ _ _ _ _ _ _ qX12_setWeekend_37 rfl ?_
        refine g_cV0m hC dX12_setWeekend_38 mX12_115 vX12_keeps (kX12_keeps hm29 (by omega) (by omega)) rfl hm29.1.1 (by decide) rfl (Nat.le_of_ble_eq_true rfl) (RR rfl rfl rfl rfl) (fun z V38 e38 => ?_)
        have hm38 := gMd_kp hm29 e38
        refine gB hC _ _ _ _ _ _ _ qX12_setWeekend_41 rfl ?_
        refine g_getr hC dX12_setWeekend_42 fX12_9 hm38.1.1 (by decide) rfl 0 rfl hm38.2.1.1 ?_
        refine gB hC _ _ _ _ _ _ _ qX12_setWeekend_45 rfl ?_
        refine g_iald hC dX12_setWeekend_46 hm38.1.2.1 (gMd_at hm38 _) (by omega) (by omega) (by decide) (fun i46 => ?_)
        refine gB hC _ _ _ _ _ _ _ qX12_setWeekend_47 rfl ?_
        refine g_getr hC dX12_setWeekend_49 fX12_9 hm38.1.1 (by decide) rfl 0 rfl hm38.2.1.1 ?_
        refine gB hC _ _ _ _ _ _ _ qX12_setWeekend_52 rfl ?_
        refine g_ast hC dX12_setWeekend_54 hm38.1.2.1 (by omega) (by omega) (by decide) (by first | omega | exact bI_in _) (fun V54 e54 => ?_)
        have hw54 := gMw_up (gMw_in hm38) e54
        refine gB hC _ _ _ _ _ _ _ qX12_setWeekend_55 rfl ?_
        refine g_getr hC dX12_setWeekend_56 fX12_9 hw54.1.1.1 (by decide) rfl 0 rfl hw54.1.2.1.1 ?_
        refine gB hC _ _ _ _ _ _ _ qX12_setWeekend_59 rfl ?_
        refine g_ast hC dX12_setWeekend_61 hw54.1.1.2.1 (by omega) (by omega) (by decide) (by first | omega | exact bI_in _) (fun V61 e61 => ?_)
        have hw61 := gMw_up hw54 e61
        refine gB hC _ _ _ _ _ _ _ qX12_setWeekend_62 rfl ?_
        refine g_ireturn hC dX12_setWeekend_63 hr ⟨?_, rfl, ?_, ?_⟩ gs_rfl ⟨Nat.le_of_ble_eq_true rfl, Nat.le_of_ble_eq_true rfl⟩
        · rw [if_pos cF]
        · rw [if_pos cF, hw61.2, e38, e29, cF]
          first | done | rfl
        · rw [if_pos cF]
          omega
      · exact absurd (fit_ok (by first | rfl | exact bI_t (by omega)) (by first | rfl | exact bI_t (by omega)) (by first | rfl | exact bI_t (by omega))) (bI_0.mp c32)

theorem kX12_isDayOfYear {E l Sh V z} {d : Int} (h1 : inI d) : gM E l yX12_isDayOfYear (.code yX12_isDayOfYear cX12_isDayOfYear 1 (some .boolean)) (rmk 3 0 0 70) [(0, d)] Sh V z (gR (some (0, bI (0 < d ∧ d < 10000 ∧ dayZ (20000000 + d) ≠ -1))) Sh V) := by
  refine gM_at (L0 := [(0, d)]) rfl rfl rfl ?_
  intro p e s m args below meth c hC hr hex hnm hz
  refine gB hC _ _ _ _ _ _ _ qX12_isDayOfYear_0 rfl ?_
  refine g_if_le hC 25 dX12_isDayOfYear_1 rfl (by first | omega | exact bI_in _) (fun c1 => ?_) (fun c1 => ?_)
  · refine gB hC _ _ _ _ _ _ _ qX12_isDayOfYear_25 rfl ?_
    refine g_zreturn hC dX12_isDayOfYear_26 hr ?_ ⟨?_, rfl, rfl⟩ gs_rfl ⟨Nat.le_of_ble_eq_true rfl, Nat.le_of_ble_eq_true rfl⟩
    · first | exact Or.inl rfl | exact Or.inr rfl | exact bI_01 _
    first | rw [bI_f (by omega)] | rw [bI_t (by omega)]
  · refine gB hC _ _ _ _ _ _ _ qX12_isDayOfYear_4 rfl ?_
    refine g_icmp_ge hC 25 dX12_isDayOfYear_8 rfl (by first | omega | exact bI_in _) (by first | omega | exact bI_in _) (fun c8 => ?_) (fun c8 => ?_)
    · refine gB hC _ _ _ _ _ _ _ qX12_isDayOfYear_25 rfl ?_
      refine g_zreturn hC dX12_isDayOfYear_26 hr ?_ ⟨?_, rfl, rfl⟩ gs_rfl ⟨Nat.le_of_ble_eq_true rfl, Nat.le_of_ble_eq_true rfl⟩
      · first | exact Or.inl rfl | exact Or.inr rfl | exact bI_01 _
      first | rw [bI_f (by omega)] | rw [bI_t (by omega)]
    · refine g_ldc hC 20000000 kX12_128 rfl dX12_isDayOfYear_11 ?_
      refine gB hC _ _ _ _ _ _ _ qX12_isDayOfYear_13 rfl ?_
      refine g_cS1 hC dX12_isDayOfYear_15 mX12_121 sX12_isDate (kX12_isDate (by omega)) rfl rfl (Nat.le_of_ble_eq_true rfl) (RR rfl rfl rfl rfl) (fun z => ?_)
      refine g_if_eq hC 25 dX12_isDayOfYear_18 rfl (by first | omega | exact bI_in _) (fun c18 => ?_) (fun c18 => ?_)
      · have c18 := bI_0.mp c18
        refine gB hC _ _ _ _ _ _ _ qX12_isDayOfYear_25 rfl ?_
        refine g_zreturn hC dX12_isDayOfYear_26 hr ?_ ⟨?_, rfl, rfl⟩ gs_rfl ⟨Nat.le_of_ble_eq_true rfl, Nat.le_of_ble_eq_true rfl⟩
        · first | exact Or.inl rfl | exact Or.inr rfl | exact bI_01 _
        first | rw [bI_f (by omega)] | rw [bI_t (by omega)]
      · have c18 := bI_n0.mp c18
        refine gB hC _ _ _ _ _ _ _ qX12_isDayOfYear_21 rfl ?_
        refine g_zreturn hC dX12_isDayOfYear_26 hr ?_ ⟨?_, rfl, rfl⟩ gs_rfl ⟨Nat.le_of_ble_eq_true rfl, Nat.le_of_ble_eq_true rfl⟩
        · first | exact Or.inl rfl | exact Or.inr rfl | exact bI_01 _
        first | rw [bI_f (by omega)] | rw [bI_t (by omega)]

theorem kX12_canEnd {E l Sh V z} {b : Int} {N : gN0} {d : Int} (hm : gMd b N Sh V) (h0 : 0 ≤ N 0) (h1 : N 0 ≤ 36524) (h2 : inI d) : gM E l yX12_canEnd (.code yX12_canEnd cX12_canEnd 2 (some .boolean)) (rmk 0 0 0 0) [(2, b), (0, d)] Sh V z (gR (some (0, bI (d ≤ N 0 + 365 ∧ d < 36525))) Sh V) := by
  refine gM_at (L0 := [(2, b), (0, d)]) rfl rfl rfl ?_
  intro p e s m args below meth c hC hr hex hnm hz
  refine gB hC _ _ _ _ _ _ _ qX12_canEnd_0 rfl ?_
  refine g_getr hC dX12_canEnd_2 fX12_9 hm.1.1 (by decide) rfl 0 rfl hm.2.1.1 ?_
  refine gB hC _ _ _ _ _ _ _ qX12_canEnd_5 rfl ?_
  refine g_iald hC dX12_canEnd_6 hm.1.2.1 (gMd_at hm _) (by omega) (by omega) (by decide) (fun i6 => ?_)
  refine gB hC _ _ _ _ _ _ _ qX12_canEnd_7 rfl ?_
  refine g_icmp_gt hC 24 dX12_canEnd_11 rfl (by first | omega | exact bI_in _) (by first | omega | exact bI_in _) (fun c11 => ?_) (fun c11 => ?_)
  · refine gB hC _ _ _ _ _ _ _ qX12_canEnd_24 rfl ?_
    refine g_zreturn hC dX12_canEnd_25 hr ?_ ⟨?_, rfl, rfl⟩ gs_rfl ⟨Nat.le_of_ble_eq_true rfl, Nat.le_of_ble_eq_true rfl⟩
    · first | exact Or.inl rfl | exact Or.inr rfl | exact bI_01 _
    first | rw [bI_f (by omega)] | rw [bI_t (by omega)]
  · refine gB hC _ _ _ _ _ _ _ qX12_canEnd_14 rfl ?_
    refine g_ldc hC 36525 kX12_132 rfl dX12_canEnd_15 ?_
    refine g_icmp_ge hC 24 dX12_canEnd_17 rfl (by first | omega | exact bI_in _) (by first | omega | exact bI_in _) (fun c17 => ?_) (fun c17 => ?_)
    · refine gB hC _ _ _ _ _ _ _ qX12_canEnd_24 rfl ?_
      refine g_zreturn hC dX12_canEnd_25 hr ?_ ⟨?_, rfl, rfl⟩ gs_rfl ⟨Nat.le_of_ble_eq_true rfl, Nat.le_of_ble_eq_true rfl⟩
      · first | exact Or.inl rfl | exact Or.inr rfl | exact bI_01 _
      first | rw [bI_f (by omega)] | rw [bI_t (by omega)]
    · refine gB hC _ _ _ _ _ _ _ qX12_canEnd_20 rfl ?_
      refine g_zreturn hC dX12_canEnd_25 hr ?_ ⟨?_, rfl, rfl⟩ gs_rfl ⟨Nat.le_of_ble_eq_true rfl, Nat.le_of_ble_eq_true rfl⟩
      · first | exact Or.inl rfl | exact Or.inr rfl | exact bI_01 _
      first | rw [bI_f (by omega)] | rw [bI_t (by omega)]

abbrev askC (N : gN0) (first nights adults children : Int) : Prop := dayZ first ≠ -1 ∧ (1 ≤ nights ∧ nights ≤ 14) ∧ (1 ≤ adults ∧ adults ≤ 4) ∧ (0 ≤ children ∧ children ≤ 4) ∧ N 0 ≤ dayZ first ∧ dayZ first + nights - 1 ≤ N 0 + 365 ∧ dayZ first + nights - 1 < 36525
abbrev tilC (N : gN0) (till first : Int) : Prop := dayZ till ≠ -1 ∧ N 0 ≤ dayZ till ∧ dayZ till ≤ dayZ first
theorem doy_in {d : Int} (h : 0 < d ∧ d < 10000 ∧ dayZ (20000000 + d) ≠ -1) : 101 ≤ d ∧ d ≤ 1231 := by
  obtain ⟨h1, h2, h3⟩ := h
  unfold dayZ at h3
  split at h3
  · rename_i h
    have : dIM ((20000000 + d) / 10000) ((20000000 + d) / 100 % 100) ≤ 31 := by unfold dIM lp; (repeat' split) <;> omega
    omega
  · omega

theorem kX12_isAskable {E l Sh V z} {b : Int} {N : gN0} {first nights adults children : Int} (hm : gMd b N Sh V) (h0 : 0 ≤ N 0) (h1 : N 0 ≤ 36524) (i1 : inI first) (i2 : inI nights) (i3 : inI adults) (i4 : inI children) : gM E l yX12_isAskable (.code yX12_isAskable cX12_isAskable 5 (some .boolean)) (rmk 3 0 0 75) [(2, b), (0, first), (0, nights), (0, adults), (0, children)] Sh V z (gR (some (0, bI (askC N first nights adults children))) Sh V) := by
  refine gM_at (L0 := [(2, b), (0, first), (0, nights), (0, adults), (0, children)]) rfl rfl rfl ?_
  intro p e s m args below meth c hC hr hex hnm hz
  have hdf := dayZ_in first
  refine gB hC _ _ _ _ _ _ _ qX12_isAskable_0 rfl ?_
  refine g_cS1 hC dX12_isAskable_1 mX12_121 sX12_isDate (kX12_isDate (by omega)) rfl rfl (Nat.le_of_ble_eq_true rfl) (RR rfl rfl rfl rfl) (fun z => ?_)
  refine g_if_eq hC 68 dX12_isAskable_4 rfl (by first | omega | exact bI_in _) (fun c4 => ?_) (fun c4 => ?_)
  · have c4 := bI_0.mp c4
    refine gB hC _ _ _ _ _ _ _ qX12_isAskable_68 rfl ?_
    refine g_zreturn hC dX12_isAskable_69 hr ?_ ⟨?_, rfl, rfl⟩ gs_rfl ⟨Nat.le_of_ble_eq_true rfl, Nat.le_of_ble_eq_true rfl⟩
    · first | exact Or.inl rfl | exact Or.inr rfl | exact bI_01 _
    first | rw [bI_f (by omega)] | rw [bI_t (by omega)]
  · have c4 := bI_n0.mp c4
    refine gB hC _ _ _ _ _ _ _ qX12_isAskable_7 rfl ?_
    refine g_cS1 hC dX12_isAskable_11 mX12_35 sX12_in (kX12_in (by omega) (by omega) (by omega)) rfl rfl (Nat.le_of_ble_eq_true rfl) (RR rfl rfl rfl rfl) (fun z => ?_)
    refine g_if_eq hC 68 dX12_isAskable_14 rfl (by first | omega | exact bI_in _) (fun c14 => ?_) (fun c14 => ?_)
    · have c14 := bI_0.mp c14
      refine gB hC _ _ _ _ _ _ _ qX12_isAskable_68 rfl ?_
      refine g_zreturn hC dX12_isAskable_69 hr ?_ ⟨?_, rfl, rfl⟩ gs_rfl ⟨Nat.le_of_ble_eq_true rfl, Nat.le_of_ble_eq_true rfl⟩
      · first | exact Or.inl rfl | exact Or.inr rfl | exact bI_01 _
      first | rw [bI_f (by omega)] | rw [bI_t (by omega)]
    · have c14 := bI_n0.mp c14
      refine gB hC _ _ _ _ _ _ _ qX12_isAskable_17 rfl ?_
      refine g_cS1 hC dX12_isAskable_20 mX12_35 sX12_in (kX12_in (by omega) (by omega) (by omega)) rfl rfl (Nat.le_of_ble_eq_true rfl) (RR rfl rfl rfl rfl) (fun z => ?_)
      refine g_if_eq hC 68 dX12_isAskable_23 rfl (by first | omega | exact bI_in _) (fun c23 => ?_) (fun c23 => ?_)
      · have c23 := bI_0.mp c23
        refine gB hC _ _ _ _ _ _ _ qX12_isAskable_68 rfl ?_
        refine g_zreturn hC dX12_isAskable_69 hr ?_ ⟨?_, rfl, rfl⟩ gs_rfl ⟨Nat.le_of_ble_eq_true rfl, Nat.le_of_ble_eq_true rfl⟩
        · first | exact Or.inl rfl | exact Or.inr rfl | exact bI_01 _
        first | rw [bI_f (by omega)] | rw [bI_t (by omega)]
      · have c23 := bI_n0.mp c23
        refine gB hC _ _ _ _ _ _ _ qX12_isAskable_26 rfl ?_
        refine g_cS1 hC dX12_isAskable_30 mX12_35 sX12_in (kX12_in (by omega) (by omega) (by omega)) rfl rfl (Nat.le_of_ble_eq_true rfl) (RR rfl rfl rfl rfl) (fun z => ?_)
        refine g_if_eq hC 68 dX12_isAskable_33 rfl (by first | omega | exact bI_in _) (fun c33 => ?_) (fun c33 => ?_)
        · have c33 := bI_0.mp c33
          refine gB hC _ _ _ _ _ _ _ qX12_isAskable_68 rfl ?_
          refine g_zreturn hC dX12_isAskable_69 hr ?_ ⟨?_, rfl, rfl⟩ gs_rfl ⟨Nat.le_of_ble_eq_true rfl, Nat.le_of_ble_eq_true rfl⟩
          · first | exact Or.inl rfl | exact Or.inr rfl | exact bI_01 _
          first | rw [bI_f (by omega)] | rw [bI_t (by omega)]
        · have c33 := bI_n0.mp c33
          refine gB hC _ _ _ _ _ _ _ qX12_isAskable_36 rfl ?_
          refine g_cS1i hC dX12_isAskable_37 mX12_27 sX12_dayOf (kX12_dayOf (by omega)) rfl rfl (Nat.le_of_ble_eq_true rfl) (RR rfl rfl rfl rfl) (fun z i37 => ?_)
          refine gB hC _ _ _ _ _ _ _ qX12_isAskable_40 rfl ?_
          refine g_getr hC dX12_isAskable_41 fX12_9 hm.1.1 (by decide) rfl 0 rfl hm.2.1.1 ?_
          refine gB hC _ _ _ _ _ _ _ qX12_isAskable_44 rfl ?_
          refine g_iald hC dX12_isAskable_45 hm.1.2.1 (gMd_at hm _) (by omega) (by omega) (by decide) (fun i45 => ?_)
          refine g_icmp_lt hC 68 dX12_isAskable_46 rfl (by first | omega | exact bI_in _) (by first | omega | exact bI_in _) (fun c46 => ?_) (fun c46 => ?_)
          · refine gB hC _ _ _ _ _ _ _ qX12_isAskable_68 rfl ?_
            refine g_zreturn hC dX12_isAskable_69 hr ?_ ⟨?_, rfl, rfl⟩ gs_rfl ⟨Nat.le_of_ble_eq_true rfl, Nat.le_of_ble_eq_true rfl⟩
            · first | exact Or.inl rfl | exact Or.inr rfl | exact bI_01 _
            first | rw [bI_f (by omega)] | rw [bI_t (by omega)]
          · refine gB hC _ _ _ _ _ _ _ qX12_isAskable_49 rfl ?_
            refine g_cS1i hC dX12_isAskable_51 mX12_27 sX12_dayOf (kX12_dayOf (by omega)) rfl rfl (Nat.le_of_ble_eq_true rfl) (RR rfl rfl rfl rfl) (fun z i51 => ?_)
            refine gB hC _ _ _ _ _ _ _ qX12_isAskable_54 rfl ?_
            refine g_cV1 hC dX12_isAskable_58 mX12_133 vX12_canEnd (kX12_canEnd hm (by omega) (by omega) (by omega)) rfl hm.1.1 (by decide) rfl (Nat.le_of_ble_eq_true rfl) (RR rfl rfl rfl rfl) (fun z => ?_)
            refine g_if_eq hC 68 dX12_isAskable_61 rfl (by first | omega | exact bI_in _) (fun c61 => ?_) (fun c61 => ?_)
            · have c61 := bI_0.mp c61
              refine gB hC _ _ _ _ _ _ _ qX12_isAskable_68 rfl ?_
              refine g_zreturn hC dX12_isAskable_69 hr ?_ ⟨?_, rfl, rfl⟩ gs_rfl ⟨Nat.le_of_ble_eq_true rfl, Nat.le_of_ble_eq_true rfl⟩
              · first | exact Or.inl rfl | exact Or.inr rfl | exact bI_01 _
              first | rw [bI_f (by omega)] | rw [bI_t (by omega)]
            · have c61 := bI_n0.mp c61
              refine gB hC _ _ _ _ _ _ _ qX12_isAskable_64 rfl ?_
              refine g_zreturn hC dX12_isAskable_69 hr ?_ ⟨?_, rfl, rfl⟩ gs_rfl ⟨Nat.le_of_ble_eq_true rfl, Nat.le_of_ble_eq_true rfl⟩
              · first | exact Or.inl rfl | exact Or.inr rfl | exact bI_01 _
              first | rw [bI_f (by omega)] | rw [bI_t (by omega)]

theorem kX12_isTill {E l Sh V z} {b : Int} {N : gN0} {till first : Int} (hm : gMd b N Sh V) (h0 : 0 ≤ N 0) (h1 : N 0 ≤ 36524) (i1 : inI first) (i2 : inI till) : gM E l yX12_isTill (.code yX12_isTill cX12_isTill 3 (some .boolean)) (rmk 3 0 0 75) [(2, b), (0, till), (0, first)] Sh V z (gR (some (0, bI (tilC N till first))) Sh V) := by
  refine gM_at (L0 := [(2, b), (0, till), (0, first)]) rfl rfl rfl ?_
  intro p e s m args below meth c hC hr hex hnm hz
  have hdf := dayZ_in first
  have hdt := dayZ_in till
  refine gB hC _ _ _ _ _ _ _ qX12_isTill_0 rfl ?_
  refine g_cS1 hC dX12_isTill_1 mX12_121 sX12_isDate (kX12_isDate (by omega)) rfl rfl (Nat.le_of_ble_eq_true rfl) (RR rfl rfl rfl rfl) (fun z => ?_)
  refine g_if_eq hC 31 dX12_isTill_4 rfl (by first | omega | exact bI_in _) (fun c4 => ?_) (fun c4 => ?_)
  · have c4 := bI_0.mp c4
    refine gB hC _ _ _ _ _ _ _ qX12_isTill_31 rfl ?_
    refine g_zreturn hC dX12_isTill_32 hr ?_ ⟨?_, rfl, rfl⟩ gs_rfl ⟨Nat.le_of_ble_eq_true rfl, Nat.le_of_ble_eq_true rfl⟩
    · first | exact Or.inl rfl | exact Or.inr rfl | exact bI_01 _
    first | rw [bI_f (by omega)] | rw [bI_t (by omega)]
  · have c4 := bI_n0.mp c4
    refine gB hC _ _ _ _ _ _ _ qX12_isTill_7 rfl ?_
    refine g_cS1i hC dX12_isTill_8 mX12_27 sX12_dayOf (kX12_dayOf (by omega)) rfl rfl (Nat.le_of_ble_eq_true rfl) (RR rfl rfl rfl rfl) (fun z i8 => ?_)
    refine gB hC _ _ _ _ _ _ _ qX12_isTill_11 rfl ?_
    refine g_getr hC dX12_isTill_12 fX12_9 hm.1.1 (by decide) rfl 0 rfl hm.2.1.1 ?_
    refine gB hC _ _ _ _ _ _ _ qX12_isTill_15 rfl ?_
    refine g_iald hC dX12_isTill_16 hm.1.2.1 (gMd_at hm _) (by omega) (by omega) (by decide) (fun i16 => ?_)
    refine gB hC _ _ _ _ _ _ _ qX12_isTill_17 rfl ?_
    refine g_cS1i hC dX12_isTill_18 mX12_27 sX12_dayOf (kX12_dayOf (by omega)) rfl rfl (Nat.le_of_ble_eq_true rfl) (RR rfl rfl rfl rfl) (fun z i18 => ?_)
    refine g_cS1 hC dX12_isTill_21 mX12_35 sX12_in (kX12_in (by omega) (by omega) (by omega)) rfl rfl (Nat.le_of_ble_eq_true rfl) (RR rfl rfl rfl rfl) (fun z => ?_)
    refine g_if_eq hC 31 dX12_isTill_24 rfl (by first | omega | exact bI_in _) (fun c24 => ?_) (fun c24 => ?_)
    · have c24 := bI_0.mp c24
      refine gB hC _ _ _ _ _ _ _ qX12_isTill_31 rfl ?_
      refine g_zreturn hC dX12_isTill_32 hr ?_ ⟨?_, rfl, rfl⟩ gs_rfl ⟨Nat.le_of_ble_eq_true rfl, Nat.le_of_ble_eq_true rfl⟩
      · first | exact Or.inl rfl | exact Or.inr rfl | exact bI_01 _
      first | rw [bI_f (by omega)] | rw [bI_t (by omega)]
    · have c24 := bI_n0.mp c24
      refine gB hC _ _ _ _ _ _ _ qX12_isTill_27 rfl ?_
      refine g_zreturn hC dX12_isTill_32 hr ?_ ⟨?_, rfl, rfl⟩ gs_rfl ⟨Nat.le_of_ble_eq_true rfl, Nat.le_of_ble_eq_true rfl⟩
      · first | exact Or.inl rfl | exact Or.inr rfl | exact bI_01 _
      first | rw [bI_f (by omega)] | rw [bI_t (by omega)]

theorem kX12_addSeason {E l Sh V z} {b : Int} {N : gN0} {x y pe le9 : Int} (hm : gMd b N Sh V) (hI : INV N) (hv0 : 0 ≤ V b 2) (hv1 : V b 2 ≤ 6) (h1 : inI x) (h2 : inI y) (h3 : inI pe) (h4 : inI le9) : gM E l yX12_addSeason (.code yX12_addSeason cX12_addSeason 6 (some .int)) (rmk 8 0 0 200) [(2, b), (0, x), (0, y), (0, pe), (0, le9)] Sh V z (gRi (if (fitC (bI ((0 < x ∧ x < 10000 ∧ dayZ (20000000 + x) ≠ -1) ∧ (0 < y ∧ y < 10000 ∧ dayZ (20000000 + y) ≠ -1) ∧ (-50 ≤ pe ∧ pe ≤ 100) ∧ 1 ≤ le9 ∧ le9 ≤ 7)) (bI (N 2 < 4)) 1) = 0 then N 2 else 0) Sh (if (fitC (bI ((0 < x ∧ x < 10000 ∧ dayZ (20000000 + x) ≠ -1) ∧ (0 < y ∧ y < 10000 ∧ dayZ (20000000 + y) ≠ -1) ∧ (-50 ≤ pe ∧ pe ≤ 100) ∧ 1 ≤ le9 ∧ le9 ≤ 7)) (bI (N 2 < 4)) 1) = 0 then wrN (kpV (up V b 3 0) b) b (upN (upN (upN (upN (upN N (40 + N 2 * 4) x) (40 + N 2 * 4 + 1) y) (40 + N 2 * 4 + 2) pe) (40 + N 2 * 4 + 3) le9) 2 (N 2 + 1)) else up V b 3 (fitC (bI ((0 < x ∧ x < 10000 ∧ dayZ (20000000 + x) ≠ -1) ∧ (0 < y ∧ y < 10000 ∧ dayZ (20000000 + y) ≠ -1) ∧ (-50 ≤ pe ∧ pe ≤ 100) ∧ 1 ≤ le9 ∧ le9 ≤ 7)) (bI (N 2 < 4)) 1))) := by
  refine gM_at (L0 := [(2, b), (0, x), (0, y), (0, pe), (0, le9), (9, 0)]) rfl rfl rfl ?_
  intro p e s m args below meth c hC hr hex hnm hz
  have hsc := hI.1.1
  unfold iScal at hsc
  refine gB hC _ _ _ _ _ _ _ qX12_addSeason_0 rfl ?_
  refine g_cS1 hC dX12_addSeason_2 mX12_129 sX12_isDayOfYear (kX12_isDayOfYear (by omega)) rfl rfl (Nat.le_of_ble_eq_true rfl) (RR rfl rfl rfl rfl) (fun z => ?_)
  refine g_if_eq hC 41 dX12_addSeason_5 rfl (by first | omega | exact bI_in _) (fun c5 => ?_) (fun c5 => ?_)
  · have c5 := bI_0.mp c5
    refine gB hC _ _ _ _ _ _ _ qX12_addSeason_41 rfl ?_
    refine gB hC _ _ _ _ _ _ _ qX12_addSeason_42 rfl ?_
    refine g_getr hC dX12_addSeason_43 fX12_9 hm.1.1 (by decide) rfl 0 rfl hm.2.1.1 ?_
    refine gB hC _ _ _ _ _ _ _ qX12_addSeason_46 rfl ?_
    refine g_iald hC dX12_addSeason_47 hm.1.2.1 (gMd_at hm _) (by omega) (by omega) (by decide) (fun i47 => ?_)
    refine gB hC _ _ _ _ _ _ _ qX12_addSeason_48 rfl ?_
    refine g_icmp_ge hC 56 dX12_addSeason_49 rfl (by first | omega | exact bI_in _) (by first | omega | exact bI_in _) (fun c49 => ?_) (fun c49 => ?_)
    · refine gB hC _ _ _ _ _ _ _ qX12_addSeason_56 rfl ?_
      refine gB hC _ _ _ _ _ _ _ qX12_addSeason_57 rfl ?_
      refine g_cV1m hC dX12_addSeason_58 mX12_111 vX12_fits (kX12_fitsC (C := (fitC (bI ((0 < x ∧ x < 10000 ∧ dayZ (20000000 + x) ≠ -1) ∧ (0 < y ∧ y < 10000 ∧ dayZ (20000000 + y) ≠ -1) ∧ (-50 ≤ pe ∧ pe ≤ 100) ∧ 1 ≤ le9 ∧ le9 ≤ 7)) (bI (N 2 < 4)) 1)) hm (by first | omega | exact bI_in _) (by first | omega | exact bI_in _) (by first | omega | exact bI_in _) (fit_eq (by first | rfl | exact (bI_t (by omega)).symm | exact (bI_f (by omega)).symm) (by first | rfl | exact (bI_t (by omega)).symm | exact (bI_f (by omega)).symm) (by first | rfl | exact (bI_t (by omega)).symm | exact (bI_f (by omega)).symm))) rfl hm.1.1 (by decide) rfl (Nat.le_of_ble_eq_true rfl) (RR rfl rfl rfl rfl) (fun z V58 e58 => ?_)
      have hm58 := gMd_o hm e58 (Or.inr ⟨rfl, by decide⟩)
      have h258 : V58 b 2 = V b 2 := by rw [e58, up_ne _ _ (Or.inr (by decide))]
      refine g_if_ne hC 66 dX12_addSeason_61 rfl (by first | omega | exact bI_in _) (fun c61 => ?_) (fun c61 => ?_)
      · exact absurd (bI_n0.mp c61) (fit_n1 (by first | rfl | exact bI_f (by omega)))
      · have cF := bI_0.mp c61
        refine gB hC _ _ _ _ _ _ _ qX12_addSeason_64 rfl ?_
        refine g_ireturn hC dX12_addSeason_65 hr ⟨?_, rfl, ?_, ?_⟩ gs_rfl ⟨Nat.le_of_ble_eq_true rfl, Nat.le_of_ble_eq_true rfl⟩
        · rw [if_neg cF]
        · rw [if_neg cF]; exact e58
        · rw [if_neg cF]; decide
    · refine gB hC _ _ _ _ _ _ _ qX12_addSeason_52 rfl ?_
      refine gB hC _ _ _ _ _ _ _ qX12_addSeason_57 rfl ?_
      refine g_cV1m hC dX12_addSeason_58 mX12_111 vX12_fits (kX12_fitsC (C := (fitC (bI ((0 < x ∧ x < 10000 ∧ dayZ (20000000 + x) ≠ -1) ∧ (0 < y ∧ y < 10000 ∧ dayZ (20000000 + y) ≠ -1) ∧ (-50 ≤ pe ∧ pe ≤ 100) ∧ 1 ≤ le9 ∧ le9 ≤ 7)) (bI (N 2 < 4)) 1)) hm (by first | omega | exact bI_in _) (by first | omega | exact bI_in _) (by first | omega | exact bI_in _) (fit_eq (by first | rfl | exact (bI_t (by omega)).symm | exact (bI_f (by omega)).symm) (by first | rfl | exact (bI_t (by omega)).symm | exact (bI_f (by omega)).symm) (by first | rfl | exact (bI_t (by omega)).symm | exact (bI_f (by omega)).symm))) rfl hm.1.1 (by decide) rfl (Nat.le_of_ble_eq_true rfl) (RR rfl rfl rfl rfl) (fun z V58 e58 => ?_)
      have hm58 := gMd_o hm e58 (Or.inr ⟨rfl, by decide⟩)
      have h258 : V58 b 2 = V b 2 := by rw [e58, up_ne _ _ (Or.inr (by decide))]
      refine g_if_ne hC 66 dX12_addSeason_61 rfl (by first | omega | exact bI_in _) (fun c61 => ?_) (fun c61 => ?_)
      · exact absurd (bI_n0.mp c61) (fit_n1 (by first | rfl | exact bI_f (by omega)))
      · have cF := bI_0.mp c61
        refine gB hC _ _ _ _ _ _ _ qX12_addSeason_64 rfl ?_
        refine g_ireturn hC dX12_addSeason_65 hr ⟨?_, rfl, ?_, ?_⟩ gs_rfl ⟨Nat.le_of_ble_eq_true rfl, Nat.le_of_ble_eq_true rfl⟩
        · rw [if_neg cF]
        · rw [if_neg cF]; exact e58
        · rw [if_neg cF]; decide
  · have c5 := bI_n0.mp c5
    refine gB hC _ _ _ _ _ _ _ qX12_addSeason_8 rfl ?_
    refine g_cS1 hC dX12_addSeason_9 mX12_129 sX12_isDayOfYear (kX12_isDayOfYear (by omega)) rfl rfl (Nat.le_of_ble_eq_true rfl) (RR rfl rfl rfl rfl) (fun z => ?_)
    refine g_if_eq hC 41 dX12_addSeason_12 rfl (by first | omega | exact bI_in _) (fun c12 => ?_) (fun c12 => ?_)
    · have c12 := bI_0.mp c12
      refine gB hC _ _ _ _ _ _ _ qX12_addSeason_41 rfl ?_
      refine gB hC _ _ _ _ _ _ _ qX12_addSeason_42 rfl ?_
      refine g_getr hC dX12_addSeason_43 fX12_9 hm.1.1 (by decide) rfl 0 rfl hm.2.1.1 ?_
      refine gB hC _ _ _ _ _ _ _ qX12_addSeason_46 rfl ?_
      refine g_iald hC dX12_addSeason_47 hm.1.2.1 (gMd_at hm _) (by omega) (by omega) (by decide) (fun i47 => ?_)
      refine gB hC _ _ _ _ _ _ _ qX12_addSeason_48 rfl ?_
      refine g_icmp_ge hC 56 dX12_addSeason_49 rfl (by first | omega | exact bI_in _) (by first | omega | exact bI_in _) (fun c49 => ?_) (fun c49 => ?_)
      · refine gB hC _ _ _ _ _ _ _ qX12_addSeason_56 rfl ?_
        refine gB hC _ _ _ _ _ _ _ qX12_addSeason_57 rfl ?_
        refine g_cV1m hC dX12_addSeason_58 mX12_111 vX12_fits (kX12_fitsC (C := (fitC (bI ((0 < x ∧ x < 10000 ∧ dayZ (20000000 + x) ≠ -1) ∧ (0 < y ∧ y < 10000 ∧ dayZ (20000000 + y) ≠ -1) ∧ (-50 ≤ pe ∧ pe ≤ 100) ∧ 1 ≤ le9 ∧ le9 ≤ 7)) (bI (N 2 < 4)) 1)) hm (by first | omega | exact bI_in _) (by first | omega | exact bI_in _) (by first | omega | exact bI_in _) (fit_eq (by first | rfl | exact (bI_t (by omega)).symm | exact (bI_f (by omega)).symm) (by first | rfl | exact (bI_t (by omega)).symm | exact (bI_f (by omega)).symm) (by first | rfl | exact (bI_t (by omega)).symm | exact (bI_f (by omega)).symm))) rfl hm.1.1 (by decide) rfl (Nat.le_of_ble_eq_true rfl) (RR rfl rfl rfl rfl) (fun z V58 e58 => ?_)
        have hm58 := gMd_o hm e58 (Or.inr ⟨rfl, by decide⟩)
        have h258 : V58 b 2 = V b 2 := by rw [e58, up_ne _ _ (Or.inr (by decide))]
        refine g_if_ne hC 66 dX12_addSeason_61 rfl (by first | omega | exact bI_in _) (fun c61 => ?_) (fun c61 => ?_)
        · exact absurd (bI_n0.mp c61) (fit_n1 (by first | rfl | exact bI_f (by omega)))
        · have cF := bI_0.mp c61
          refine gB hC _ _ _ _ _ _ _ qX12_addSeason_64 rfl ?_
          refine g_ireturn hC dX12_addSeason_65 hr ⟨?_, rfl, ?_, ?_⟩ gs_rfl ⟨Nat.le_of_ble_eq_true rfl, Nat.le_of_ble_eq_true rfl⟩
          · rw [if_neg cF]
          · rw [if_neg cF]; exact e58
          · rw [if_neg cF]; decide
      · refine gB hC _ _ _ _ _ _ _ qX12_addSeason_52 rfl ?_
        refine gB hC _ _ _ _ _ _ _ qX12_addSeason_57 rfl ?_
        refine g_cV1m hC dX12_addSeason_58 mX12_111 vX12_fits (kX12_fitsC (C := (fitC (bI ((0 < x ∧ x < 10000 ∧ dayZ (20000000 + x) ≠ -1) ∧ (0 < y ∧ y < 10000 ∧ dayZ (20000000 + y) ≠ -1) ∧ (-50 ≤ pe ∧ pe ≤ 100) ∧ 1 ≤ le9 ∧ le9 ≤ 7)) (bI (N 2 < 4)) 1)) hm (by first | omega | exact bI_in _) (by first | omega | exact bI_in _) (by first | omega | exact bI_in _) (fit_eq (by first | rfl | exact (bI_t (by omega)).symm | exact (bI_f (by omega)).symm) (by first | rfl | exact (bI_t (by omega)).symm | exact (bI_f (by omega)).symm) (by first | rfl | exact (bI_t (by omega)).symm | exact (bI_f (by omega)).symm))) rfl hm.1.1 (by decide) rfl (Nat.le_of_ble_eq_true rfl) (RR rfl rfl rfl rfl) (fun z V58 e58 => ?_)
        have hm58 := gMd_o hm e58 (Or.inr ⟨rfl, by decide⟩)
        have h258 : V58 b 2 = V b 2 := by rw [e58, up_ne _ _ (Or.inr (by decide))]
        refine g_if_ne hC 66 dX12_addSeason_61 rfl (by first | omega | exact bI_in _) (fun c61 => ?_) (fun c61 => ?_)
        · exact absurd (bI_n0.mp c61) (fit_n1 (by first | rfl | exact bI_f (by omega)))
        · have cF := bI_0.mp c61
          refine gB hC _ _ _ _ _ _ _ qX12_addSeason_64 rfl ?_
          refine g_ireturn hC dX12_addSeason_65 hr ⟨?_, rfl, ?_, ?_⟩ gs_rfl ⟨Nat.le_of_ble_eq_true rfl, Nat.le_of_ble_eq_true rfl⟩
          · rw [if_neg cF]
          · rw [if_neg cF]; exact e58
          · rw [if_neg cF]; decide
    · have c12 := bI_n0.mp c12
      refine gB hC _ _ _ _ _ _ _ qX12_addSeason_15 rfl ?_
      refine g_cS1 hC dX12_addSeason_20 mX12_35 sX12_in (kX12_in (by omega) (by omega) (by omega)) rfl rfl (Nat.le_of_ble_eq_true rfl) (RR rfl rfl rfl rfl) (fun z => ?_)
      refine g_if_eq hC 41 dX12_addSeason_23 rfl (by first | omega | exact bI_in _) (fun c23 => ?_) (fun c23 => ?_)
      · have c23 := bI_0.mp c23
        refine gB hC _ _ _ _ _ _ _ qX12_addSeason_41 rfl ?_
        refine gB hC _ _ _ _ _ _ _ qX12_addSeason_42 rfl ?_
        refine g_getr hC dX12_addSeason_43 fX12_9 hm.1.1 (by decide) rfl 0 rfl hm.2.1.1 ?_
        refine gB hC _ _ _ _ _ _ _ qX12_addSeason_46 rfl ?_
        refine g_iald hC dX12_addSeason_47 hm.1.2.1 (gMd_at hm _) (by omega) (by omega) (by decide) (fun i47 => ?_)
        refine gB hC _ _ _ _ _ _ _ qX12_addSeason_48 rfl ?_
        refine g_icmp_ge hC 56 dX12_addSeason_49 rfl (by first | omega | exact bI_in _) (by first | omega | exact bI_in _) (fun c49 => ?_) (fun c49 => ?_)
        · refine gB hC _ _ _ _ _ _ _ qX12_addSeason_56 rfl ?_
          refine gB hC _ _ _ _ _ _ _ qX12_addSeason_57 rfl ?_
          refine g_cV1m hC dX12_addSeason_58 mX12_111 vX12_fits (kX12_fitsC (C := (fitC (bI ((0 < x ∧ x < 10000 ∧ dayZ (20000000 + x) ≠ -1) ∧ (0 < y ∧ y < 10000 ∧ dayZ (20000000 + y) ≠ -1) ∧ (-50 ≤ pe ∧ pe ≤ 100) ∧ 1 ≤ le9 ∧ le9 ≤ 7)) (bI (N 2 < 4)) 1)) hm (by first | omega | exact bI_in _) (by first | omega | exact bI_in _) (by first | omega | exact bI_in _) (fit_eq (by first | rfl | exact (bI_t (by omega)).symm | exact (bI_f (by omega)).symm) (by first | rfl | exact (bI_t (by omega)).symm | exact (bI_f (by omega)).symm) (by first | rfl | exact (bI_t (by omega)).symm | exact (bI_f (by omega)).symm))) rfl hm.1.1 (by decide) rfl (Nat.le_of_ble_eq_true rfl) (RR rfl rfl rfl rfl) (fun z V58 e58 => ?_)
          have hm58 := gMd_o hm e58 (Or.inr ⟨rfl, by decide⟩)
          have h258 : V58 b 2 = V b 2 := by rw [e58, up_ne _ _ (Or.inr (by decide))]
          refine g_if_ne hC 66 dX12_addSeason_61 rfl (by first | omega | exact bI_in _) (fun c61 => ?_) (fun c61 => ?_)
          · exact absurd (bI_n0.mp c61) (fit_n1 (by first | rfl | exact bI_f (by omega)))
          · have cF := bI_0.mp c61
            refine gB hC _ _ _ _ _ _ _ qX12_addSeason_64 rfl ?_
            refine g_ireturn hC dX12_addSeason_65 hr ⟨?_, rfl, ?_, ?_⟩ gs_rfl ⟨Nat.le_of_ble_eq_true rfl, Nat.le_of_ble_eq_true rfl⟩
            · rw [if_neg cF]
            · rw [if_neg cF]; exact e58
            · rw [if_neg cF]; decide
        · refine gB hC _ _ _ _ _ _ _ qX12_addSeason_52 rfl ?_
          refine gB hC _ _ _ _ _ _ _ qX12_addSeason_57 rfl ?_
          refine g_cV1m hC dX12_addSeason_58 mX12_111 vX12_fits (kX12_fitsC (C := (fitC (bI ((0 < x ∧ x < 10000 ∧ dayZ (20000000 + x) ≠ -1) ∧ (0 < y ∧ y < 10000 ∧ dayZ (20000000 + y) ≠ -1) ∧ (-50 ≤ pe ∧ pe ≤ 100) ∧ 1 ≤ le9 ∧ le9 ≤ 7)) (bI (N 2 < 4)) 1)) hm (by first | omega | exact bI_in _) (by first | omega | exact bI_in _) (by first | omega | exact bI_in _) (fit_eq (by first | rfl | exact (bI_t (by omega)).symm | exact (bI_f (by omega)).symm) (by first | rfl | exact (bI_t (by omega)).symm | exact (bI_f (by omega)).symm) (by first | rfl | exact (bI_t (by omega)).symm | exact (bI_f (by omega)).symm))) rfl hm.1.1 (by decide) rfl (Nat.le_of_ble_eq_true rfl) (RR rfl rfl rfl rfl) (fun z V58 e58 => ?_)
          have hm58 := gMd_o hm e58 (Or.inr ⟨rfl, by decide⟩)
          have h258 : V58 b 2 = V b 2 := by rw [e58, up_ne _ _ (Or.inr (by decide))]
          refine g_if_ne hC 66 dX12_addSeason_61 rfl (by first | omega | exact bI_in _) (fun c61 => ?_) (fun c61 => ?_)
          · exact absurd (bI_n0.mp c61) (fit_n1 (by first | rfl | exact bI_f (by omega)))
          · have cF := bI_0.mp c61
            refine gB hC _ _ _ _ _ _ _ qX12_addSeason_64 rfl ?_
            refine g_ireturn hC dX12_addSeason_65 hr ⟨?_, rfl, ?_, ?_⟩ gs_rfl ⟨Nat.le_of_ble_eq_true rfl, Nat.le_of_ble_eq_true rfl⟩
            · rw [if_neg cF]
            · rw [if_neg cF]; exact e58
            · rw [if_neg cF]; decide
      · have c23 := bI_n0.mp c23
        refine gB hC _ _ _ _ _ _ _ qX12_addSeason_26 rfl ?_
        refine g_cS1 hC dX12_addSeason_31 mX12_35 sX12_in (kX12_in (by omega) (by omega) (by omega)) rfl rfl (Nat.le_of_ble_eq_true rfl) (RR rfl rfl rfl rfl) (fun z => ?_)
        refine g_if_eq hC 41 dX12_addSeason_34 rfl (by first | omega | exact bI_in _) (fun c34 => ?_) (fun c34 => ?_)
        · have c34 := bI_0.mp c34
          refine gB hC _ _ _ _ _ _ _ qX12_addSeason_41 rfl ?_
          refine gB hC _ _ _ _ _ _ _ qX12_addSeason_42 rfl ?_
          refine g_getr hC dX12_addSeason_43 fX12_9 hm.1.1 (by decide) rfl 0 rfl hm.2.1.1 ?_
          refine gB hC _ _ _ _ _ _ _ qX12_addSeason_46 rfl ?_
          refine g_iald hC dX12_addSeason_47 hm.1.2.1 (gMd_at hm _) (by omega) (by omega) (by decide) (fun i47 => ?_)
          refine gB hC _ _ _ _ _ _ _ qX12_addSeason_48 rfl ?_
          refine g_icmp_ge hC 56 dX12_addSeason_49 rfl (by first | omega | exact bI_in _) (by first | omega | exact bI_in _) (fun c49 => ?_) (fun c49 => ?_)
          · refine gB hC _ _ _ _ _ _ _ qX12_addSeason_56 rfl ?_
            refine gB hC _ _ _ _ _ _ _ qX12_addSeason_57 rfl ?_
            refine g_cV1m hC dX12_addSeason_58 mX12_111 vX12_fits (kX12_fitsC (C := (fitC (bI ((0 < x ∧ x < 10000 ∧ dayZ (20000000 + x) ≠ -1) ∧ (0 < y ∧ y < 10000 ∧ dayZ (20000000 + y) ≠ -1) ∧ (-50 ≤ pe ∧ pe ≤ 100) ∧ 1 ≤ le9 ∧ le9 ≤ 7)) (bI (N 2 < 4)) 1)) hm (by first | omega | exact bI_in _) (by first | omega | exact bI_in _) (by first | omega | exact bI_in _) (fit_eq (by first | rfl | exact (bI_t (by omega)).symm | exact (bI_f (by omega)).symm) (by first | rfl | exact (bI_t (by omega)).symm | exact (bI_f (by omega)).symm) (by first | rfl | exact (bI_t (by omega)).symm | exact (bI_f (by omega)).symm))) rfl hm.1.1 (by decide) rfl (Nat.le_of_ble_eq_true rfl) (RR rfl rfl rfl rfl) (fun z V58 e58 => ?_)
            have hm58 := gMd_o hm e58 (Or.inr ⟨rfl, by decide⟩)
            have h258 : V58 b 2 = V b 2 := by rw [e58, up_ne _ _ (Or.inr (by decide))]
            refine g_if_ne hC 66 dX12_addSeason_61 rfl (by first | omega | exact bI_in _) (fun c61 => ?_) (fun c61 => ?_)
            · exact absurd (bI_n0.mp c61) (fit_n1 (by first | rfl | exact bI_f (by omega)))
            · have cF := bI_0.mp c61
              refine gB hC _ _ _ _ _ _ _ qX12_addSeason_64 rfl ?_
              refine g_ireturn hC dX12_addSeason_65 hr ⟨?_, rfl, ?_, ?_⟩ gs_rfl ⟨Nat.le_of_ble_eq_true rfl, Nat.le_of_ble_eq_true rfl⟩
              · rw [if_neg cF]
              · rw [if_neg cF]; exact e58
              · rw [if_neg cF]; decide
          · refine gB hC _ _ _ _ _ _ _ qX12_addSeason_52 rfl ?_
            refine gB hC _ _ _ _ _ _ _ qX12_addSeason_57 rfl ?_
            refine g_cV1m hC dX12_addSeason_58 mX12_111 vX12_fits (kX12_fitsC (C := (fitC (bI ((0 < x ∧ x < 10000 ∧ dayZ (20000000 + x) ≠ -1) ∧ (0 < y ∧ y < 10000 ∧ dayZ (20000000 + y) ≠ -1) ∧ (-50 ≤ pe ∧ pe ≤ 100) ∧ 1 ≤ le9 ∧ le9 ≤ 7)) (bI (N 2 < 4)) 1)) hm (by first | omega | exact bI_in _) (by first | omega | exact bI_in _) (by first | omega | exact bI_in _) (fit_eq (by first | rfl | exact (bI_t (by omega)).symm | exact (bI_f (by omega)).symm) (by first | rfl | exact (bI_t (by omega)).symm | exact (bI_f (by omega)).symm) (by first | rfl | exact (bI_t (by omega)).symm | exact (bI_f (by omega)).symm))) rfl hm.1.1 (by decide) rfl (Nat.le_of_ble_eq_true rfl) (RR rfl rfl rfl rfl) (fun z V58 e58 => ?_)
            have hm58 := gMd_o hm e58 (Or.inr ⟨rfl, by decide⟩)
            have h258 : V58 b 2 = V b 2 := by rw [e58, up_ne _ _ (Or.inr (by decide))]
            refine g_if_ne hC 66 dX12_addSeason_61 rfl (by first | omega | exact bI_in _) (fun c61 => ?_) (fun c61 => ?_)
            · exact absurd (bI_n0.mp c61) (fit_n1 (by first | rfl | exact bI_f (by omega)))
            · have cF := bI_0.mp c61
              refine gB hC _ _ _ _ _ _ _ qX12_addSeason_64 rfl ?_
              refine g_ireturn hC dX12_addSeason_65 hr ⟨?_, rfl, ?_, ?_⟩ gs_rfl ⟨Nat.le_of_ble_eq_true rfl, Nat.le_of_ble_eq_true rfl⟩
              · rw [if_neg cF]
              · rw [if_neg cF]; exact e58
              · rw [if_neg cF]; decide
        · have c34 := bI_n0.mp c34
          refine gB hC _ _ _ _ _ _ _ qX12_addSeason_37 rfl ?_
          refine gB hC _ _ _ _ _ _ _ qX12_addSeason_42 rfl ?_
          refine g_getr hC dX12_addSeason_43 fX12_9 hm.1.1 (by decide) rfl 0 rfl hm.2.1.1 ?_
          refine gB hC _ _ _ _ _ _ _ qX12_addSeason_46 rfl ?_
          refine g_iald hC dX12_addSeason_47 hm.1.2.1 (gMd_at hm _) (by omega) (by omega) (by decide) (fun i47 => ?_)
          refine gB hC _ _ _ _ _ _ _ qX12_addSeason_48 rfl ?_
          refine g_icmp_ge hC 56 dX12_addSeason_49 rfl (by first | omega | exact bI_in _) (by first | omega | exact bI_in _) (fun c49 => ?_) (fun c49 => ?_)
          · refine gB hC _ _ _ _ _ _ _ qX12_addSeason_56 rfl ?_
            refine gB hC _ _ _ _ _ _ _ qX12_addSeason_57 rfl ?_
            refine g_cV1m hC dX12_addSeason_58 mX12_111 vX12_fits (kX12_fitsC (C := (fitC (bI ((0 < x ∧ x < 10000 ∧ dayZ (20000000 + x) ≠ -1) ∧ (0 < y ∧ y < 10000 ∧ dayZ (20000000 + y) ≠ -1) ∧ (-50 ≤ pe ∧ pe ≤ 100) ∧ 1 ≤ le9 ∧ le9 ≤ 7)) (bI (N 2 < 4)) 1)) hm (by first | omega | exact bI_in _) (by first | omega | exact bI_in _) (by first | omega | exact bI_in _) (fit_eq (by first | rfl | exact (bI_t (by omega)).symm | exact (bI_f (by omega)).symm) (by first | rfl | exact (bI_t (by omega)).symm | exact (bI_f (by omega)).symm) (by first | rfl | exact (bI_t (by omega)).symm | exact (bI_f (by omega)).symm))) rfl hm.1.1 (by decide) rfl (Nat.le_of_ble_eq_true rfl) (RR rfl rfl rfl rfl) (fun z V58 e58 => ?_)
            have hm58 := gMd_o hm e58 (Or.inr ⟨rfl, by decide⟩)
            have h258 : V58 b 2 = V b 2 := by rw [e58, up_ne _ _ (Or.inr (by decide))]
            refine g_if_ne hC 66 dX12_addSeason_61 rfl (by first | omega | exact bI_in _) (fun c61 => ?_) (fun c61 => ?_)
            · exact absurd (bI_n0.mp c61) (fit_n2 (by first | rfl | exact bI_f (by omega)))
            · have cF := bI_0.mp c61
              refine gB hC _ _ _ _ _ _ _ qX12_addSeason_64 rfl ?_
              refine g_ireturn hC dX12_addSeason_65 hr ⟨?_, rfl, ?_, ?_⟩ gs_rfl ⟨Nat.le_of_ble_eq_true rfl, Nat.le_of_ble_eq_true rfl⟩
              · rw [if_neg cF]
              · rw [if_neg cF]; exact e58
              · rw [if_neg cF]; decide
          · refine gB hC _ _ _ _ _ _ _ qX12_addSeason_52 rfl ?_
            refine gB hC _ _ _ _ _ _ _ qX12_addSeason_57 rfl ?_
            refine g_cV1m hC dX12_addSeason_58 mX12_111 vX12_fits (kX12_fitsC (C := (fitC (bI ((0 < x ∧ x < 10000 ∧ dayZ (20000000 + x) ≠ -1) ∧ (0 < y ∧ y < 10000 ∧ dayZ (20000000 + y) ≠ -1) ∧ (-50 ≤ pe ∧ pe ≤ 100) ∧ 1 ≤ le9 ∧ le9 ≤ 7)) (bI (N 2 < 4)) 1)) hm (by first | omega | exact bI_in _) (by first | omega | exact bI_in _) (by first | omega | exact bI_in _) (fit_eq (by first | rfl | exact (bI_t (by omega)).symm | exact (bI_f (by omega)).symm) (by first | rfl | exact (bI_t (by omega)).symm | exact (bI_f (by omega)).symm) (by first | rfl | exact (bI_t (by omega)).symm | exact (bI_f (by omega)).symm))) rfl hm.1.1 (by decide) rfl (Nat.le_of_ble_eq_true rfl) (RR rfl rfl rfl rfl) (fun z V58 e58 => ?_)
            have hm58 := gMd_o hm e58 (Or.inr ⟨rfl, by decide⟩)
            have h258 : V58 b 2 = V b 2 := by rw [e58, up_ne _ _ (Or.inr (by decide))]
            refine g_if_ne hC 66 dX12_addSeason_61 rfl (by first | omega | exact bI_in _) (fun c61 => ?_) (fun c61 => ?_)
            · have cF := bI_n0.mp c61
              have hp1 := fit_p1 cF
              have hp2 := fit_p2 cF
              refine gB hC _ _ _ _ _ _ _ qX12_addSeason_66 rfl ?_
              refine g_cV0m hC dX12_addSeason_67 mX12_115 vX12_keeps (kX12_keeps hm58 (by omega) (by omega)) rfl hm58.1.1 (by decide) rfl (Nat.le_of_ble_eq_true rfl) (RR rfl rfl rfl rfl) (fun z V67 e67 => ?_)
              have hm67 := gMd_kp hm58 e67
              refine gB hC _ _ _ _ _ _ _ qX12_addSeason_70 rfl ?_
              refine g_getr hC dX12_addSeason_73 fX12_9 hm67.1.1 (by decide) rfl 0 rfl hm67.2.1.1 ?_
              refine gB hC _ _ _ _ _ _ _ qX12_addSeason_76 rfl ?_
              refine g_iald hC dX12_addSeason_77 hm67.1.2.1 (gMd_at hm67 _) (by omega) (by omega) (by decide) (fun i77 => ?_)
              refine gB hC _ _ _ _ _ _ _ qX12_addSeason_78 rfl ?_
              refine g_getr hC dX12_addSeason_84 fX12_9 hm67.1.1 (by decide) rfl 0 rfl hm67.2.1.1 ?_
              refine gB hC _ _ _ _ _ _ _ qX12_addSeason_87 rfl ?_
              refine g_ast hC dX12_addSeason_90 hm67.1.2.1 (by omega) (by omega) (by decide) (by first | omega | exact bI_in _) (fun V90 e90 => ?_)
              have hw90 := gMw_up (gMw_in hm67) e90
              refine gB hC _ _ _ _ _ _ _ qX12_addSeason_91 rfl ?_
              refine g_getr hC dX12_addSeason_92 fX12_9 hw90.1.1.1 (by decide) rfl 0 rfl hw90.1.2.1.1 ?_
              refine gB hC _ _ _ _ _ _ _ qX12_addSeason_95 rfl ?_
              refine g_ast hC dX12_addSeason_100 hw90.1.1.2.1 (by omega) (by omega) (by decide) (by first | omega | exact bI_in _) (fun V100 e100 => ?_)
              have hw100 := gMw_up hw90 e100
              refine gB hC _ _ _ _ _ _ _ qX12_addSeason_101 rfl ?_
              refine g_getr hC dX12_addSeason_102 fX12_9 hw100.1.1.1 (by decide) rfl 0 rfl hw100.1.2.1.1 ?_
              refine gB hC _ _ _ _ _ _ _ qX12_addSeason_105 rfl ?_
              refine g_ast hC dX12_addSeason_110 hw100.1.1.2.1 (by omega) (by omega) (by decide) (by first | omega | exact bI_in _) (fun V110 e110 => ?_)
              have hw110 := gMw_up hw100 e110
              refine gB hC _ _ _ _ _ _ _ qX12_addSeason_111 rfl ?_
              refine g_getr hC dX12_addSeason_112 fX12_9 hw110.1.1.1 (by decide) rfl 0 rfl hw110.1.2.1.1 ?_
              refine gB hC _ _ _ _ _ _ _ qX12_addSeason_115 rfl ?_
              refine g_ast hC dX12_addSeason_121 hw110.1.1.2.1 (by omega) (by omega) (by decide) (by first | omega | exact bI_in _) (fun V121 e121 => ?_)
              have hw121 := gMw_up hw110 e121
              refine gB hC _ _ _ _ _ _ _ qX12_addSeason_122 rfl ?_
              refine g_getr hC dX12_addSeason_123 fX12_9 hw121.1.1.1 (by decide) rfl 0 rfl hw121.1.2.1.1 ?_
              refine gB hC _ _ _ _ _ _ _ qX12_addSeason_126 rfl ?_
              refine g_iald hC dX12_addSeason_128 hw121.1.1.2.1 (gMd_at hw121.1 _) (by omega) (by omega) (by decide) (fun i128 => ?_)
              repeat rw [upN_ne (by omega)]
              refine gB hC _ _ _ _ _ _ _ qX12_addSeason_129 rfl ?_
              refine g_ast hC dX12_addSeason_131 hw121.1.1.2.1 (by omega) (by omega) (by decide) (by first | omega | exact bI_in _) (fun V131 e131 => ?_)
              have hw131 := gMw_up hw121 e131
              refine gB hC _ _ _ _ _ _ _ qX12_addSeason_132 rfl ?_
              refine g_getr hC dX12_addSeason_133 fX12_9 hw131.1.1.1 (by decide) rfl 0 rfl hw131.1.2.1.1 ?_
              refine gB hC _ _ _ _ _ _ _ qX12_addSeason_136 rfl ?_
              refine g_iald hC dX12_addSeason_137 hw131.1.1.2.1 (gMd_at hw131.1 _) (by omega) (by omega) (by decide) (fun i137 => ?_)
              rw [upN_eq]
              refine gB hC _ _ _ _ _ _ _ qX12_addSeason_138 rfl ?_
              refine g_ireturn hC dX12_addSeason_140 hr ⟨?_, rfl, ?_, ?_⟩ gs_rfl ⟨Nat.le_of_ble_eq_true rfl, Nat.le_of_ble_eq_true rfl⟩
              · rw [if_pos cF]
                congr 3; omega
              · rw [if_pos cF, hw131.2, e67, e58, cF]
                first | done | rfl
              · rw [if_pos cF]
                omega
            · exact absurd (fit_ok (by first | rfl | exact bI_t (by omega)) (by first | rfl | exact bI_t (by omega)) (by first | rfl | exact bI_t (by omega))) (bI_0.mp c61)

theorem rfd_in (N : gN0) {k first nights : Int} (h0 : 0 ≤ first) (h1 : first + nights ≤ 36525) : rfd N k first nights = -1 ∨ (0 ≤ rfd N k first nights ∧ rfd N k first nights ≤ 36524) ∨ (nights < 1) := by
  have h := rfs_in N k first nights h0 h1
  unfold rfd
  (repeat' split) <;> omega

theorem kX12_ask {E l Sh V z} {b : Int} {N : gN0} {k0 first nights adults children till : Int} (hm : gMd b N Sh V) (hI : INV N) (hv0 : 0 ≤ V b 2) (hv1 : V b 2 ≤ 6) (hk : inI k0) (i1 : inI first) (i2 : inI nights) (i3 : inI adults) (i4 : inI children) (i5 : inI till) : gM E l yX12_ask (.code yX12_ask cX12_ask 8 (some .int)) (rmk 8 0 0 200) [(2, b), (0, k0), (0, first), (0, nights), (0, adults), (0, children), (0, till)] Sh V z (gRi (if (fitC (bI (0 ≤ k0 ∧ k0 ≤ N 1 - 1)) (bI (askC N first nights adults children ∧ tilC N till first)) (bI (N 5 < 60))) = 0 then if rfd N k0 (dayZ first) nights = -1 then N 5 else -1 else 0) Sh (if (fitC (bI (0 ≤ k0 ∧ k0 ≤ N 1 - 1)) (bI (askC N first nights adults children ∧ tilC N till first)) (bI (N 5 < 60))) = 0 then wrN (kpV (up V b 3 0) b) b (if rfd N k0 (dayZ first) nights = -1 then mkN N k0 (dayZ first) nights adults children (dayZ till) (-1) else upN N 8 (dateZ (rfd N k0 (dayZ first) nights))) else up V b 3 (fitC (bI (0 ≤ k0 ∧ k0 ≤ N 1 - 1)) (bI (askC N first nights adults children ∧ tilC N till first)) (bI (N 5 < 60))))) := by
  refine gM_at (L0 := [(2, b), (0, k0), (0, first), (0, nights), (0, adults), (0, children), (0, till), (9, 0)]) rfl rfl rfl ?_
  intro p e s m args below meth c hC hr hex hnm hz
  have hsc := hI.1.1
  unfold iScal at hsc
  have hdf := dayZ_in first
  have hdt := dayZ_in till
  refine gB hC _ _ _ _ _ _ _ qX12_ask_0 rfl ?_
  refine g_cV1 hC dX12_ask_3 mX12_118 vX12_isKind (kX12_isKind hm (by omega) (by omega)) rfl hm.1.1 (by decide) rfl (Nat.le_of_ble_eq_true rfl) (RR rfl rfl rfl rfl) (fun z => ?_)
  refine gB hC _ _ _ _ _ _ _ qX12_ask_6 rfl ?_
  refine g_cV1 hC dX12_ask_13 mX12_136 vX12_isAskable (kX12_isAskable hm (by omega) (by omega) (by omega) (by omega) (by omega) (by omega)) rfl hm.1.1 (by decide) rfl (Nat.le_of_ble_eq_true rfl) (RR rfl rfl rfl rfl) (fun z => ?_)
  refine g_if_eq hC 33 dX12_ask_16 rfl (by first | omega | exact bI_in _) (fun c16 => ?_) (fun c16 => ?_)
  · have c16 := bI_0.mp c16
    refine gB hC _ _ _ _ _ _ _ qX12_ask_33 rfl ?_
    refine gB hC _ _ _ _ _ _ _ qX12_ask_34 rfl ?_
    refine g_getr hC dX12_ask_35 fX12_9 hm.1.1 (by decide) rfl 0 rfl hm.2.1.1 ?_
    refine gB hC _ _ _ _ _ _ _ qX12_ask_38 rfl ?_
    refine g_iald hC dX12_ask_39 hm.1.2.1 (gMd_at hm _) (by omega) (by omega) (by decide) (fun i39 => ?_)
    refine gB hC _ _ _ _ _ _ _ qX12_ask_40 rfl ?_
    refine g_icmp_ge hC 49 dX12_ask_42 rfl (by first | omega | exact bI_in _) (by first | omega | exact bI_in _) (fun c42 => ?_) (fun c42 => ?_)
    · refine gB hC _ _ _ _ _ _ _ qX12_ask_49 rfl ?_
      refine g_cV1m hC dX12_ask_50 mX12_111 vX12_fits (kX12_fitsC (C := (fitC (bI (0 ≤ k0 ∧ k0 ≤ N 1 - 1)) (bI (askC N first nights adults children ∧ tilC N till first)) (bI (N 5 < 60)))) hm (by first | omega | exact bI_in _) (by first | omega | exact bI_in _) (by first | omega | exact bI_in _) (fit_eq (by first | rfl | exact (bI_t (by omega)).symm | exact (bI_f (by omega)).symm) (by first | rfl | exact (bI_t (by omega)).symm | exact (bI_f (by omega)).symm) (by first | rfl | exact (bI_t (by omega)).symm | exact (bI_f (by omega)).symm))) rfl hm.1.1 (by decide) rfl (Nat.le_of_ble_eq_true rfl) (RR rfl rfl rfl rfl) (fun z V50 e50 => ?_)
      have hm50 := gMd_o hm e50 (Or.inr ⟨rfl, by decide⟩)
      have h250 : V50 b 2 = V b 2 := by rw [e50, up_ne _ _ (Or.inr (by decide))]
      refine g_if_ne hC 58 dX12_ask_53 rfl (by first | omega | exact bI_in _) (fun c53 => ?_) (fun c53 => ?_)
      · exact absurd (bI_n0.mp c53) (fit_n2 (by first | rfl | exact bI_f (by omega)))
      · have cF := bI_0.mp c53
        refine gB hC _ _ _ _ _ _ _ qX12_ask_56 rfl ?_
        refine g_ireturn hC dX12_ask_57 hr ⟨?_, rfl, ?_, ?_⟩ gs_rfl ⟨Nat.le_of_ble_eq_true rfl, Nat.le_of_ble_eq_true rfl⟩
        · rw [if_neg cF]
        · rw [if_neg cF]; exact e50
        · rw [if_neg cF]; decide
    · refine gB hC _ _ _ _ _ _ _ qX12_ask_45 rfl ?_
      refine g_cV1m hC dX12_ask_50 mX12_111 vX12_fits (kX12_fitsC (C := (fitC (bI (0 ≤ k0 ∧ k0 ≤ N 1 - 1)) (bI (askC N first nights adults children ∧ tilC N till first)) (bI (N 5 < 60)))) hm (by first | omega | exact bI_in _) (by first | omega | exact bI_in _) (by first | omega | exact bI_in _) (fit_eq (by first | rfl | exact (bI_t (by omega)).symm | exact (bI_f (by omega)).symm) (by first | rfl | exact (bI_t (by omega)).symm | exact (bI_f (by omega)).symm) (by first | rfl | exact (bI_t (by omega)).symm | exact (bI_f (by omega)).symm))) rfl hm.1.1 (by decide) rfl (Nat.le_of_ble_eq_true rfl) (RR rfl rfl rfl rfl) (fun z V50 e50 => ?_)
      have hm50 := gMd_o hm e50 (Or.inr ⟨rfl, by decide⟩)
      have h250 : V50 b 2 = V b 2 := by rw [e50, up_ne _ _ (Or.inr (by decide))]
      refine g_if_ne hC 58 dX12_ask_53 rfl (by first | omega | exact bI_in _) (fun c53 => ?_) (fun c53 => ?_)
      · exact absurd (bI_n0.mp c53) (fit_n2 (by first | rfl | exact bI_f (by omega)))
      · have cF := bI_0.mp c53
        refine gB hC _ _ _ _ _ _ _ qX12_ask_56 rfl ?_
        refine g_ireturn hC dX12_ask_57 hr ⟨?_, rfl, ?_, ?_⟩ gs_rfl ⟨Nat.le_of_ble_eq_true rfl, Nat.le_of_ble_eq_true rfl⟩
        · rw [if_neg cF]
        · rw [if_neg cF]; exact e50
        · rw [if_neg cF]; decide
  · have c16 := bI_n0.mp c16
    refine gB hC _ _ _ _ _ _ _ qX12_ask_19 rfl ?_
    refine g_cV1 hC dX12_ask_23 mX12_140 vX12_isTill (kX12_isTill hm (by omega) (by omega) (by omega) (by omega)) rfl hm.1.1 (by decide) rfl (Nat.le_of_ble_eq_true rfl) (RR rfl rfl rfl rfl) (fun z => ?_)
    refine g_if_eq hC 33 dX12_ask_26 rfl (by first | omega | exact bI_in _) (fun c26 => ?_) (fun c26 => ?_)
    · have c26 := bI_0.mp c26
      refine gB hC _ _ _ _ _ _ _ qX12_ask_33 rfl ?_
      refine gB hC _ _ _ _ _ _ _ qX12_ask_34 rfl ?_
      refine g_getr hC dX12_ask_35 fX12_9 hm.1.1 (by decide) rfl 0 rfl hm.2.1.1 ?_
      refine gB hC _ _ _ _ _ _ _ qX12_ask_38 rfl ?_
      refine g_iald hC dX12_ask_39 hm.1.2.1 (gMd_at hm _) (by omega) (by omega) (by decide) (fun i39 => ?_)
      refine gB hC _ _ _ _ _ _ _ qX12_ask_40 rfl ?_
      refine g_icmp_ge hC 49 dX12_ask_42 rfl (by first | omega | exact bI_in _) (by first | omega | exact bI_in _) (fun c42 => ?_) (fun c42 => ?_)
      · refine gB hC _ _ _ _ _ _ _ qX12_ask_49 rfl ?_
        refine g_cV1m hC dX12_ask_50 mX12_111 vX12_fits (kX12_fitsC (C := (fitC (bI (0 ≤ k0 ∧ k0 ≤ N 1 - 1)) (bI (askC N first nights adults children ∧ tilC N till first)) (bI (N 5 < 60)))) hm (by first | omega | exact bI_in _) (by first | omega | exact bI_in _) (by first | omega | exact bI_in _) (fit_eq (by first | rfl | exact (bI_t (by omega)).symm | exact (bI_f (by omega)).symm) (by first | rfl | exact (bI_t (by omega)).symm | exact (bI_f (by omega)).symm) (by first | rfl | exact (bI_t (by omega)).symm | exact (bI_f (by omega)).symm))) rfl hm.1.1 (by decide) rfl (Nat.le_of_ble_eq_true rfl) (RR rfl rfl rfl rfl) (fun z V50 e50 => ?_)
        have hm50 := gMd_o hm e50 (Or.inr ⟨rfl, by decide⟩)
        have h250 : V50 b 2 = V b 2 := by rw [e50, up_ne _ _ (Or.inr (by decide))]
        refine g_if_ne hC 58 dX12_ask_53 rfl (by first | omega | exact bI_in _) (fun c53 => ?_) (fun c53 => ?_)
        · exact absurd (bI_n0.mp c53) (fit_n2 (by first | rfl | exact bI_f (by omega)))
        · have cF := bI_0.mp c53
          refine gB hC _ _ _ _ _ _ _ qX12_ask_56 rfl ?_
          refine g_ireturn hC dX12_ask_57 hr ⟨?_, rfl, ?_, ?_⟩ gs_rfl ⟨Nat.le_of_ble_eq_true rfl, Nat.le_of_ble_eq_true rfl⟩
          · rw [if_neg cF]
          · rw [if_neg cF]; exact e50
          · rw [if_neg cF]; decide
      · refine gB hC _ _ _ _ _ _ _ qX12_ask_45 rfl ?_
        refine g_cV1m hC dX12_ask_50 mX12_111 vX12_fits (kX12_fitsC (C := (fitC (bI (0 ≤ k0 ∧ k0 ≤ N 1 - 1)) (bI (askC N first nights adults children ∧ tilC N till first)) (bI (N 5 < 60)))) hm (by first | omega | exact bI_in _) (by first | omega | exact bI_in _) (by first | omega | exact bI_in _) (fit_eq (by first | rfl | exact (bI_t (by omega)).symm | exact (bI_f (by omega)).symm) (by first | rfl | exact (bI_t (by omega)).symm | exact (bI_f (by omega)).symm) (by first | rfl | exact (bI_t (by omega)).symm | exact (bI_f (by omega)).symm))) rfl hm.1.1 (by decide) rfl (Nat.le_of_ble_eq_true rfl) (RR rfl rfl rfl rfl) (fun z V50 e50 => ?_)
        have hm50 := gMd_o hm e50 (Or.inr ⟨rfl, by decide⟩)
        have h250 : V50 b 2 = V b 2 := by rw [e50, up_ne _ _ (Or.inr (by decide))]
        refine g_if_ne hC 58 dX12_ask_53 rfl (by first | omega | exact bI_in _) (fun c53 => ?_) (fun c53 => ?_)
        · exact absurd (bI_n0.mp c53) (fit_n2 (by first | rfl | exact bI_f (by omega)))
        · have cF := bI_0.mp c53
          refine gB hC _ _ _ _ _ _ _ qX12_ask_56 rfl ?_
          refine g_ireturn hC dX12_ask_57 hr ⟨?_, rfl, ?_, ?_⟩ gs_rfl ⟨Nat.le_of_ble_eq_true rfl, Nat.le_of_ble_eq_true rfl⟩
          · rw [if_neg cF]
          · rw [if_neg cF]; exact e50
          · rw [if_neg cF]; decide
    · have c26 := bI_n0.mp c26
      refine gB hC _ _ _ _ _ _ _ qX12_ask_29 rfl ?_
      refine gB hC _ _ _ _ _ _ _ qX12_ask_34 rfl ?_
      refine g_getr hC dX12_ask_35 fX12_9 hm.1.1 (by decide) rfl 0 rfl hm.2.1.1 ?_
      refine gB hC _ _ _ _ _ _ _ qX12_ask_38 rfl ?_
      refine g_iald hC dX12_ask_39 hm.1.2.1 (gMd_at hm _) (by omega) (by omega) (by decide) (fun i39 => ?_)
      refine gB hC _ _ _ _ _ _ _ qX12_ask_40 rfl ?_
      refine g_icmp_ge hC 49 dX12_ask_42 rfl (by first | omega | exact bI_in _) (by first | omega | exact bI_in _) (fun c42 => ?_) (fun c42 => ?_)
      · refine gB hC _ _ _ _ _ _ _ qX12_ask_49 rfl ?_
        refine g_cV1m hC dX12_ask_50 mX12_111 vX12_fits (kX12_fitsC (C := (fitC (bI (0 ≤ k0 ∧ k0 ≤ N 1 - 1)) (bI (askC N first nights adults children ∧ tilC N till first)) (bI (N 5 < 60)))) hm (by first | omega | exact bI_in _) (by first | omega | exact bI_in _) (by first | omega | exact bI_in _) (fit_eq (by first | rfl | exact (bI_t (by omega)).symm | exact (bI_f (by omega)).symm) (by first | rfl | exact (bI_t (by omega)).symm | exact (bI_f (by omega)).symm) (by first | rfl | exact (bI_t (by omega)).symm | exact (bI_f (by omega)).symm))) rfl hm.1.1 (by decide) rfl (Nat.le_of_ble_eq_true rfl) (RR rfl rfl rfl rfl) (fun z V50 e50 => ?_)
        have hm50 := gMd_o hm e50 (Or.inr ⟨rfl, by decide⟩)
        have h250 : V50 b 2 = V b 2 := by rw [e50, up_ne _ _ (Or.inr (by decide))]
        refine g_if_ne hC 58 dX12_ask_53 rfl (by first | omega | exact bI_in _) (fun c53 => ?_) (fun c53 => ?_)
        · exact absurd (bI_n0.mp c53) (fit_n3 (by first | rfl | exact bI_f (by omega)))
        · have cF := bI_0.mp c53
          refine gB hC _ _ _ _ _ _ _ qX12_ask_56 rfl ?_
          refine g_ireturn hC dX12_ask_57 hr ⟨?_, rfl, ?_, ?_⟩ gs_rfl ⟨Nat.le_of_ble_eq_true rfl, Nat.le_of_ble_eq_true rfl⟩
          · rw [if_neg cF]
          · rw [if_neg cF]; exact e50
          · rw [if_neg cF]; decide
      · refine gB hC _ _ _ _ _ _ _ qX12_ask_45 rfl ?_
        refine g_cV1m hC dX12_ask_50 mX12_111 vX12_fits (kX12_fitsC (C := (fitC (bI (0 ≤ k0 ∧ k0 ≤ N 1 - 1)) (bI (askC N first nights adults children ∧ tilC N till first)) (bI (N 5 < 60)))) hm (by first | omega | exact bI_in _) (by first | omega | exact bI_in _) (by first | omega | exact bI_in _) (fit_eq (by first | rfl | exact (bI_t (by omega)).symm | exact (bI_f (by omega)).symm) (by first | rfl | exact (bI_t (by omega)).symm | exact (bI_f (by omega)).symm) (by first | rfl | exact (bI_t (by omega)).symm | exact (bI_f (by omega)).symm))) rfl hm.1.1 (by decide) rfl (Nat.le_of_ble_eq_true rfl) (RR rfl rfl rfl rfl) (fun z V50 e50 => ?_)
        have hm50 := gMd_o hm e50 (Or.inr ⟨rfl, by decide⟩)
        have h250 : V50 b 2 = V b 2 := by rw [e50, up_ne _ _ (Or.inr (by decide))]
        refine g_if_ne hC 58 dX12_ask_53 rfl (by first | omega | exact bI_in _) (fun c53 => ?_) (fun c53 => ?_)
        · have cF := bI_n0.mp c53
          have hp1 := fit_p1 cF
          have hp2 := fit_p2 cF
          have hp3 := fit_p3 cF
          have hO : rfd N k0 (dayZ first) nights = -1 → mkOk N k0 (dayZ first) nights adults children (dayZ till) (-1) := fun _ => by unfold mkOk; omega
          have hrf := rfd_in N (k := k0) (first := dayZ first) (nights := nights) (by omega) (by omega)
          refine gB hC _ _ _ _ _ _ _ qX12_ask_58 rfl ?_
          refine g_cV0m hC dX12_ask_59 mX12_115 vX12_keeps (kX12_keeps hm50 (by omega) (by omega)) rfl hm50.1.1 (by decide) rfl (Nat.le_of_ble_eq_true rfl) (RR rfl rfl rfl rfl) (fun z V59 e59 => ?_)
          have hm59 := gMd_kp hm50 e59
          refine gB hC _ _ _ _ _ _ _ qX12_ask_62 rfl ?_
          refine g_cS1i hC dX12_ask_65 mX12_27 sX12_dayOf (kX12_dayOf (by omega)) rfl rfl (Nat.le_of_ble_eq_true rfl) (RR rfl rfl rfl rfl) (fun z i65 => ?_)
          refine gB hC _ _ _ _ _ _ _ qX12_ask_68 rfl ?_
          refine g_cV1i hC dX12_ask_69 mX12_94 vX12_refused (kX12_refused hm59 hI.1 (by omega) (by omega) (by omega) (by omega) (by omega)) rfl hm59.1.1 (by decide) rfl (Nat.le_of_ble_eq_true rfl) (RR rfl rfl rfl rfl) (fun z i69 => ?_)
          refine gB hC _ _ _ _ _ _ _ qX12_ask_72 rfl ?_
          refine g_icmp_ne hC 101 dX12_ask_77 rfl (by first | omega | exact bI_in _) (by first | omega | exact bI_in _) (fun c77 => ?_) (fun c77 => ?_)
          · refine gB hC _ _ _ _ _ _ _ qX12_ask_101 rfl ?_
            refine g_getr hC dX12_ask_102 fX12_9 hm59.1.1 (by decide) rfl 0 rfl hm59.2.1.1 ?_
            refine gB hC _ _ _ _ _ _ _ qX12_ask_105 rfl ?_
            refine g_cS1i hC dX12_ask_109 mX12_66 sX12_dateOf (kX12_dateOf (by omega) (by omega)) rfl rfl (Nat.le_of_ble_eq_true rfl) (RR rfl rfl rfl rfl) (fun z i109 => ?_)
            refine g_ast hC dX12_ask_112 hm59.1.2.1 (by omega) (by omega) (by decide) (by first | omega | exact bI_in _) (fun V112 e112 => ?_)
            have hw112 := gMw_up (gMw_in hm59) e112
            refine gB hC _ _ _ _ _ _ _ qX12_ask_113 rfl ?_
            refine g_ireturn hC dX12_ask_114 hr ⟨?_, rfl, ?_, ?_⟩ gs_rfl ⟨Nat.le_of_ble_eq_true rfl, Nat.le_of_ble_eq_true rfl⟩
            · rw [if_pos cF]
              first | rw [if_pos (by omega)] | rw [if_neg (by omega)]
            · rw [if_pos cF, hw112.2, e59, e50, cF]
              first | rw [if_pos (by omega)] | rw [if_neg (by omega)]
            · rw [if_pos cF]
              split <;> omega
          · refine gB hC _ _ _ _ _ _ _ qX12_ask_80 rfl ?_
            refine g_cS1i hC dX12_ask_83 mX12_27 sX12_dayOf (kX12_dayOf (by omega)) rfl rfl (Nat.le_of_ble_eq_true rfl) (RR rfl rfl rfl rfl) (fun z i83 => ?_)
            refine gB hC _ _ _ _ _ _ _ qX12_ask_86 rfl ?_
            refine g_cS1i hC dX12_ask_93 mX12_27 sX12_dayOf (kX12_dayOf (by omega)) rfl rfl (Nat.le_of_ble_eq_true rfl) (RR rfl rfl rfl rfl) (fun z i93 => ?_)
            refine gB hC _ _ _ _ _ _ _ qX12_ask_96 rfl ?_
            refine g_cV1im hC dX12_ask_97 mX12_97 vX12_makes (kX12_makes hm59 hI.1 (hO (by omega))) rfl hm59.1.1 (by decide) rfl (Nat.le_of_ble_eq_true rfl) (RR rfl rfl rfl rfl) (fun z V97 e97 i97 => ?_)
            have hw97 := gMw_wr (gMw_in hm59) e97
            refine g_ireturn hC dX12_ask_100 hr ⟨?_, rfl, ?_, ?_⟩ gs_rfl ⟨Nat.le_of_ble_eq_true rfl, Nat.le_of_ble_eq_true rfl⟩
            · rw [if_pos cF]
              first | rw [if_pos (by omega)] | rw [if_neg (by omega)]
            · rw [if_pos cF, hw97.2, e59, e50, cF]
              first | rw [if_pos (by omega)] | rw [if_neg (by omega)]
            · rw [if_pos cF]
              split <;> omega
        · have cF := bI_0.mp c53
          refine gB hC _ _ _ _ _ _ _ qX12_ask_56 rfl ?_
          refine g_ireturn hC dX12_ask_57 hr ⟨?_, rfl, ?_, ?_⟩ gs_rfl ⟨Nat.le_of_ble_eq_true rfl, Nat.le_of_ble_eq_true rfl⟩
          · rw [if_neg cF]
          · rw [if_neg cF]; exact e50
          · rw [if_neg cF]; decide

theorem kX12_waitFor {E l Sh V z} {b : Int} {N : gN0} {k0 first nights adults children : Int} (hm : gMd b N Sh V) (hI : INV N) (hv0 : 0 ≤ V b 2) (hv1 : V b 2 ≤ 6) (hk : inI k0) (i1 : inI first) (i2 : inI nights) (i3 : inI adults) (i4 : inI children) : gM E l yX12_waitFor (.code yX12_waitFor cX12_waitFor 7 (some .int)) (rmk 8 0 0 200) [(2, b), (0, k0), (0, first), (0, nights), (0, adults), (0, children)] Sh V z (gRi (if (fitC (bI (0 ≤ k0 ∧ k0 ≤ N 1 - 1)) (bI (askC N first nights adults children)) (bI (N 7 < 20))) = 0 then N 7 + 1 else 0) Sh (if (fitC (bI (0 ≤ k0 ∧ k0 ≤ N 1 - 1)) (bI (askC N first nights adults children)) (bI (N 7 < 20))) = 0 then wrN (kpV (up V b 3 0) b) b (upN (upN (upN (upN (upN (upN N (1496 + N 7 * 5) k0) (1496 + N 7 * 5 + 1) (dayZ first)) (1496 + N 7 * 5 + 2) nights) (1496 + N 7 * 5 + 3) adults) (1496 + N 7 * 5 + 4) children) 7 (N 7 + 1)) else up V b 3 (fitC (bI (0 ≤ k0 ∧ k0 ≤ N 1 - 1)) (bI (askC N first nights adults children)) (bI (N 7 < 20))))) := by
  refine gM_at (L0 := [(2, b), (0, k0), (0, first), (0, nights), (0, adults), (0, children), (9, 0)]) rfl rfl rfl ?_
  intro p e s m args below meth c hC hr hex hnm hz
  have hsc := hI.1.1
  unfold iScal at hsc
  have hdf := dayZ_in first
  refine gB hC _ _ _ _ _ _ _ qX12_waitFor_0 rfl ?_
  refine g_cV1 hC dX12_waitFor_3 mX12_118 vX12_isKind (kX12_isKind hm (by omega) (by omega)) rfl hm.1.1 (by decide) rfl (Nat.le_of_ble_eq_true rfl) (RR rfl rfl rfl rfl) (fun z => ?_)
  refine gB hC _ _ _ _ _ _ _ qX12_waitFor_6 rfl ?_
  refine g_cV1 hC dX12_waitFor_13 mX12_136 vX12_isAskable (kX12_isAskable hm (by omega) (by omega) (by omega) (by omega) (by omega) (by omega)) rfl hm.1.1 (by decide) rfl (Nat.le_of_ble_eq_true rfl) (RR rfl rfl rfl rfl) (fun z => ?_)
  refine gB hC _ _ _ _ _ _ _ qX12_waitFor_16 rfl ?_
  refine g_getr hC dX12_waitFor_17 fX12_9 hm.1.1 (by decide) rfl 0 rfl hm.2.1.1 ?_
  refine gB hC _ _ _ _ _ _ _ qX12_waitFor_20 rfl ?_
  refine g_iald hC dX12_waitFor_22 hm.1.2.1 (gMd_at hm _) (by omega) (by omega) (by decide) (fun i22 => ?_)
  refine gB hC _ _ _ _ _ _ _ qX12_waitFor_23 rfl ?_
  refine g_icmp_ge hC 32 dX12_waitFor_25 rfl (by first | omega | exact bI_in _) (by first | omega | exact bI_in _) (fun c25 => ?_) (fun c25 => ?_)
  · refine gB hC _ _ _ _ _ _ _ qX12_waitFor_32 rfl ?_
    refine g_cV1m hC dX12_waitFor_33 mX12_111 vX12_fits (kX12_fitsC (C := (fitC (bI (0 ≤ k0 ∧ k0 ≤ N 1 - 1)) (bI (askC N first nights adults children)) (bI (N 7 < 20)))) hm (by first | omega | exact bI_in _) (by first | omega | exact bI_in _) (by first | omega | exact bI_in _) (fit_eq (by first | rfl | exact (bI_t (by omega)).symm | exact (bI_f (by omega)).symm) (by first | rfl | exact (bI_t (by omega)).symm | exact (bI_f (by omega)).symm) (by first | rfl | exact (bI_t (by omega)).symm | exact (bI_f (by omega)).symm))) rfl hm.1.1 (by decide) rfl (Nat.le_of_ble_eq_true rfl) (RR rfl rfl rfl rfl) (fun z V33 e33 => ?_)
    have hm33 := gMd_o hm e33 (Or.inr ⟨rfl, by decide⟩)
    have h233 : V33 b 2 = V b 2 := by rw [e33, up_ne _ _ (Or.inr (by decide))]
    refine g_if_ne hC 41 dX12_waitFor_36 rfl (by first | omega | exact bI_in _) (fun c36 => ?_) (fun c36 => ?_)
    · exact absurd (bI_n0.mp c36) (fit_n3 (by first | rfl | exact bI_f (by omega)))
    · have cF := bI_0.mp c36
      refine gB hC _ _ _ _ _ _ _ qX12_waitFor_39 rfl ?_
      refine g_ireturn hC dX12_waitFor_40 hr ⟨?_, rfl, ?_, ?_⟩ gs_rfl ⟨Nat.le_of_ble_eq_true rfl, Nat.le_of_ble_eq_true rfl⟩
      · rw [if_neg cF]
      · rw [if_neg cF]; exact e33
      · rw [if_neg cF]; decide
  · refine gB hC _ _ _ _ _ _ _ qX12_waitFor_28 rfl ?_
    refine g_cV1m hC dX12_waitFor_33 mX12_111 vX12_fits (kX12_fitsC (C := (fitC (bI (0 ≤ k0 ∧ k0 ≤ N 1 - 1)) (bI (askC N first nights adults children)) (bI (N 7 < 20)))) hm (by first | omega | exact bI_in _) (by first | omega | exact bI_in _) (by first | omega | exact bI_in _) (fit_eq (by first | rfl | exact (bI_t (by omega)).symm | exact (bI_f (by omega)).symm) (by first | rfl | exact (bI_t (by omega)).symm | exact (bI_f (by omega)).symm) (by first | rfl | exact (bI_t (by omega)).symm | exact (bI_f (by omega)).symm))) rfl hm.1.1 (by decide) rfl (Nat.le_of_ble_eq_true rfl) (RR rfl rfl rfl rfl) (fun z V33 e33 => ?_)
    have hm33 := gMd_o hm e33 (Or.inr ⟨rfl, by decide⟩)
    have h233 : V33 b 2 = V b 2 := by rw [e33, up_ne _ _ (Or.inr (by decide))]
    refine g_if_ne hC 41 dX12_waitFor_36 rfl (by first | omega | exact bI_in _) (fun c36 => ?_) (fun c36 => ?_)
    · have cF := bI_n0.mp c36
      have hp1 := fit_p1 cF
      have hp2 := fit_p2 cF
      have hp3 := fit_p3 cF
      refine gB hC _ _ _ _ _ _ _ qX12_waitFor_41 rfl ?_
      refine g_cV0m hC dX12_waitFor_42 mX12_115 vX12_keeps (kX12_keeps hm33 (by omega) (by omega)) rfl hm33.1.1 (by decide) rfl (Nat.le_of_ble_eq_true rfl) (RR rfl rfl rfl rfl) (fun z V42 e42 => ?_)
      have hm42 := gMd_kp hm33 e42
      refine gB hC _ _ _ _ _ _ _ qX12_waitFor_45 rfl ?_
      refine g_getr hC dX12_waitFor_49 fX12_9 hm42.1.1 (by decide) rfl 0 rfl hm42.2.1.1 ?_
      refine gB hC _ _ _ _ _ _ _ qX12_waitFor_52 rfl ?_
      refine g_iald hC dX12_waitFor_54 hm42.1.2.1 (gMd_at hm42 _) (by omega) (by omega) (by decide) (fun i54 => ?_)
      refine gB hC _ _ _ _ _ _ _ qX12_waitFor_55 rfl ?_
      refine g_getr hC dX12_waitFor_61 fX12_9 hm42.1.1 (by decide) rfl 0 rfl hm42.2.1.1 ?_
      refine gB hC _ _ _ _ _ _ _ qX12_waitFor_64 rfl ?_
      refine g_ast hC dX12_waitFor_67 hm42.1.2.1 (by omega) (by omega) (by decide) (by first | omega | exact bI_in _) (fun V67 e67 => ?_)
      have hw67 := gMw_up (gMw_in hm42) e67
      refine gB hC _ _ _ _ _ _ _ qX12_waitFor_68 rfl ?_
      refine g_getr hC dX12_waitFor_69 fX12_9 hw67.1.1.1 (by decide) rfl 0 rfl hw67.1.2.1.1 ?_
      refine gB hC _ _ _ _ _ _ _ qX12_waitFor_72 rfl ?_
      refine g_cS1i hC dX12_waitFor_77 mX12_27 sX12_dayOf (kX12_dayOf (by omega)) rfl rfl (Nat.le_of_ble_eq_true rfl) (RR rfl rfl rfl rfl) (fun z i77 => ?_)
      refine g_ast hC dX12_waitFor_80 hw67.1.1.2.1 (by omega) (by omega) (by decide) (by first | omega | exact bI_in _) (fun V80 e80 => ?_)
      have hw80 := gMw_up hw67 e80
      refine gB hC _ _ _ _ _ _ _ qX12_waitFor_81 rfl ?_
      refine g_getr hC dX12_waitFor_82 fX12_9 hw80.1.1.1 (by decide) rfl 0 rfl hw80.1.2.1.1 ?_
      refine gB hC _ _ _ _ _ _ _ qX12_waitFor_85 rfl ?_
      refine g_ast hC dX12_waitFor_90 hw80.1.1.2.1 (by omega) (by omega) (by decide) (by first | omega | exact bI_in _) (fun V90 e90 => ?_)
      have hw90 := gMw_up hw80 e90
      refine gB hC _ _ _ _ _ _ _ qX12_waitFor_91 rfl ?_
      refine g_getr hC dX12_waitFor_92 fX12_9 hw90.1.1.1 (by decide) rfl 0 rfl hw90.1.2.1.1 ?_
      refine gB hC _ _ _ _ _ _ _ qX12_waitFor_95 rfl ?_
      refine g_ast hC dX12_waitFor_101 hw90.1.1.2.1 (by omega) (by omega) (by decide) (by first | omega | exact bI_in _) (fun V101 e101 => ?_)
      have hw101 := gMw_up hw90 e101
      refine gB hC _ _ _ _ _ _ _ qX12_waitFor_102 rfl ?_
      refine g_getr hC dX12_waitFor_103 fX12_9 hw101.1.1.1 (by decide) rfl 0 rfl hw101.1.2.1.1 ?_
      refine gB hC _ _ _ _ _ _ _ qX12_waitFor_106 rfl ?_
      refine g_ast hC dX12_waitFor_112 hw101.1.1.2.1 (by omega) (by omega) (by decide) (by first | omega | exact bI_in _) (fun V112 e112 => ?_)
      have hw112 := gMw_up hw101 e112
      refine gB hC _ _ _ _ _ _ _ qX12_waitFor_113 rfl ?_
      refine g_getr hC dX12_waitFor_114 fX12_9 hw112.1.1.1 (by decide) rfl 0 rfl hw112.1.2.1.1 ?_
      refine gB hC _ _ _ _ _ _ _ qX12_waitFor_117 rfl ?_
      refine g_iald hC dX12_waitFor_120 hw112.1.1.2.1 (gMd_at hw112.1 _) (by omega) (by omega) (by decide) (fun i120 => ?_)
      repeat rw [upN_ne (by omega)]
      refine gB hC _ _ _ _ _ _ _ qX12_waitFor_121 rfl ?_
      refine g_ast hC dX12_waitFor_123 hw112.1.1.2.1 (by omega) (by omega) (by decide) (by first | omega | exact bI_in _) (fun V123 e123 => ?_)
      have hw123 := gMw_up hw112 e123
      refine gB hC _ _ _ _ _ _ _ qX12_waitFor_124 rfl ?_
      refine g_getr hC dX12_waitFor_125 fX12_9 hw123.1.1.1 (by decide) rfl 0 rfl hw123.1.2.1.1 ?_
      refine gB hC _ _ _ _ _ _ _ qX12_waitFor_128 rfl ?_
      refine g_iald hC dX12_waitFor_130 hw123.1.1.2.1 (gMd_at hw123.1 _) (by omega) (by omega) (by decide) (fun i130 => ?_)
      refine g_ireturn hC dX12_waitFor_131 hr ⟨?_, rfl, ?_, ?_⟩ gs_rfl ⟨Nat.le_of_ble_eq_true rfl, Nat.le_of_ble_eq_true rfl⟩
      · rw [if_pos cF]
        rw [upN_eq]
      · rw [if_pos cF, hw123.2, e42, e33, cF]
        first | done | rfl
      · rw [if_pos cF]
        omega
    · have cF := bI_0.mp c36
      refine gB hC _ _ _ _ _ _ _ qX12_waitFor_39 rfl ?_
      refine g_ireturn hC dX12_waitFor_40 hr ⟨?_, rfl, ?_, ?_⟩ gs_rfl ⟨Nat.le_of_ble_eq_true rfl, Nat.le_of_ble_eq_true rfl⟩
      · rw [if_neg cF]
      · rw [if_neg cF]; exact e33
      · rw [if_neg cF]; decide
