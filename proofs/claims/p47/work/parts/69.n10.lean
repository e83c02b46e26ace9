/-! the class: those who wait, groups (rows laid by wip/whole/n69.py) -/
/-- the class's row of those who wait beside the reference's -/
def WI (K M : gN0) (a i : Int) (q : Nat) : Prop := INV K ∧ INV M ∧ AgW K M ∧ (∀ g w : Int, 0 ≤ g → g < a → 0 ≤ w → w < 5 → M (1496 + g * 5 + w) = K (1496 + g * 5 + w)) ∧ (∀ j w : Int, 0 ≤ j → j < q → 0 ≤ w → w < 5 → M (1496 + (a + j) * 5 + w) = K (1496 + (i + j) * 5 + w)) ∧ M 7 = a + q ∧ i + q = K 7 ∧ 0 ≤ a ∧ a ≤ i
theorem WI_0 {N : gN0} (hI : INV N) : WI N N 0 0 (N 7).toNat := by
  have hs := hI.1.1
  unfold iScal at hs
  refine ⟨hI, hI, fun _ _ _ => rfl, fun _ _ _ _ _ _ => rfl, fun _ _ _ _ _ _ => rfl, by omega, by omega, Int.le_refl _, Int.le_refl _⟩
theorem WI_sh {K M : gN0} {a i : Int} {q : Nat} (h : WI K M a i (q + 1)) : WI K (shG M (1496 + a * 5)) a (i + 1) q := by
  obtain ⟨h1, h2, h3, h4, h5, h6, h7, h8, h9⟩ := h
  have hs := h2.1.1
  unfold iScal at hs
  refine ⟨h1, INV_sh h2 h8 (by omega), fun j j7 hj => ?_, fun g w g0 g1 w0 w1 => ?_, fun j w j0 j1 w0 w1 => ?_, ?_, by omega, h8, by omega⟩
  · unfold shG
    rw [if_neg j7, if_neg (by omega)]
    exact h3 j j7 hj
  · unfold shG
    rw [if_neg (by omega), if_neg (by omega)]
    exact h4 g w g0 g1 w0 w1
  · unfold shG
    rw [if_neg (by omega), if_pos (by omega), show 1496 + (a + j) * 5 + w + 5 = 1496 + (a + (j + 1)) * 5 + w by omega, show 1496 + (i + 1 + j) * 5 + w = 1496 + (i + (j + 1)) * 5 + w by omega]
    exact h5 (j + 1) w (by omega) (by omega) w0 w1
  · rw [shG_7]; omega
theorem WI_mk {K M : gN0} {a i : Int} {q : Nat} {k f n ad ch tl gp : Int} (h : WI K M a i q) (ho : mkOk K k f n ad ch tl gp) (hh : ∀ t, 0 ≤ t → t < n → cnt K k (f + t) < kF K k 0 + kF K k 2) : WI (mkN K k f n ad ch tl gp) (mkN M k f n ad ch tl gp) a i q := by
  obtain ⟨h1, h2, h3, h4, h5, h6, h7, h8, h9⟩ := h
  have hs := h1.1.1
  unfold iScal at hs
  have ho2 := ho
  unfold mkOk at ho2
  have e5 : M 5 = K 5 := h3 5 (by decide) (by omega)
  have e1 : M 1 = K 1 := h3 1 (by decide) (by omega)
  have ek : ∀ w, 0 ≤ w → w < 3 → kF M k w = kF K k w := fun w _ _ => h3 _ (by omega) (by omega)
  have oK : ∀ j, 1496 ≤ j → mkN K k f n ad ch tl gp j = K j := fun j hj => mkN_old (by omega) (by omega) (by omega) (by omega) (Or.inr hj)
  have oM : ∀ j, 1496 ≤ j → mkN M k f n ad ch tl gp j = M j := fun j hj => mkN_old (by omega) (by omega) (by omega) (by omega) (Or.inr hj)
  have o7K : mkN K k f n ad ch tl gp 7 = K 7 := mkN_old (by omega) (by omega) (by omega) (by omega) (Or.inl (by omega))
  have o7M : mkN M k f n ad ch tl gp 7 = M 7 := mkN_old (by omega) (by omega) (by omega) (by omega) (Or.inl (by omega))
  refine ⟨INV_mk h1 ho hh, INV_mk h2 ?_ (fun t t0 t1 => ?_), mkN_W h3 h1.1 ho2.2.1 ho2.2.2.1, fun g w g0 g1 w0 w1 => ?_, fun j w j0 j1 w0 w1 => ?_, by rw [o7M]; exact h6, by rw [o7K]; exact h7, h8, h9⟩
  · unfold mkOk
    rw [e5, e1]
    exact ho2
  · rw [cnt_W h3 (by omega) (by omega), ek 0 (by decide) (by decide), ek 2 (by decide) (by decide)]
    exact hh t t0 t1
  · rw [oK _ (by omega), oM _ (by omega)]; exact h4 g w g0 g1 w0 w1
  · rw [oK _ (by omega), oM _ (by omega)]; exact h5 j w j0 j1 w0 w1
theorem WI_cg {K M : gN0} {a i : Int} {q : Nat} (h : WI K M a i (q + 1)) : WI (cgN K a i) M (a + 1) (i + 1) q := by
  obtain ⟨h1, h2, h3, h4, h5, h6, h7, h8, h9⟩ := h
  have hs := h1.1.1
  unfold iScal at hs
  have o7 : cgN K a i 7 = K 7 := cgN_ne (by omega)
  refine ⟨INV_cg h1 h8 (by omega) (by omega) (by omega), h2, fun j j7 hj => ?_, fun g w g0 g1 w0 w1 => ?_, fun j w j0 j1 w0 w1 => ?_, by omega, by rw [o7]; omega, by omega, by omega⟩
  · rw [cgN_ne (by omega)]; exact h3 j j7 hj
  · by_cases hg : g = a
    · rw [hg, cgN_at K a i w0 w1]
      have := h5 0 w (Int.le_refl _) (by omega) w0 w1
      rw [Int.add_zero, Int.add_zero] at this
      exact this
    · rw [cgN_ne (by omega)]; exact h4 g w g0 (by omega) w0 w1
  · rw [cgN_ne (by omega), show 1496 + (a + 1 + j) * 5 + w = 1496 + (a + (j + 1)) * 5 + w by omega, show 1496 + (i + 1 + j) * 5 + w = 1496 + (i + (j + 1)) * 5 + w by omega]
    exact h5 (j + 1) w (by omega) (by omega) w0 w1

theorem kX2_lookAtGuests {E l Sh V z} {h9 : Int} {N : gN0} (hm : RH h9 N Sh V) (hI0 : INV N) : gM E l yX2_lookAtGuests (.code yX2_lookAtGuests cX2_lookAtGuests 5 (some .int)) (rmk 5 0 0 170) [(2, h9)] Sh V z (gRe (some (0, (lk N).2)) (fun V' => RH h9 (lk N).1 Sh V' ∧ OUT h9 V V') Sh) := by
  refine gM_at (L0 := [(2, h9), (9, 0), (9, 0), (9, 0), (9, 0)]) rfl rfl rfl ?_
  intro p e s m args below meth c hC hr hex hnm hz
  have hI := hI0.1
  have hsc := hI.1
  unfold iScal at hsc
  refine gB hC _ _ _ _ _ _ _ qX2_lookAtGuests_0 rfl ?_
  refine g_loop (fun x : gV × gN0 × gN0 × Int × Int × Int × Nat × aV => RH h9 x.2.1 Sh x.1 ∧ OUT h9 V x.1 ∧ x.2.1 7 = N 7 ∧ WI x.2.1 x.2.2.1 x.2.2.2.1 x.2.2.2.2.2.1 x.2.2.2.2.2.2.1 ∧ lkS x.2.2.2.2.2.2.1 x.2.2.1 x.2.2.2.1 x.2.2.2.2.1 = lk N ∧ 0 ≤ x.2.2.2.2.1 ∧ x.2.2.2.2.1 + (x.2.2.2.2.2.2.1 : Int) ≤ 20) (fun x => x.2.2.2.2.2.2.1) 6 (fun x => [(2, h9), (0, x.2.2.2.2.1), (0, x.2.2.2.1), (0, x.2.2.2.2.2.1), x.2.2.2.2.2.2.2]) (fun x => x.1) (V, N, N, 0, 0, 0, (N 7).toNat, (9, 0)) ⟨hm, OUT.rfl' _ _, rfl, WI_0 hI0, rfl, Int.le_refl _, by show (0 : Int) + ((N 7).toNat : Int) ≤ 20; omega⟩ ?_
  rintro ⟨V1, K, M, a, m, i, q, a4⟩ z ⟨hm1, ho1, hk7, hwi, hlS, hm0, hmq⟩ ih
  dsimp only at hm1 ho1 hk7 hwi hlS hm0 hmq ih ⊢
  have hiq := hwi.2.2.2.2.2
  have hsk := hwi.1.1.1
  unfold iScal at hsk
  refine gB hC _ _ _ _ _ _ _ qX2_lookAtGuests_6 rfl ?_
  refine g_getiv hC dX2_lookAtGuests_8 fX2_74 hm.1.sH (by decide) rfl 4 rfl hm1.t4 (fun i8 => ?_)
  refine g_icmp_ge hC 98 dX2_lookAtGuests_11 rfl (by first | omega | exact cmpZ_in _ _ | exact bI_in _) (by first | omega | exact cmpZ_in _ _ | exact bI_in _) (fun c11 => ?_) (fun c11 => ?_)
  · refine gB hC _ _ _ _ _ _ _ qX2_lookAtGuests_98 rfl ?_
    refine g_puti hC dX2_lookAtGuests_100 fX2_74 hm.1.sH (by decide) rfl (fun _ h => by cases h; rfl) 4 rfl (by first | omega | exact cmpZ_in _ _ | exact bI_in _) (fun V100 e100 => ?_)
    refine gB hC _ _ _ _ _ _ _ qX2_lookAtGuests_103 rfl ?_
    refine g_ireturn hC dX2_lookAtGuests_104 hr ⟨?_, rfl, ?_, ?_⟩ gs_rfl ⟨Nat.le_of_ble_eq_true rfl, Nat.le_of_ble_eq_true rfl⟩
    all_goals (have e9 : q = 0 := by omega)
    all_goals subst e9
    all_goals (have hl9 : lk N = (M, m) := by rw [← hlS]; rfl)
    · rw [hl9]
    · rw [hl9]
      show RH h9 M Sh V100
      refine RH_gs hm1 hwi.1.szO hwi.2.2.1 (fun g w g0 g1 w0 w1 => hwi.2.2.2.1 g w g0 (by omega) w0 w1) (by omega) ?_
      rw [e100, hiq.1]; congr 1; omega
    · rw [e100]; exact ho1.up (by omega)
  · obtain ⟨q2, rfl⟩ : ∃ q2, q = q2 + 1 := ⟨q - 1, by omega⟩
    have hgk := hwi.1.1.2.2.2.2 i (by omega) (by omega)
    unfold gOk at hgk
    have r2 := hwi.2.2.2.2.1 0
    have hw : ∀ w : Int, 0 ≤ w → w < 5 → M (1496 + a * 5 + w) = gF K i w := fun w w0 w1 => by
      have := r2 w (Int.le_refl _) (by omega) w0 w1
      rw [Int.add_zero, Int.add_zero] at this
      exact this
    have hw0 : M (1496 + a * 5) = gF K i 0 := by have := hw 0 (by decide) (by decide); rwa [Int.add_zero] at this
    have hw1 := hw 1 (by decide) (by decide)
    have hw2 := hw 2 (by decide) (by decide)
    have hw3 := hw 3 (by decide) (by decide)
    have hw4 := hw 4 (by decide) (by decide)
    have e0 : M 0 = K 0 := hwi.2.2.1 0 (by decide) (by omega)
    have e5 : M 5 = K 5 := hwi.2.2.1 5 (by decide) (by omega)
    have erf : rfd M (gF K i 0) (gF K i 1) (gF K i 2) = rfd K (gF K i 0) (gF K i 1) (gF K i 2) := rfd_W hwi.2.2.1 hwi.1.1 (by omega) (by omega) (by omega) (by omega) (by omega)
    have hlk := hlS
    rw [lkS, if_pos (by omega), hw0, hw1, hw2, hw3, hw4, e0, e5, erf] at hlk
    refine gB hC _ _ _ _ _ _ _ qX2_lookAtGuests_14 rfl ?_
    refine g_getr hC dX2_lookAtGuests_15 fX2_34 hm.1.sH (by decide) rfl 10 rfl hm1.2.1.p10 ?_
    refine gB hC _ _ _ _ _ _ _ qX2_lookAtGuests_18 rfl ?_
    refine g_aald hC (j := 7) dX2_lookAtGuests_19 hm.1.sG (by decide) (hm1.2.1.pg (by omega) (by omega)) (by omega) (by omega) (by decide) ?_
    refine gB hC _ _ _ _ _ _ _ qX2_lookAtGuests_20 rfl ?_
    refine g_getiv hC dX2_lookAtGuests_24 fX2_166 (hm.1.sg (by omega) (by omega)) (by decide) rfl 1 rfl (hm1.g1 (by omega) (by omega)) (fun i24 => ?_)
    refine gB hC _ _ _ _ _ _ _ qX2_lookAtGuests_27 rfl ?_
    refine g_getiv hC dX2_lookAtGuests_28 fX2_11 hm.1.sH (by decide) rfl 0 rfl hm1.t0 (fun i28 => ?_)
    refine g_icmp_ge hC 37 dX2_lookAtGuests_31 rfl (by first | omega | exact cmpZ_in _ _ | exact bI_in _) (by first | omega | exact cmpZ_in _ _ | exact bI_in _) (fun c31 => ?_) (fun c31 => ?_)
    · refine gB hC _ _ _ _ _ _ _ qX2_lookAtGuests_37 rfl ?_
      refine g_getr hC dX2_lookAtGuests_38 fX2_41 hm.1.sH (by decide) rfl 11 rfl hm1.2.1.p11 ?_
      refine g_getiv hC dX2_lookAtGuests_41 fX2_187 hm.1.sT (by decide) rfl 1 rfl hm1.tS (fun i41 => ?_)
      refine gB hC _ _ _ _ _ _ _ qX2_lookAtGuests_44 rfl ?_
      refine g_icmp_ge hC 78 dX2_lookAtGuests_46 rfl (by first | omega | exact cmpZ_in _ _ | exact bI_in _) (by first | omega | exact cmpZ_in _ _ | exact bI_in _) (fun c46 => ?_) (fun c46 => ?_)
      · refine gB hC _ _ _ _ _ _ _ qX2_lookAtGuests_78 rfl ?_
        refine g_getr hC dX2_lookAtGuests_79 fX2_34 hm.1.sH (by decide) rfl 10 rfl hm1.2.1.p10 ?_
        refine gB hC _ _ _ _ _ _ _ qX2_lookAtGuests_82 rfl ?_
        refine g_aald hC (j := 7) dX2_lookAtGuests_83 hm.1.sG (by decide) (hm1.2.1.pg (by omega) (by omega)) (by omega) (by omega) (by decide) ?_
        refine gB hC _ _ _ _ _ _ _ qX2_lookAtGuests_84 rfl ?_
        refine g_cV0m hC dX2_lookAtGuests_86 mX2_93 vX10_copyFrom (kX10_copyFrom (hm.1.sg (by omega) (by omega)) (hm.1.sg (by omega) (by omega))) rfl (hm.1.sg (by omega) (by omega)) (by decide) rfl (Nat.le_of_ble_eq_true rfl) (RR rfl rfl rfl rfl) (fun z V86 e86 => ?_)
        refine gB hC _ _ _ _ _ _ _ qX2_lookAtGuests_89 rfl ?_
        refine gB hC _ _ _ _ _ _ _ qX2_lookAtGuests_92 rfl ?_
        rw [if_neg (by omega), if_neg (by omega)] at hlk
        refine ih (V86, cgN K a i, M, a + 1, m, i + 1, q2, _) _ ⟨RH_cg hm1 hwi.1 (by omega) (by omega) (by omega) (by omega) e86, fun b hb => by show V86 b = V b; rw [e86, rwV_ne (by omega)]; exact ho1 b hb, (show cgN K a i 7 = N 7 from (cgN_ne (by omega)).trans hk7), WI_cg hwi, hlk, by show 0 ≤ m; omega, by show m + (q2 : Int) ≤ 20; omega⟩ (Nat.lt_succ_self _)
      · refine gB hC _ _ _ _ _ _ _ qX2_lookAtGuests_49 rfl ?_
        refine g_cV1i hC dX2_lookAtGuests_52 mX2_179 vX2_refusalOf (kX2_refusalOf hm1 hwi.1.1 (hm.1.sg (by omega) (by omega)) (hm1.g0 (by omega) (by omega)) (hm1.g1 (by omega) (by omega)) (hm1.g2 (by omega) (by omega)) (by omega) (by omega) (by omega) (by omega) (by omega)) rfl hm.1.sH (by decide) rfl (Nat.le_of_ble_eq_true rfl) (RR rfl rfl rfl rfl) (fun z i52 => ?_)
        refine gB hC _ _ _ _ _ _ _ qX2_lookAtGuests_55 rfl ?_
        refine g_icmp_ne hC 78 dX2_lookAtGuests_56 rfl (by first | omega | exact cmpZ_in _ _ | exact bI_in _) (by first | omega | exact cmpZ_in _ _ | exact bI_in _) (fun c56 => ?_) (fun c56 => ?_)
        · refine gB hC _ _ _ _ _ _ _ qX2_lookAtGuests_78 rfl ?_
          refine g_getr hC dX2_lookAtGuests_79 fX2_34 hm.1.sH (by decide) rfl 10 rfl hm1.2.1.p10 ?_
          refine gB hC _ _ _ _ _ _ _ qX2_lookAtGuests_82 rfl ?_
          refine g_aald hC (j := 7) dX2_lookAtGuests_83 hm.1.sG (by decide) (hm1.2.1.pg (by omega) (by omega)) (by omega) (by omega) (by decide) ?_
          refine gB hC _ _ _ _ _ _ _ qX2_lookAtGuests_84 rfl ?_
          refine g_cV0m hC dX2_lookAtGuests_86 mX2_93 vX10_copyFrom (kX10_copyFrom (hm.1.sg (by omega) (by omega)) (hm.1.sg (by omega) (by omega))) rfl (hm.1.sg (by omega) (by omega)) (by decide) rfl (Nat.le_of_ble_eq_true rfl) (RR rfl rfl rfl rfl) (fun z V86 e86 => ?_)
          refine gB hC _ _ _ _ _ _ _ qX2_lookAtGuests_89 rfl ?_
          refine gB hC _ _ _ _ _ _ _ qX2_lookAtGuests_92 rfl ?_
          rw [if_neg (by omega), if_neg (by omega)] at hlk
          refine ih (V86, cgN K a i, M, a + 1, m, i + 1, q2, _) _ ⟨RH_cg hm1 hwi.1 (by omega) (by omega) (by omega) (by omega) e86, fun b hb => by show V86 b = V b; rw [e86, rwV_ne (by omega)]; exact ho1 b hb, (show cgN K a i 7 = N 7 from (cgN_ne (by omega)).trans hk7), WI_cg hwi, hlk, by show 0 ≤ m; omega, by show m + (q2 : Int) ≤ 20; omega⟩ (Nat.lt_succ_self _)
        · have hmo : mkOk K (gF K i 0) (gF K i 1) (gF K i 2) (gF K i 3) (gF K i 4) (gF K i 1) (-1) := by unfold mkOk; omega
          have hhd := (rfd_had c56 (by omega) (by omega)).1
          refine gB hC _ _ _ _ _ _ _ qX2_lookAtGuests_59 rfl ?_
          refine g_getiv hC dX2_lookAtGuests_64 fX2_166 (hm.1.sg (by omega) (by omega)) (by decide) rfl 1 rfl (hm1.g1 (by omega) (by omega)) (fun i64 => ?_)
          refine gB hC _ _ _ _ _ _ _ qX2_lookAtGuests_67 rfl ?_
          refine g_cV1e hC dX2_lookAtGuests_68 mX2_183 vX2_takeIn (kX2_takeIn hm1 hwi.1 (hm.1.sg (by omega) (by omega)) (hm1.g0 (by omega) (by omega)) (hm1.g1 (by omega) (by omega)) (hm1.g2 (by omega) (by omega)) (hm1.g3 (by omega) (by omega)) (hm1.g4 (by omega) (by omega)) hmo hhd) rfl hm.1.sH (by decide) rfl (Nat.le_of_ble_eq_true rfl) (RR rfl rfl rfl rfl) (fun z V68 e68 => ?_)
          refine gB hC _ _ _ _ _ _ _ qX2_lookAtGuests_71 rfl ?_
          refine gB hC _ _ _ _ _ _ _ qX2_lookAtGuests_92 rfl ?_
          have h7 := mkN_old (N := K) (k := gF K i 0) (first := gF K i 1) (nights := gF K i 2) (adults := gF K i 3) (children := gF K i 4) (till := gF K i 1) (group := -1) (by omega) (by omega) (by omega) (j := 7) (by decide) (Or.inl (by omega))
          rw [if_neg (by omega), if_pos ⟨by omega, by omega⟩] at hlk
          refine ih (V68, mkN K (gF K i 0) (gF K i 1) (gF K i 2) (gF K i 3) (gF K i 4) (gF K i 1) (-1), shG (mkN M (gF K i 0) (gF K i 1) (gF K i 2) (gF K i 3) (gF K i 4) (gF K i 1) (-1)) (1496 + a * 5), a, m + 1, i + 1, q2, _) _ ⟨e68.1, ho1.tr (fun b hb => e68.2 b (by omega) (by omega) (by omega)), h7.trans hk7, WI_sh (WI_mk hwi hmo hhd), hlk, by show 0 ≤ m + 1; omega, by show m + 1 + (q2 : Int) ≤ 20; omega⟩ (Nat.lt_succ_self _)
    · refine gB hC _ _ _ _ _ _ _ qX2_lookAtGuests_34 rfl ?_
      refine gB hC _ _ _ _ _ _ _ qX2_lookAtGuests_92 rfl ?_
      rw [if_pos (by omega)] at hlk
      refine ih (V1, K, shG M (1496 + a * 5), a, m, i + 1, q2, _) _ ⟨hm1, ho1, hk7, WI_sh hwi, hlk, by show 0 ≤ m; omega, by show m + (q2 : Int) ≤ 20; omega⟩ (Nat.lt_succ_self _)

theorem RH_cut {h : Int} {N M : gN0} {Sh : gSh} {V V' : gV} (H : RH h M Sh V) (hz : szO N) (h5 : 0 ≤ N 5) (hN : ∀ j, j ≠ 5 → (j < 56 + 24 * N 5 ∨ 1496 ≤ j) → M j = N j) (hle : N 5 ≤ M 5) (e : V' = up V (h + 4) 1 (N 5)) : RH h N Sh V' := by
  subst e
  obtain ⟨z1, z2, z5, z7, z26, zs⟩ := hz
  obtain ⟨a1, a2, a3, a4, a5, a6, a7, a8, a9, a10⟩ := H
  have er : ∀ a, a ≠ h + 4 → up V (h + 4) 1 (N 5) a = V a := fun a ha => up_row _ _ _ ha
  have eN : ∀ j, j ≠ 5 → (j < 56 + 24 * N 5 ∨ 1496 ≤ j) → N j = M j := fun j hj h2 => (hN j hj h2).symm
  have e1 := hN 1 (by decide) (by omega)
  have e2 := hN 2 (by decide) (by omega)
  have e7 := hN 7 (by decide) (by omega)
  have e26 := hN 26 (by decide) (by omega)
  refine ⟨a1, ptH_ag a2 (fun c j hc => up_ne _ _ (by unfold isPt at hc; omega)), ?_,
    vK_ag e1.symm (by omega) (fun j hj => eN j (by omega) (by omega)) (fun a x y => er a (by omega)) a4, vE_ag e2.symm (by omega) (fun j x y => eN j (by omega) (by omega)) (fun a x y => er a (by omega)) a5,
    fun t t0 t1 => ?_, vG_ag e7.symm (by omega) (fun j x y => eN j (by omega) (by omega)) (fun a x y => er a (by omega)) a7,
    vB_ag (fun j x y => eN j (by omega) (by omega)) (er _ (by omega)) a8, vM_ag (fun j x y => eN j (by omega) (by omega)) (er _ (by omega)) (er _ (by omega)) a9, vA_ag (by omega) (fun j x y => eN j (by omega) (by omega)) (er _ (by omega)) (er _ (by omega)) a10⟩
  · obtain ⟨b0, b1, b2, b3, b4, b5, b6, b7, b8⟩ := a3
    have e0 : up V (h + 4) 1 (N 5) h = V h := er h (by omega)
    unfold vH
    rw [e0, eN 0 (by decide) (by omega), eN 8 (by decide) (by omega), ← e1, ← e2, ← e7, eN 6 (by decide) (by omega), eN 3 (by decide) (by omega), eN 4 (by decide) (by omega)]
    exact ⟨b0, b1, b2, b3, b4, b5, b6, b7, up_eq _ _ _ _⟩
  · refine stR_ag (fun w w0 w1 => by unfold sF; exact eN _ (by omega) (by omega)) ?_ (er _ (by omega)) (er _ (by omega)) (a6 t t0 (by omega))
    have := zs t t0 t1
    unfold sF at *
    rw [hN _ (by omega) (by omega)]
    exact this
theorem RH_gc {h x : Int} {N : gN0} {Sh : gSh} {V V' : gV} (H : RH h N Sh V) (hz : szO N) (e : V' = up V h 5 x) : RH h (upN N 6 x) Sh V' := by
  subst e
  have ej : ∀ j, j ≠ 5 → up V h 5 x h j = V h j := fun j hj => up_ne _ _ (Or.inr hj)
  have eN : ∀ j, j ≠ 6 → upN N 6 x j = N j := fun j hj => upN_ne hj
  refine RH_H H hz (fun j hj => eN j (by omega)) (eN 1 (by decide)) (eN 2 (by decide)) (eN 5 (by decide)) (eN 7 (by decide)) (fun a ha => up_row _ _ _ ha) (fun j x _ => ej j (by omega)) ?_ ?_ ?_ ?_ ?_ ?_ ?_ ?_
  · rw [ej 0 (by decide), eN 0 (by decide)]; exact H.t0
  · rw [ej 1 (by decide), eN 8 (by decide)]; exact H.t1
  · rw [ej 2 (by decide), eN 1 (by decide)]; exact H.t2
  · rw [ej 3 (by decide), eN 2 (by decide)]; exact H.t3
  · rw [ej 4 (by decide), eN 7 (by decide)]; exact H.t4
  · rw [up_eq, upN_eq]
  · rw [ej 6 (by decide), eN 3 (by decide)]; exact H.t6
  · rw [ej 7 (by decide), eN 4 (by decide)]; exact H.t7

theorem kX2_placeGroup {E l Sh V z} {h9 w9 k9 f9 n9 tl : Int} {m9 : Nat} {N : gN0} (hm : RH h9 N Sh V) (hI0 : INV N) (w1 : Sh w9 = some (9, 0)) (e0 : V w9 0 = k9) (e1 : V w9 1 = f9) (e2 : V w9 2 = n9) (e3 : V w9 3 = 1) (e4 : V w9 4 = 0) (hw9 : w9 < h9 ∨ h9 + 162 ≤ w9) (ho : 0 ≤ k9 ∧ k9 < N 1 ∧ 8822 ≤ f9 ∧ 1 ≤ n9 ∧ n9 ≤ 14 ∧ f9 + n9 ≤ 36525 ∧ 8822 ≤ tl ∧ tl ≤ 36524 ∧ -1 ≤ N 6 ∧ N 6 ≤ 9) (h1 : N 5 + m9 ≤ 60) : gM E l yX2_placeGroup (.code yX2_placeGroup cX2_placeGroup 6 (some .int)) (rmk 6 0 0 190) [(2, h9), (2, w9), (0, (m9 : Int)), (0, tl)] Sh V z (gRe (some (0, if (grT N k9 f9 n9 tl (N 6) m9).2 = -1 then N 6 else -1)) (fun V' => RH h9 (if (grT N k9 f9 n9 tl (N 6) m9).2 = -1 then upN (grT N k9 f9 n9 tl (N 6) m9).1 6 (N 6 + 1) else upN N 8 (dateZ (grT N k9 f9 n9 tl (N 6) m9).2)) Sh V' ∧ OUT h9 V V') Sh) := by
  refine gM_at (L0 := [(2, h9), (2, w9), (0, (m9 : Int)), (0, tl), (9, 0), (9, 0)]) rfl rfl rfl ?_
  intro p e s m args below meth c hC hr hex hnm hz
  have hI := hI0.1
  have hsc := hI.1
  unfold iScal at hsc
  refine gB hC _ _ _ _ _ _ _ qX2_placeGroup_0 rfl ?_
  refine g_getr hC dX2_placeGroup_1 fX2_41 hm.1.sH (by decide) rfl 11 rfl hm.2.1.p11 ?_
  refine g_getiv hC dX2_placeGroup_4 fX2_187 hm.1.sT (by decide) rfl 1 rfl hm.tS (fun i4 => ?_)
  refine gB hC _ _ _ _ _ _ _ qX2_placeGroup_7 rfl ?_
  refine g_loop (fun x : gV × Nat => RH h9 (grT N k9 f9 n9 tl (N 6) x.2).1 Sh x.1 ∧ OUT h9 V x.1 ∧ (grT N k9 f9 n9 tl (N 6) x.2).2 = -1 ∧ x.2 ≤ m9) (fun x => m9 - x.2) 12 (fun x => [(2, h9), (2, w9), (0, (m9 : Int)), (0, tl), (0, N 5), (0, (x.2 : Int))]) (fun x => x.1) (V, 0) ⟨hm, OUT.rfl' _ _, rfl, Nat.zero_le _⟩ ?_
  rintro ⟨V1, i⟩ z ⟨hm1, ho1, hg1, hi9⟩ ih
  dsimp only at hm1 ho1 hg1 hi9 ih ⊢
  have hgi := grT_inv hI0 ho i (by omega)
  have g5 := hgi.2.1 hg1
  have g6 : (grT N k9 f9 n9 tl (N 6) i).1 6 = N 6 := hgi.2.2.2.1 6 (by decide) (Or.inl (by omega))
  have g1 : (grT N k9 f9 n9 tl (N 6) i).1 1 = N 1 := hgi.2.2.2.1 1 (by decide) (Or.inl (by omega))
  have ew : V1 w9 = V w9 := ho1 w9 hw9
  have hri := rfd_in (grT N k9 f9 n9 tl (N 6) i).1 (k := k9) (first := f9) (nights := n9) (by omega) (by omega)
  refine gB hC _ _ _ _ _ _ _ qX2_placeGroup_12 rfl ?_
  refine g_icmp_ge hC 49 dX2_placeGroup_15 rfl (by first | omega | exact cmpZ_in _ _ | exact bI_in _) (by first | omega | exact cmpZ_in _ _ | exact bI_in _) (fun c15 => ?_) (fun c15 => ?_)
  · have e9 : i = m9 := by omega
    subst e9
    refine gB hC _ _ _ _ _ _ _ qX2_placeGroup_49 rfl ?_
    refine g_getiv hC dX2_placeGroup_51 fX2_77 hm.1.sH (by decide) rfl 5 rfl (hm1.t5.trans g6) (fun i51 => ?_)
    refine gB hC _ _ _ _ _ _ _ qX2_placeGroup_54 rfl ?_
    refine g_puti hC dX2_placeGroup_56 fX2_77 hm.1.sH (by decide) rfl (fun _ h => by cases h; rfl) 5 rfl (by first | omega | exact cmpZ_in _ _ | exact bI_in _) (fun V56 e56 => ?_)
    refine gB hC _ _ _ _ _ _ _ qX2_placeGroup_59 rfl ?_
    refine g_getiv hC dX2_placeGroup_60 fX2_77 hm.1.sH (by decide) rfl 5 rfl ((congrFun (congrFun e56 _) _).trans (up_eq _ _ _ _)) (fun i60 => ?_)
    refine gB hC _ _ _ _ _ _ _ qX2_placeGroup_63 rfl ?_
    refine g_ireturn hC dX2_placeGroup_65 hr ⟨?_, rfl, ?_, ?_⟩ gs_rfl ⟨Nat.le_of_ble_eq_true rfl, Nat.le_of_ble_eq_true rfl⟩
    · rw [if_pos hg1]; congr 3; omega
    · rw [if_pos hg1]
      exact RH_gc hm1 hgi.1.szO e56
    · rw [e56]; exact ho1.up (by omega)
  · refine gB hC _ _ _ _ _ _ _ qX2_placeGroup_18 rfl ?_
    refine g_getiv hC dX2_placeGroup_22 fX2_77 hm.1.sH (by decide) rfl 5 rfl (hm1.t5.trans g6) (fun i22 => ?_)
    refine g_cV1e hC dX2_placeGroup_25 mX2_190 vX2_place (kX2_place hm1 hgi.1 w1 ((congrFun ew 0).trans e0) ((congrFun ew 1).trans e1) ((congrFun ew 2).trans e2) ((congrFun ew 3).trans e3) ((congrFun ew 4).trans e4) (by unfold mkOk; omega)) rfl hm.1.sH (by decide) rfl (Nat.le_of_ble_eq_true rfl) (RR rfl rfl rfl rfl) (fun z V25 e25 => ?_)
    refine gB hC _ _ _ _ _ _ _ qX2_placeGroup_28 rfl ?_
    refine g_icmp_ne hC 43 dX2_placeGroup_29 rfl (by first | omega | exact cmpZ_in _ _ | exact bI_in _) (by first | omega | exact cmpZ_in _ _ | exact bI_in _) (fun c29 => ?_) (fun c29 => ?_)
    · have hr9 : rfd (grT N k9 f9 n9 tl (N 6) i).1 k9 f9 n9 = -1 := by
        by_cases hq : rfd (grT N k9 f9 n9 tl (N 6) i).1 k9 f9 n9 = -1
        · exact hq
        · rw [if_neg hq] at c29; exact absurd rfl c29
      refine gB hC _ _ _ _ _ _ _ qX2_placeGroup_43 rfl ?_
      refine ih (_, i + 1) _ ⟨?_, ho1.tr e25.2, ?_, by show i + 1 ≤ m9; omega⟩ (by show m9 - (i + 1) < m9 - i; omega)
      · rw [grT, if_neg (by omega), if_pos hr9]; have := e25.1; rw [if_pos hr9] at this; exact this
      · rw [grT, if_neg (by omega), if_pos hr9]
    · have hr9 : rfd (grT N k9 f9 n9 tl (N 6) i).1 k9 f9 n9 ≠ -1 := by
        intro hq
        rw [if_pos hq] at c29
        omega
      have hst := grT_stay (N := N) (k := k9) (first := f9) (nights := n9) (till := tl) (g := N 6) (i := i + 1) (by rw [grT, if_neg (by omega), if_neg hr9]; exact hr9) (m9 - (i + 1))
      rw [show i + 1 + (m9 - (i + 1)) = m9 by omega] at hst
      have hs2 : (grT N k9 f9 n9 tl (N 6) (i + 1)) = ((grT N k9 f9 n9 tl (N 6) i).1, rfd (grT N k9 f9 n9 tl (N 6) i).1 k9 f9 n9) := by rw [grT, if_neg (by omega), if_neg hr9]
      rw [hs2] at hst
      refine gB hC _ _ _ _ _ _ _ qX2_placeGroup_32 rfl ?_
      refine g_getr hC dX2_placeGroup_33 fX2_41 hm.1.sH (by decide) rfl 11 rfl e25.1.2.1.p11 ?_
      refine gB hC _ _ _ _ _ _ _ qX2_placeGroup_36 rfl ?_
      refine g_puti hC dX2_placeGroup_38 fX2_187 hm.1.sT (by decide) rfl (fun _ h => by cases h; rfl) 1 rfl (by first | omega | exact cmpZ_in _ _ | exact bI_in _) (fun V38 e38 => ?_)
      refine gB hC _ _ _ _ _ _ _ qX2_placeGroup_41 rfl ?_
      refine g_ireturn hC dX2_placeGroup_42 hr ⟨?_, rfl, ?_, ?_⟩ gs_rfl ⟨Nat.le_of_ble_eq_true rfl, Nat.le_of_ble_eq_true rfl⟩
      · rw [hst, if_neg hr9]
      · rw [hst, if_neg hr9]
        have e5 := e25.1
        rw [if_neg hr9] at e5
        refine RH_cut e5 (szO_ag hI0.szO (upN_ne (by decide)) (upN_ne (by decide)) (upN_ne (by decide)) (upN_ne (by decide)) (upN_ne (by decide)) (fun s s0 s1 => ?_)) (by rw [upN_ne (by decide)]; omega) (fun j j5 hj => ?_) ?_ (by rw [upN_ne (by decide)]; exact e38)
        · unfold sF; rw [upN_ne (by omega)]; exact hI0.szO.2.2.2.2.2 s s0 s1
        · by_cases j8 : j = 8
          · rw [j8, upN_eq, upN_eq]
          · rw [upN_ne j8, upN_ne j8]
            rw [upN_ne (by decide)] at hj
            exact hgi.2.2.2.1 j j5 hj
        · rw [upN_ne (by decide), upN_ne (by decide)]; exact hgi.2.2.1
      · rw [e38]; exact (ho1.tr e25.2).up (by omega)

