/-! the class: a hotel copied (rows laid by wip/whole/n72.py) -/
theorem kdR_cp {a o k : Int} {N : gN0} {V V' : gV} (H : kdR o k N V) (hne : o + 1 < a ∨ a + 1 < o) (e : V' = rwV (rwV V a (V o) 3) (a + 1) (V (o + 1)) 571) : kdR a k N V' := by
  have ev : ∀ j, 0 ≤ j → j < 3 → V' a j = V o j := fun j j0 j1 => by rw [e, rwV_ne (by omega)]; exact rwV_at j0 j1
  obtain ⟨⟨x0, x1, x2⟩, x3⟩ := H
  refine ⟨⟨(ev 0 (by decide) (by decide)).trans x0, (ev 1 (by decide) (by decide)).trans x1, (ev 2 (by decide) (by decide)).trans x2⟩, fun d d0 d1 => ?_⟩
  rw [e, rwV_at (by omega) (by omega)]
  exact x3 d d0 d1
/-- a copy under way -/
def CPS (h : Int) (r : gN0) (V V1 : gV) : Prop := OUT h V V1 ∧ (∀ j, 0 ≤ j → j < 8 → V1 h j = r j) ∧ ptH h V1
theorem CPS_up {h : Int} {r : gN0} {V V1 V2 : gV} (H : CPS h r V V1) (e : ∀ a, a ≠ h → (a < h ∨ h + 162 ≤ a) → V2 a = V1 a) (e0 : V2 h = V1 h) (ep : ∀ c j, isPt c j → V2 (h + c) j = V1 (h + c) j) : CPS h r V V2 := by
  obtain ⟨h1, h2, h3⟩ := H
  exact ⟨fun a ha => (e a (by omega) ha).trans (h1 a ha), fun j j0 j1 => by rw [e0]; exact h2 j j0 j1, ptH_ag h3 ep⟩

theorem kX2_copyFrom {E l Sh V z} {h9 o9 : Int} {N : gN0} (hb : shH h9 Sh) (hp : ptH h9 V) (hmo : RH o9 N Sh V) (hI0 : INV N) (hd9 : o9 + 162 ≤ h9 ∨ h9 + 162 ≤ o9) : gM E l yX2_copyFrom (.code yX2_copyFrom cX2_copyFrom 3 none) (rmk 3 0 0 110) [(2, h9), (2, o9)] Sh V z (gRe none (fun V' => RH h9 N Sh V' ∧ OUT h9 V V') Sh) := by
  refine gM_at (L0 := [(2, h9), (2, o9), (9, 0)]) rfl rfl rfl ?_
  intro p e s m args below meth c hC hr hex hnm hz
  have hI := hI0.1
  have hsc := hI.1
  unfold iScal at hsc
  have hz9 := hI0.szO
  have hr1 := hmo.t1
  unfold rfR at hr1
  refine gB hC _ _ _ _ _ _ _ qX2_copyFrom_0 rfl ?_
  refine g_getiv hC dX2_copyFrom_2 fX2_11 hmo.1.sH (by decide) rfl 0 rfl hmo.t0 (fun i2 => ?_)
  refine g_puti hC dX2_copyFrom_5 fX2_11 hb.sH (by decide) rfl (fun _ h => by cases h; rfl) 0 rfl (by first | omega | exact cmpZ_in _ _ | exact bI_in _) (fun V5 e5 => ?_)
  refine gB hC _ _ _ _ _ _ _ qX2_copyFrom_8 rfl ?_
  refine g_getiv hC dX2_copyFrom_10 fX2_17 hmo.1.sH (by decide) rfl 1 rfl ((congrFun (congrFun e5 _) _).trans ((up_ne _ _ (by omega)).trans rfl)) (fun i10 => ?_)
  refine g_puti hC dX2_copyFrom_13 fX2_17 hb.sH (by decide) rfl (fun _ h => by cases h; rfl) 1 rfl (by first | omega | exact cmpZ_in _ _ | exact bI_in _) (fun V13 e13 => ?_)
  refine gB hC _ _ _ _ _ _ _ qX2_copyFrom_16 rfl ?_
  refine g_getiv hC dX2_copyFrom_18 fX2_68 hmo.1.sH (by decide) rfl 2 rfl ((congrFun (congrFun e13 _) _).trans ((up_ne _ _ (by omega)).trans ((congrFun (congrFun e5 _) _).trans ((up_ne _ _ (by omega)).trans hmo.t2)))) (fun i18 => ?_)
  refine g_puti hC dX2_copyFrom_21 fX2_68 hb.sH (by decide) rfl (fun _ h => by cases h; rfl) 2 rfl (by first | omega | exact cmpZ_in _ _ | exact bI_in _) (fun V21 e21 => ?_)
  refine gB hC _ _ _ _ _ _ _ qX2_copyFrom_24 rfl ?_
  refine g_getiv hC dX2_copyFrom_26 fX2_71 hmo.1.sH (by decide) rfl 3 rfl ((congrFun (congrFun e21 _) _).trans ((up_ne _ _ (by omega)).trans ((congrFun (congrFun e13 _) _).trans ((up_ne _ _ (by omega)).trans ((congrFun (congrFun e5 _) _).trans ((up_ne _ _ (by omega)).trans hmo.t3)))))) (fun i26 => ?_)
  refine g_puti hC dX2_copyFrom_29 fX2_71 hb.sH (by decide) rfl (fun _ h => by cases h; rfl) 3 rfl (by first | omega | exact cmpZ_in _ _ | exact bI_in _) (fun V29 e29 => ?_)
  refine gB hC _ _ _ _ _ _ _ qX2_copyFrom_32 rfl ?_
  refine g_getiv hC dX2_copyFrom_34 fX2_74 hmo.1.sH (by decide) rfl 4 rfl ((congrFun (congrFun e29 _) _).trans ((up_ne _ _ (by omega)).trans ((congrFun (congrFun e21 _) _).trans ((up_ne _ _ (by omega)).trans ((congrFun (congrFun e13 _) _).trans ((up_ne _ _ (by omega)).trans ((congrFun (congrFun e5 _) _).trans ((up_ne _ _ (by omega)).trans hmo.t4)))))))) (fun i34 => ?_)
  refine g_puti hC dX2_copyFrom_37 fX2_74 hb.sH (by decide) rfl (fun _ h => by cases h; rfl) 4 rfl (by first | omega | exact cmpZ_in _ _ | exact bI_in _) (fun V37 e37 => ?_)
  refine gB hC _ _ _ _ _ _ _ qX2_copyFrom_40 rfl ?_
  refine g_getiv hC dX2_copyFrom_42 fX2_77 hmo.1.sH (by decide) rfl 5 rfl ((congrFun (congrFun e37 _) _).trans ((up_ne _ _ (by omega)).trans ((congrFun (congrFun e29 _) _).trans ((up_ne _ _ (by omega)).trans ((congrFun (congrFun e21 _) _).trans ((up_ne _ _ (by omega)).trans ((congrFun (congrFun e13 _) _).trans ((up_ne _ _ (by omega)).trans ((congrFun (congrFun e5 _) _).trans ((up_ne _ _ (by omega)).trans hmo.t5)))))))))) (fun i42 => ?_)
  refine g_puti hC dX2_copyFrom_45 fX2_77 hb.sH (by decide) rfl (fun _ h => by cases h; rfl) 5 rfl (by first | omega | exact cmpZ_in _ _ | exact bI_in _) (fun V45 e45 => ?_)
  refine gB hC _ _ _ _ _ _ _ qX2_copyFrom_48 rfl ?_
  refine g_getiv hC dX2_copyFrom_50 fX2_80 hmo.1.sH (by decide) rfl 6 rfl ((congrFun (congrFun e45 _) _).trans ((up_ne _ _ (by omega)).trans ((congrFun (congrFun e37 _) _).trans ((up_ne _ _ (by omega)).trans ((congrFun (congrFun e29 _) _).trans ((up_ne _ _ (by omega)).trans ((congrFun (congrFun e21 _) _).trans ((up_ne _ _ (by omega)).trans ((congrFun (congrFun e13 _) _).trans ((up_ne _ _ (by omega)).trans ((congrFun (congrFun e5 _) _).trans ((up_ne _ _ (by omega)).trans hmo.t6)))))))))))) (fun i50 => ?_)
  refine g_puti hC dX2_copyFrom_53 fX2_80 hb.sH (by decide) rfl (fun _ h => by cases h; rfl) 6 rfl (by first | omega | exact cmpZ_in _ _ | exact bI_in _) (fun V53 e53 => ?_)
  refine gB hC _ _ _ _ _ _ _ qX2_copyFrom_56 rfl ?_
  refine g_getiv hC dX2_copyFrom_58 fX2_83 hmo.1.sH (by decide) rfl 7 rfl ((congrFun (congrFun e53 _) _).trans ((up_ne _ _ (by omega)).trans ((congrFun (congrFun e45 _) _).trans ((up_ne _ _ (by omega)).trans ((congrFun (congrFun e37 _) _).trans ((up_ne _ _ (by omega)).trans ((congrFun (congrFun e29 _) _).trans ((up_ne _ _ (by omega)).trans ((congrFun (congrFun e21 _) _).trans ((up_ne _ _ (by omega)).trans ((congrFun (congrFun e13 _) _).trans ((up_ne _ _ (by omega)).trans ((congrFun (congrFun e5 _) _).trans ((up_ne _ _ (by omega)).trans hmo.t7)))))))))))))) (fun i58 => ?_)
  refine g_puti hC dX2_copyFrom_61 fX2_83 hb.sH (by decide) rfl (fun _ h => by cases h; rfl) 7 rfl (by first | omega | exact cmpZ_in _ _ | exact bI_in _) (fun V61 e61 => ?_)
  have hc0 : CPS h9 (rowL [N 0, V o9 1, N 1, N 2, N 7, N 6, N 3, N 4]) V V61 := by
    have e8 : V61 = rwV V h9 (rowL [N 0, V o9 1, N 1, N 2, N 7, N 6, N 3, N 4]) 8 := by rw [e61, e53, e45, e37, e29, e21, e13, e5]; exact upS_rw V h9 [N 0, V o9 1, N 1, N 2, N 7, N 6, N 3, N 4] rfl
    refine ⟨fun a ha => by rw [e8, rwV_ne (by omega)], fun j j0 j1 => by rw [e8]; exact rwV_at j0 j1, ptH_ag hp (fun c j hc => ?_)⟩
    unfold isPt at hc
    rw [e8, rwV_far (by omega)]
  refine gB hC _ _ _ _ _ _ _ qX2_copyFrom_64 rfl ?_
  refine g_loop (fun x : gV × Nat => CPS h9 (rowL [N 0, V o9 1, N 1, N 2, N 7, N 6, N 3, N 4]) V x.1 ∧ (∀ k, 0 ≤ k → k < (x.2 : Int) → kdR (h9 + 132 + 2 * k) k N x.1) ∧ (x.2 : Int) ≤ N 1) (fun x => (N 1 - x.2).toNat) 66 (fun x => [(2, h9), (2, o9), (0, (x.2 : Int))]) (fun x => x.1) (V61, 0) ⟨hc0, fun k k0 k1 => by have : k < 0 := k1; omega, by show (0 : Int) ≤ N 1; omega⟩ ?_
  rintro ⟨V1, t⟩ z ⟨hc1, hk1, ht⟩ ih
  dsimp only at hc1 hk1 ht ih ⊢
  have hm1 : RH o9 N Sh V1 := RH_ag hmo hz9 (fun _ _ _ => rfl) (fun a x y => hc1.1 a (by omega))
  refine gB hC _ _ _ _ _ _ _ qX2_copyFrom_66 rfl ?_
  refine g_getiv hC dX2_copyFrom_68 fX2_68 hb.sH (by decide) rfl 2 rfl (show V1 h9 2 = N 1 from hc1.2.1 2 (by decide) (by decide)) (fun i68 => ?_)
  refine g_icmp_ge hC 95 dX2_copyFrom_71 rfl (by first | omega | exact cmpZ_in _ _ | exact bI_in _) (by first | omega | exact cmpZ_in _ _ | exact bI_in _) (fun c71 => ?_) (fun c71 => ?_)
  · refine gB hC _ _ _ _ _ _ _ qX2_copyFrom_95 rfl ?_
    have hvk : vK h9 N V1 := fun k k0 k1 => hk1 k k0 (by omega)
    refine g_loop (fun x : gV × Nat => CPS h9 (rowL [N 0, V o9 1, N 1, N 2, N 7, N 6, N 3, N 4]) V x.1 ∧ vK h9 N x.1 ∧ (∀ i, 0 ≤ i → i < (x.2 : Int) → x.1 (h9 + 138 + i) 0 = seF N i 0 ∧ x.1 (h9 + 138 + i) 1 = seF N i 1 ∧ x.1 (h9 + 138 + i) 2 = seF N i 2 ∧ x.1 (h9 + 138 + i) 3 = seF N i 3) ∧ (x.2 : Int) ≤ N 2) (fun x => (N 2 - x.2).toNat) 97 (fun x => [(2, h9), (2, o9), (0, (x.2 : Int))]) (fun x => x.1) (V1, 0) ⟨hc1, hvk, fun k k0 k1 => by have : k < 0 := k1; omega, by show (0 : Int) ≤ N 2; omega⟩ ?_
    rintro ⟨V2, t2⟩ z ⟨hc2, hv2, hk2, ht2⟩ ih2
    dsimp only at hc2 hv2 hk2 ht2 ih2 ⊢
    have hm2 : RH o9 N Sh V2 := RH_ag hmo hz9 (fun _ _ _ => rfl) (fun a x y => hc2.1 a (by omega))
    refine gB hC _ _ _ _ _ _ _ qX2_copyFrom_97 rfl ?_
    refine g_getiv hC dX2_copyFrom_99 fX2_71 hb.sH (by decide) rfl 3 rfl (show V2 h9 3 = N 2 from hc2.2.1 3 (by decide) (by decide)) (fun i99 => ?_)
    refine g_icmp_ge hC 126 dX2_copyFrom_102 rfl (by first | omega | exact cmpZ_in _ _ | exact bI_in _) (by first | omega | exact cmpZ_in _ _ | exact bI_in _) (fun c102 => ?_) (fun c102 => ?_)
    · refine gB hC _ _ _ _ _ _ _ qX2_copyFrom_126 rfl ?_
      have hve : vE h9 N V2 := fun k k0 k1 => hk2 k k0 (by omega)
      refine g_loop (fun x : gV × Nat => CPS h9 (rowL [N 0, V o9 1, N 1, N 2, N 7, N 6, N 3, N 4]) V x.1 ∧ vK h9 N x.1 ∧ vE h9 N x.1 ∧ (∀ g, 0 ≤ g → g < (x.2 : Int) → x.1 (h9 + 142 + g) 0 = gF N g 0 ∧ x.1 (h9 + 142 + g) 1 = gF N g 1 ∧ x.1 (h9 + 142 + g) 2 = gF N g 2 ∧ x.1 (h9 + 142 + g) 3 = gF N g 3 ∧ x.1 (h9 + 142 + g) 4 = gF N g 4) ∧ (x.2 : Int) ≤ N 7) (fun x => (N 7 - x.2).toNat) 128 (fun x => [(2, h9), (2, o9), (0, (x.2 : Int))]) (fun x => x.1) (V2, 0) ⟨hc2, hv2, hve, fun k k0 k1 => by have : k < 0 := k1; omega, by show (0 : Int) ≤ N 7; omega⟩ ?_
      rintro ⟨V3, t3⟩ z ⟨hc3, hv3, he3, hk3, ht3⟩ ih3
      dsimp only at hc3 hv3 he3 hk3 ht3 ih3 ⊢
      have hm3 : RH o9 N Sh V3 := RH_ag hmo hz9 (fun _ _ _ => rfl) (fun a x y => hc3.1 a (by omega))
      refine gB hC _ _ _ _ _ _ _ qX2_copyFrom_128 rfl ?_
      refine g_getiv hC dX2_copyFrom_130 fX2_74 hb.sH (by decide) rfl 4 rfl (show V3 h9 4 = N 7 from hc3.2.1 4 (by decide) (by decide)) (fun i130 => ?_)
      refine g_icmp_ge hC 157 dX2_copyFrom_133 rfl (by first | omega | exact cmpZ_in _ _ | exact bI_in _) (by first | omega | exact cmpZ_in _ _ | exact bI_in _) (fun c133 => ?_) (fun c133 => ?_)
      · have hvg : vG h9 N V3 := fun k k0 k1 => hk3 k k0 (by omega)
        refine gB hC _ _ _ _ _ _ _ qX2_copyFrom_157 rfl ?_
        refine g_getr hC dX2_copyFrom_158 fX2_41 hb.sH (by decide) rfl 11 rfl hc3.2.2.p11 ?_
        refine gB hC _ _ _ _ _ _ _ qX2_copyFrom_161 rfl ?_
        refine g_getr hC dX2_copyFrom_162 fX2_41 hmo.1.sH (by decide) rfl 11 rfl hm3.2.1.p11 ?_
        refine g_cV0e hC dX2_copyFrom_165 mX2_96 vX9_copyFrom (kX9_copyFrom hb hc3.2.2 hm3 hI0 hd9) rfl hb.sT (by decide) rfl (Nat.le_of_ble_eq_true rfl) (RR rfl rfl rfl rfl) (fun z V165 e165 => ?_)
        obtain ⟨s1, s2, s3, s4⟩ := e165
        have hv4 : vK h9 N V165 := vK_ag rfl hz9.1 (fun _ _ => rfl) (fun a x y => s4 a (by omega)) hv3
        have he4 : vE h9 N V165 := vE_ag rfl hz9.2.1 (fun _ _ _ => rfl) (fun a x y => s4 a (by omega)) he3
        have hg4 : vG h9 N V165 := vG_ag rfl hz9.2.2.2.1 (fun _ _ _ => rfl) (fun a x y => s4 a (by omega)) hvg
        have hj4 : ∀ j, 0 ≤ j → j < 8 → V165 h9 j = (rowL [N 0, V o9 1, N 1, N 2, N 7, N 6, N 3, N 4]) j := fun j j0 j1 => by rw [s4 h9 (by omega)]; exact hc3.2.1 j j0 j1
        have ho4 : OUT h9 V V165 := fun a ha => (s4 a (by omega)).trans (hc3.1 a ha)
        have hm4 : RH o9 N Sh V165 := RH_ag hmo hz9 (fun _ _ _ => rfl) (fun a x y => ho4 a (by omega))
        refine gB hC _ _ _ _ _ _ _ qX2_copyFrom_168 rfl ?_
        refine g_getr hC dX2_copyFrom_169 fX2_45 hmo.1.sH (by decide) rfl 12 rfl hm4.2.1.p12 ?_
        refine gB hC _ _ _ _ _ _ _ qX2_copyFrom_172 rfl ?_
        refine g_getr hC dX2_copyFrom_174 fX2_45 hb.sH (by decide) rfl 12 rfl s3.p12 ?_
        refine gB hC _ _ _ _ _ _ _ qX2_copyFrom_177 rfl ?_
        refine g_copy_long hC dX2_copyFrom_179 mX2_99 gCpN gCpS gCpI hmo.1.sB hb.sB ⟨by decide, by decide⟩ (by decide) (by decide) (by decide) (by decide) (by decide) ⟨Nat.le_of_ble_eq_true rfl, Nat.le_of_ble_eq_true rfl⟩ ?_
        rw [cpV_rw]
        generalize eB : rwV V165 (h9 + 126) (V165 (o9 + 126)) 4 = VB
        have hB : ∀ a, a ≠ h9 + 126 → VB a = V165 a := fun a ha => by rw [← eB, rwV_ne ha]
        have hB2 : ∀ i, 0 ≤ i → i < 4 → VB (h9 + 126) i = V165 (o9 + 126) i := fun i i0 i1 => by rw [← eB]; exact rwV_at i0 i1
        have hp5 : ptH h9 VB := ptH_ag s3 (fun c j hc => by unfold isPt at hc; rw [hB _ (by omega)])
        have hm5 : RH o9 N Sh VB := RH_ag hmo hz9 (fun _ _ _ => rfl) (fun a x y => by rw [hB a (by omega)]; exact ho4 a (by omega))
        refine gB hC _ _ _ _ _ _ _ qX2_copyFrom_182 rfl ?_
        refine g_getr hC dX2_copyFrom_183 fX2_52 hb.sH (by decide) rfl 13 rfl hp5.p13 ?_
        refine gB hC _ _ _ _ _ _ _ qX2_copyFrom_186 rfl ?_
        refine g_getr hC dX2_copyFrom_187 fX2_52 hmo.1.sH (by decide) rfl 13 rfl hm5.2.1.p13 ?_
        refine g_cV0m hC dX2_copyFrom_190 mX2_105 vX4_copyFrom (kX4_copyFrom (a9 := h9 + 127) (o9 := o9 + 127) (by rw [show h9 + 127 + 1 = h9 + 128 by omega]; exact hb.sP) (by rw [show h9 + 127 + 2 = h9 + 129 by omega]; exact hb.sO) hb.sM (by rw [hp5.pP]; omega) (by rw [hp5.pO]; omega) (by rw [show o9 + 127 + 1 = o9 + 128 by omega]; exact hmo.1.sP) (by rw [show o9 + 127 + 2 = o9 + 129 by omega]; exact hmo.1.sO) hmo.1.sM (by rw [hm5.2.1.pP]; omega) (by rw [hm5.2.1.pO]; omega) (by omega)) rfl hb.sM (by decide) rfl (Nat.le_of_ble_eq_true rfl) (RR rfl rfl rfl rfl) (fun z V190 e190 => ?_)
        rw [show h9 + 127 + 1 = h9 + 128 by omega, show o9 + 127 + 1 = o9 + 128 by omega, show h9 + 127 + 2 = h9 + 129 by omega, show o9 + 127 + 2 = o9 + 129 by omega] at e190
        have hM : ∀ a, a ≠ h9 + 128 → a ≠ h9 + 129 → V190 a = VB a := fun a q1 q2 => by rw [e190, rwV_ne q2, rwV_ne q1]
        have hp6 : ptH h9 V190 := ptH_ag hp5 (fun c j hc => by unfold isPt at hc; rw [hM _ (by omega) (by omega)])
        have hm6 : RH o9 N Sh V190 := RH_ag hm5 hz9 (fun _ _ _ => rfl) (fun a x y => hM a (by omega) (by omega))
        refine gB hC _ _ _ _ _ _ _ qX2_copyFrom_193 rfl ?_
        refine g_getr hC dX2_copyFrom_194 fX2_59 hb.sH (by decide) rfl 14 rfl hp6.p14 ?_
        refine gB hC _ _ _ _ _ _ _ qX2_copyFrom_197 rfl ?_
        refine g_getr hC dX2_copyFrom_198 fX2_59 hmo.1.sH (by decide) rfl 14 rfl hm6.2.1.p14 ?_
        refine g_cV0m hC dX2_copyFrom_201 mX2_108 vX6_copyFrom (kX6_copyFrom (a9 := h9 + 130) (o9 := o9 + 130) hb.sA (by rw [show h9 + 130 + 1 = h9 + 131 by omega]; exact hb.sF) (by rw [hp6.pF]; omega) hmo.1.sA (by rw [show o9 + 130 + 1 = o9 + 131 by omega]; exact hmo.1.sF) (by rw [hm6.2.1.pF]; omega) (by omega)) rfl hb.sA (by decide) rfl (Nat.le_of_ble_eq_true rfl) (RR rfl rfl rfl rfl) (fun z V201 e201 => ?_)
        refine g_return hC dX2_copyFrom_204 hr ⟨rfl, rfl, ?_, ?_⟩ gs_rfl ⟨Nat.le_of_ble_eq_true rfl, Nat.le_of_ble_eq_true rfl⟩
        · rw [show h9 + 130 + 1 = h9 + 131 by omega, show o9 + 130 + 1 = o9 + 131 by omega] at e201
          have hA : ∀ a, a ≠ h9 + 130 → a ≠ h9 + 131 → V201 a = V190 a := fun a q1 q2 => by rw [e201, rwV_ne q2, rwV_ne q1]
          have hall : ∀ a, a ≠ h9 + 126 → a ≠ h9 + 128 → a ≠ h9 + 129 → a ≠ h9 + 130 → a ≠ h9 + 131 → V201 a = V165 a := fun a q1 q2 q3 q4 q5 => by rw [hA a q4 q5, hM a q2 q3, hB a q1]
          have hjj : ∀ j, 0 ≤ j → j < 8 → V201 h9 j = (rowL [N 0, V o9 1, N 1, N 2, N 7, N 6, N 3, N 4]) j := fun j j0 j1 => by rw [hall h9 (by omega) (by omega) (by omega) (by omega) (by omega)]; exact hj4 j j0 j1
          have hAj : ∀ j, 0 ≤ j → j < 6 → V201 (h9 + 130) j = V190 (o9 + 130) j := fun j j0 j1 => by rw [e201, rwV_ne (by omega)]; exact rwV_at j0 j1
          refine ⟨hb, ptH_ag hp6 (fun c j hc => ?_), ⟨?_, ?_, ?_, ?_, ?_, ?_, ?_, ?_, ?_⟩, vK_ag rfl hz9.1 (fun _ _ => rfl) (fun a x y => hall a (by omega) (by omega) (by omega) (by omega) (by omega)) hv4, vE_ag rfl hz9.2.1 (fun _ _ _ => rfl) (fun a x y => hall a (by omega) (by omega) (by omega) (by omega) (by omega)) he4,
            vS_ag rfl hz9.2.2.1 hz9.2.2.2.2.2 (fun _ _ _ => rfl) (fun a x y => hall a (by omega) (by omega) (by omega) (by omega) (by omega)) s2, vG_ag rfl hz9.2.2.2.1 (fun _ _ _ => rfl) (fun a x y => hall a (by omega) (by omega) (by omega) (by omega) (by omega)) hg4, fun i i0 i1 => ?_, fun i i0 i1 => ⟨?_, ?_⟩, ⟨⟨?_, ?_, ?_, ?_, ?_, ?_⟩, fun i i0 i1 => ?_⟩⟩
          · unfold isPt at hc
            by_cases q : c = 130
            · subst q
              rw [e201, rwV_ne (by omega), rwV_far (by omega)]
            · rw [hA _ (by omega) (by omega)]
          · exact hjj 0 (by decide) (by decide)
          · rw [hjj 1 (by decide) (by decide)]; exact hmo.t1
          · exact hjj 2 (by decide) (by decide)
          · exact hjj 3 (by decide) (by decide)
          · exact hjj 4 (by decide) (by decide)
          · exact hjj 5 (by decide) (by decide)
          · exact hjj 6 (by decide) (by decide)
          · exact hjj 7 (by decide) (by decide)
          · rw [hall (h9 + 4) (by omega) (by omega) (by omega) (by omega) (by omega)]; exact s1
          · rw [hA _ (by omega) (by omega), hM _ (by omega) (by omega), hB2 i i0 i1]; exact hm4.b i0 i1
          · rw [hA _ (by omega) (by omega), e190, rwV_ne (by omega), rwV_at i0 i1]; exact hm5.mp i0 i1
          · rw [hA _ (by omega) (by omega), e190, rwV_at i0 i1]; exact hm5.mo i0 i1
          · rw [hAj 0 (by decide) (by decide)]; exact hm6.a0
          · rw [hAj 1 (by decide) (by decide)]; exact hm6.a1
          · rw [hAj 2 (by decide) (by decide)]; exact hm6.a2
          · rw [hAj 3 (by decide) (by decide)]; exact hm6.a3
          · rw [hAj 4 (by decide) (by decide)]; exact hm6.a4
          · rw [hAj 5 (by decide) (by decide)]; exact hm6.a5
          · have z26 := hz9.2.2.2.2.1
            rw [e201, rwV_at i0 (by omega)]; exact hm6.of i0 i1
        · intro a ha
          rw [show h9 + 130 + 1 = h9 + 131 by omega, show o9 + 130 + 1 = o9 + 131 by omega] at e201
          rw [e201, rwV_ne (by omega), rwV_ne (by omega), hM a (by omega) (by omega), hB a (by omega)]
          exact ho4 a ha
      · refine gB hC _ _ _ _ _ _ _ qX2_copyFrom_136 rfl ?_
        refine g_getr hC dX2_copyFrom_137 fX2_34 hb.sH (by decide) rfl 10 rfl hc3.2.2.p10 ?_
        refine gB hC _ _ _ _ _ _ _ qX2_copyFrom_140 rfl ?_
        refine g_aald hC (j := 7) dX2_copyFrom_141 hb.sG (by decide) (hc3.2.2.pg (by omega) (by omega)) (by omega) (by omega) (by decide) ?_
        refine gB hC _ _ _ _ _ _ _ qX2_copyFrom_142 rfl ?_
        refine g_getr hC dX2_copyFrom_143 fX2_34 hmo.1.sH (by decide) rfl 10 rfl hm3.2.1.p10 ?_
        refine gB hC _ _ _ _ _ _ _ qX2_copyFrom_146 rfl ?_
        refine g_aald hC (j := 7) dX2_copyFrom_147 hmo.1.sG (by decide) (hm3.2.1.pg (by omega) (by omega)) (by omega) (by omega) (by decide) ?_
        refine g_cV0m hC dX2_copyFrom_148 mX2_93 vX10_copyFrom (kX10_copyFrom (hb.sg (by omega) (by omega)) (hmo.1.sg (by omega) (by omega))) rfl (hb.sg (by omega) (by omega)) (by decide) rfl (Nat.le_of_ble_eq_true rfl) (RR rfl rfl rfl rfl) (fun z V148 e148 => ?_)
        refine gB hC _ _ _ _ _ _ _ qX2_copyFrom_151 rfl ?_
        have hcn : CPS h9 (rowL [N 0, V o9 1, N 1, N 2, N 7, N 6, N 3, N 4]) V V148 := CPS_up hc3 (fun a _ ha => by rw [e148, rwV_ne (by omega)]) (by rw [e148, rwV_ne (by omega)]) (fun c j hc => by unfold isPt at hc; rw [e148, rwV_ne (by omega)])
        refine ih3 (V148, t3 + 1) _ ⟨hcn, vK_ag rfl hz9.1 (fun _ _ => rfl) (fun a x y => by dsimp only; rw [e148, rwV_ne (by omega)]) hv3, vE_ag rfl hz9.2.1 (fun _ _ _ => rfl) (fun a x y => by dsimp only; rw [e148, rwV_ne (by omega)]) he3, fun k k0 k1 => ?_, by show ((t3 + 1 : Nat) : Int) ≤ N 7; omega⟩ (by show (N 7 - ((t3 + 1 : Nat) : Int)).toNat < (N 7 - t3).toNat; omega)
        have k2 : k < ((t3 + 1 : Nat) : Int) := k1
        dsimp only
        by_cases hkt : k = (t3 : Int)
        · subst hkt
          have ev : ∀ w, 0 ≤ w → w < 5 → V148 (h9 + 142 + (t3 : Int)) w = V3 (o9 + 142 + (t3 : Int)) w := fun w w0 w1 => by rw [e148]; exact rwV_at w0 w1
          rw [ev 0 (by decide) (by decide), ev 1 (by decide) (by decide), ev 2 (by decide) (by decide), ev 3 (by decide) (by decide), ev 4 (by decide) (by decide)]
          exact hm3.2.2.2.2.2.2.1 _ (by omega) (by omega)
        · rw [e148, rwV_ne (by omega)]
          exact hk3 k k0 (by omega)
    · refine gB hC _ _ _ _ _ _ _ qX2_copyFrom_105 rfl ?_
      refine g_getr hC dX2_copyFrom_106 fX2_28 hb.sH (by decide) rfl 9 rfl hc2.2.2.p9 ?_
      refine gB hC _ _ _ _ _ _ _ qX2_copyFrom_109 rfl ?_
      refine g_aald hC (j := 5) dX2_copyFrom_110 hb.sE (by decide) (hc2.2.2.pe (by omega) (by omega)) (by omega) (by omega) (by decide) ?_
      refine gB hC _ _ _ _ _ _ _ qX2_copyFrom_111 rfl ?_
      refine g_getr hC dX2_copyFrom_112 fX2_28 hmo.1.sH (by decide) rfl 9 rfl hm2.2.1.p9 ?_
      refine gB hC _ _ _ _ _ _ _ qX2_copyFrom_115 rfl ?_
      refine g_aald hC (j := 5) dX2_copyFrom_116 hmo.1.sE (by decide) (hm2.2.1.pe (by omega) (by omega)) (by omega) (by omega) (by decide) ?_
      refine g_cV0m hC dX2_copyFrom_117 mX2_90 vX7_copyFrom (kX7_copyFrom (hb.se (by omega) (by omega)) (hmo.1.se (by omega) (by omega))) rfl (hb.se (by omega) (by omega)) (by decide) rfl (Nat.le_of_ble_eq_true rfl) (RR rfl rfl rfl rfl) (fun z V117 e117 => ?_)
      refine gB hC _ _ _ _ _ _ _ qX2_copyFrom_120 rfl ?_
      have hcn : CPS h9 (rowL [N 0, V o9 1, N 1, N 2, N 7, N 6, N 3, N 4]) V V117 := CPS_up hc2 (fun a _ ha => by rw [e117, rwV_ne (by omega)]) (by rw [e117, rwV_ne (by omega)]) (fun c j hc => by unfold isPt at hc; rw [e117, rwV_ne (by omega)])
      refine ih2 (V117, t2 + 1) _ ⟨hcn, vK_ag rfl hz9.1 (fun _ _ => rfl) (fun a x y => by dsimp only; rw [e117, rwV_ne (by omega)]) hv2, fun k k0 k1 => ?_, by show ((t2 + 1 : Nat) : Int) ≤ N 2; omega⟩ (by show (N 2 - ((t2 + 1 : Nat) : Int)).toNat < (N 2 - t2).toNat; omega)
      have k2 : k < ((t2 + 1 : Nat) : Int) := k1
      dsimp only
      by_cases hkt : k = (t2 : Int)
      · subst hkt
        have ev : ∀ w, 0 ≤ w → w < 4 → V117 (h9 + 138 + (t2 : Int)) w = V2 (o9 + 138 + (t2 : Int)) w := fun w w0 w1 => by rw [e117]; exact rwV_at w0 w1
        rw [ev 0 (by decide) (by decide), ev 1 (by decide) (by decide), ev 2 (by decide) (by decide), ev 3 (by decide) (by decide)]
        exact hm2.2.2.2.2.1 _ (by omega) (by omega)
      · rw [e117, rwV_ne (by omega)]
        exact hk2 k k0 (by omega)
  · refine gB hC _ _ _ _ _ _ _ qX2_copyFrom_74 rfl ?_
    refine g_getr hC dX2_copyFrom_75 fX2_22 hb.sH (by decide) rfl 8 rfl hc1.2.2.p8 ?_
    refine gB hC _ _ _ _ _ _ _ qX2_copyFrom_78 rfl ?_
    refine g_aald hC (j := 4) dX2_copyFrom_79 hb.sK (by decide) (hc1.2.2.pk (by omega) (by omega)) (by omega) (by omega) (by decide) ?_
    refine gB hC _ _ _ _ _ _ _ qX2_copyFrom_80 rfl ?_
    refine g_getr hC dX2_copyFrom_81 fX2_22 hmo.1.sH (by decide) rfl 8 rfl hm1.2.1.p8 ?_
    refine gB hC _ _ _ _ _ _ _ qX2_copyFrom_84 rfl ?_
    refine g_aald hC (j := 4) dX2_copyFrom_85 hmo.1.sK (by decide) (hm1.2.1.pk (by omega) (by omega)) (by omega) (by omega) (by decide) ?_
    refine g_cV0m hC dX2_copyFrom_86 mX2_86 vX3_copyFrom (kX3_copyFrom (hb.sk (by omega) (by omega)) (hb.sc (by omega) (by omega)) (hc1.2.2.pc (by omega) (by omega)) (hmo.1.sk (by omega) (by omega)) (hmo.1.sc (by omega) (by omega)) (hm1.2.1.pc (by omega) (by omega)) (by omega)) rfl (hb.sk (by omega) (by omega)) (by decide) rfl (Nat.le_of_ble_eq_true rfl) (RR rfl rfl rfl rfl) (fun z V86 e86 => ?_)
    refine gB hC _ _ _ _ _ _ _ qX2_copyFrom_89 rfl ?_
    have hcn : CPS h9 (rowL [N 0, V o9 1, N 1, N 2, N 7, N 6, N 3, N 4]) V V86 := CPS_up hc1 (fun a _ ha => by rw [e86, rwV_ne (by omega), rwV_ne (by omega)]) (by rw [e86, rwV_ne (by omega), rwV_ne (by omega)]) (fun c j hc => by unfold isPt at hc; rw [e86, rwV_far (by omega), rwV_far (by omega)])
    refine ih (V86, t + 1) _ ⟨hcn, fun k k0 k1 => ?_, by show ((t + 1 : Nat) : Int) ≤ N 1; omega⟩ (by show (N 1 - ((t + 1 : Nat) : Int)).toNat < (N 1 - t).toNat; omega)
    have k2 : k < ((t + 1 : Nat) : Int) := k1
    show kdR _ k N V86
    by_cases hkt : k = (t : Int)
    · subst hkt; exact kdR_cp (hm1.kd (by omega) (by omega)) (by omega) e86
    · have x := hk1 k k0 (by omega)
      unfold kdR at x ⊢
      rw [e86, rwV_ne (by omega), rwV_ne (by omega), rwV_ne (by omega), rwV_ne (by omega)]
      exact x

