/-! the law: a group asks (rows laid by wip/p47/l9.py) -/
theorem LI_gr {n k f d t g : Int} {N : gN0} (h : LI n N) (ho : 0 ≤ k ∧ k < N 1 ∧ 8822 ≤ f ∧ 1 ≤ d ∧ d ≤ 14 ∧ f + d ≤ 36525 ∧ 8822 ≤ t ∧ t ≤ 36524 ∧ -1 ≤ g ∧ g ≤ 9) (ht : N 0 ≤ f ∧ N 0 ≤ t ∧ t ≤ f) (hf : f ≤ 8829 + n) : ∀ m : Nat, N 5 + m ≤ 60 → LI n (grT N k f d t g m).1 := by
  intro m
  induction m with
  | zero => intro _; exact h
  | succ m ih =>
    intro hm
    have h1 := ih (by omega)
    obtain ⟨a1, a2, a3, a4, a5, a6⟩ := grT_inv (g := g) (till := t) h.1 ho m (by omega)
    have e1 := a4 1 (by decide) (Or.inl (by have := h.1.1.1; unfold iScal at this; omega))
    have e0 := a4 0 (by decide) (Or.inl (by have := h.1.1.1; unfold iScal at this; omega))
    unfold grT
    split
    · exact h1
    · rename_i hc
      split
      · rename_i hr
        have h5 := a2 (by omega)
        exact LI_mk h1 (by unfold mkOk; omega) (rfd_had hr (by omega) (by omega)).1 hf
      · exact h1
/-- stays beyond those that are told are forgotten -/
theorem LB_bw {q w m : Int} {N M : gN0} {Sh : gSh} {V V' : gV} (h60 : M 5 ≤ 60) (H : LB q w M Sh V) (e : V' = up V q 17 m) (hm : m = N 5) (h5 : N 5 ≤ M 5) (hN : ∀ j, j ≠ 5 → (j < 56 + 24 * N 5 ∨ 1496 ≤ j) → M j = N j) (h0 : 0 ≤ N 5) (h3M : ∀ s, 0 ≤ s → s < M 5 → 0 ≤ sF M s 3 ∧ sF M s 3 ≤ 14) (h3 : ∀ s, 0 ≤ s → s < N 5 → 0 ≤ sF N s 3 ∧ sF N s 3 ≤ 14) : LB q w N Sh V' := by
  have h1 := LB_fw h60 H e (by omega) (fun s s0 s1 => (h3M s s0 s1).1)
  have e5 : upN M 5 m 5 = m := upN_eq _ _ _
  refine LB_N (by omega) h1 (fun j j0 j1 j7 => ?_) (fun j hj => ?_) (fun s j s0 s1 j0 j1 => ?_) (fun s s0 s1 => ?_)
  · by_cases hj : j = 5
    · rw [hj, e5, hm]
    · rw [upN_ne hj]; exact (hN j hj (by omega)).symm
  · rw [upN_ne (by omega)]; exact (hN j (by omega) (by omega)).symm
  · have e3 : sF (upN M 5 m) s 3 = sF N s 3 := by show upN M 5 m _ = N _; rw [upN_ne (by omega)]; exact hN _ (by omega) (by omega)
    rw [e3] at j1
    have := h3 s s0 (by omega)
    show N _ = upN M 5 m _
    rw [upN_ne (by omega)]; exact (hN _ (by omega) (by omega)).symm
  · have e3 : sF (upN M 5 m) s 3 = sF N s 3 := by show upN M 5 m _ = N _; rw [upN_ne (by omega)]; exact hN _ (by omega) (by omega)
    rw [e3]; exact (h3 s s0 (by omega)).1
/-- one more group -/
theorem LB_gc {q w : Int} {N : gN0} {Sh : gSh} {V V' : gV} {x : Int} (hI : InvC N) (H : LB q w N Sh V) (e : V' = up V q 18 x) : LB q w (upN N 6 x) Sh V' := by
  have hsc := hI.1
  unfold iScal at hsc
  have hv := H.2.2.2.2.2.1
  refine LB_q (by omega) H e (by omega) ?_ (upN_ne (by decide)) (upN_ne (by decide)) (fun j hj => upN_ne (by omega)) (fun s s0 s1 => by have := (hI.2.2.2.1 s s0 s1).1; omega)
  unfold llV at hv ⊢
  rw [e, up_ne _ _ (Or.inr (by decide)), up_ne _ _ (Or.inr (by decide)), up_ne _ _ (Or.inr (by decide)), up_ne _ _ (Or.inr (by decide)), up_eq, up_ne _ _ (Or.inr (by decide)), upN_ne (by decide), upN_ne (by decide), upN_ne (by decide), upN_ne (by decide), upN_eq, upN_ne (by decide)]
  exact ⟨hv.1, hv.2.1, hv.2.2.1, hv.2.2.2.1, rfl, hv.2.2.2.2.2⟩

theorem kL_asksGroup {E l Sh V z} {q w n : Int} {N : gN0} {P9 : Int → gN0} {c9 : Int} (hLI : LI n N) (hn : 0 ≤ n ∧ n ≤ 40) (hx : XR (q + 2) N P9 c9 Sh V) (hL : LB q w N Sh V) (hW : LW q w N V) : gM E l yL_asksGroup (.code yL_asksGroup cL_asksGroup 10 (some .boolean)) (rmk 24 400 4000 900) [(2, q)] Sh V z (gAct q w (n + 1)) := by
  refine gM_at (L0 := [(2, q), (9, 0), (9, 0), (9, 0), (9, 0), (9, 0), (9, 0), (9, 0), (9, 0), (9, 0)]) rfl rfl rfl ?_
  intro p e s m args below meth c hC hr hex hnm hz
  have hI0 := hLI.1
  have hI := hI0.1
  have hsc := hI.1
  unfold iScal at hsc
  have hqw := hL.a0
  have hl1 := hLI.2.1
  have hgb := LI.gb hLI (by omega)
  refine gB hC _ _ _ _ _ _ _ qL_asksGroup_0 rfl ?_
  refine g_getiv hC dL_asksGroup_1 fL_163 hL.sL (by decide) rfl 18 rfl hL.v18 (fun i1 => ?_)
  refine gB hC _ _ _ _ _ _ _ qL_asksGroup_4 rfl ?_
  refine g_icmp_eq hC 18 dL_asksGroup_6 rfl (by first | omega | exact cmpZ_in _ _ | exact bI_in _) (by first | omega | exact cmpZ_in _ _ | exact bI_in _) (fun c6 => ?_) (fun c6 => ?_)
  · refine gB hC _ _ _ _ _ _ _ qL_asksGroup_18 rfl ?_
    refine g_zreturn hC dL_asksGroup_19 hr ?_ (gAct_mk (LI_mono hLI (by omega)) hx hL hW) gs_rfl ⟨Nat.le_of_ble_eq_true rfl, Nat.le_of_ble_eq_true rfl⟩
    exact Or.inr rfl
  · refine gB hC _ _ _ _ _ _ _ qL_asksGroup_9 rfl ?_
    refine g_getiv hC dL_asksGroup_10 fL_56 hL.sL (by decide) rfl 17 rfl hL.v17 (fun i10 => ?_)
    refine gB hC _ _ _ _ _ _ _ qL_asksGroup_13 rfl ?_
    refine g_icmp_lt hC 20 dL_asksGroup_15 rfl (by first | omega | exact cmpZ_in _ _ | exact bI_in _) (by first | omega | exact cmpZ_in _ _ | exact bI_in _) (fun c15 => ?_) (fun c15 => ?_)
    · refine gB hC _ _ _ _ _ _ _ qL_asksGroup_20 rfl ?_
      refine g_getr hC dL_asksGroup_21 fL_52 hL.sL (by decide) rfl 1 rfl hL.p1 ?_
      refine gB hC _ _ _ _ _ _ _ qL_asksGroup_24 rfl ?_
      refine g_dice hC dL_asksGroup_25 mL_147 vX12_next (kX12_next hL.sD (by omega) (by omega)) rfl hL.sD (by decide) rfl (Nat.le_of_ble_eq_true rfl) (RR rfl rfl rfl rfl) (fun zd25 y25 s25 V25 l25 u25 e25 => ?_)
      have hL25 := LB_dc (by omega) hL e25
      have hW25 := LW_dc (by omega) hL e25 hW
      have hx25 := XR_dc (w := w) hx hI0 e25
      refine gB hC _ _ _ _ _ _ _ qL_asksGroup_28 rfl ?_
      refine g_getr hC dL_asksGroup_31 fL_52 hL25.sL (by decide) rfl 1 rfl hL25.p1 ?_
      refine gB hC _ _ _ _ _ _ _ qL_asksGroup_34 rfl ?_
      refine g_dice hC dL_asksGroup_35 mL_147 vX12_next (kX12_next hL25.sD (by omega) (by omega)) rfl hL25.sD (by decide) rfl (Nat.le_of_ble_eq_true rfl) (RR rfl rfl rfl rfl) (fun zd35 y35 s35 V35 l35 u35 e35 => ?_)
      have hL35 := LB_dc (by omega) hL25 e35
      have hW35 := LW_dc (by omega) hL25 e35 hW25
      have hx35 := XR_dc (w := w) hx25 hI0 e35
      refine gB hC _ _ _ _ _ _ _ qL_asksGroup_38 rfl ?_
      refine g_getiv hC dL_asksGroup_41 fL_114 hL35.sL (by decide) rfl 4 rfl hL35.v4 (fun i41 => ?_)
      refine gB hC _ _ _ _ _ _ _ qL_asksGroup_44 rfl ?_
      refine g_getr hC dL_asksGroup_45 fL_52 hL35.sL (by decide) rfl 1 rfl hL35.p1 ?_
      refine gB hC _ _ _ _ _ _ _ qL_asksGroup_48 rfl ?_
      refine g_dice hC dL_asksGroup_50 mL_147 vX12_next (kX12_next hL35.sD (by omega) (by omega)) rfl hL35.sD (by decide) rfl (Nat.le_of_ble_eq_true rfl) (RR rfl rfl rfl rfl) (fun zd50 y50 s50 V50 l50 u50 e50 => ?_)
      have hL50 := LB_dc (by omega) hL35 e50
      have hW50 := LW_dc (by omega) hL35 e50 hW35
      have hx50 := XR_dc (w := w) hx35 hI0 e50
      refine gB hC _ _ _ _ _ _ _ qL_asksGroup_53 rfl ?_
      refine g_getr hC dL_asksGroup_57 fL_52 hL50.sL (by decide) rfl 1 rfl hL50.p1 ?_
      refine gB hC _ _ _ _ _ _ _ qL_asksGroup_60 rfl ?_
      refine g_dice hC dL_asksGroup_61 mL_147 vX12_next (kX12_next hL50.sD (by omega) (by omega)) rfl hL50.sD (by decide) rfl (Nat.le_of_ble_eq_true rfl) (RR rfl rfl rfl rfl) (fun zd61 y61 s61 V61 l61 u61 e61 => ?_)
      have hL61 := LB_dc (by omega) hL50 e61
      have hW61 := LW_dc (by omega) hL50 e61 hW50
      have hx61 := XR_dc (w := w) hx50 hI0 e61
      refine gB hC _ _ _ _ _ _ _ qL_asksGroup_64 rfl ?_
      refine g_getiv hC dL_asksGroup_68 fL_56 hL61.sL (by decide) rfl 17 rfl hL61.v17 (fun i68 => ?_)
      refine gB hC _ _ _ _ _ _ _ qL_asksGroup_71 rfl ?_
      refine g_getr hC dL_asksGroup_74 fL_10 hL61.sL (by decide) rfl 0 rfl hL61.p0 ?_
      refine gB hC _ _ _ _ _ _ _ qL_asksGroup_77 rfl ?_
      refine g_getr hC dL_asksGroup_80 fL_16 hL61.sL (by decide) rfl 2 rfl hL61.p2 ?_
      refine gB hC _ _ _ _ _ _ _ qL_asksGroup_83 rfl ?_
      refine g_iald hC dL_asksGroup_84 hL61.sdt (hL61.dt (by omega) (by omega)) (by omega) (by omega) (by decide) (fun i84 => ?_)
      refine gB hC _ _ _ _ _ _ _ qL_asksGroup_85 rfl ?_
      refine g_getr hC dL_asksGroup_88 fL_16 hL61.sL (by decide) rfl 2 rfl hL61.p2 ?_
      refine gB hC _ _ _ _ _ _ _ qL_asksGroup_91 rfl ?_
      refine g_iald hC dL_asksGroup_92 hL61.sdt (hL61.dt (by omega) (by omega)) (by omega) (by omega) (by decide) (fun i92 => ?_)
      refine g_cV1e hC dL_asksGroup_93 mL_166 vX11_group (xgroup hx61 hI0 (by omega) (by omega) (by omega) (by omega) (by omega) (by omega)) rfl hL61.sX (by decide) rfl (Nat.le_of_ble_eq_true rfl) (RSL rfl rfl (by dsimp only [rmk]; omega) (by dsimp only [rmk]; omega)) (fun z V93 e93 => ?_)
      have hx93 := e93.1
      have hL93 := LB_x (by omega) hL61 e93.2
      have hW93 := LW_x (by omega) hL61 e93.2 hW61
      obtain ⟨got, hgot⟩ : ∃ g, g = (if (grT N y25 (8822 + (N 0 - 8822 + y50)) (1 + y61) (8822 + (N 0 - 8822 + y50)) (N 6) (1 + y35).toNat).2 = -1 then N 6 else -1) := ⟨_, rfl⟩
      rw [← hgot]
      obtain ⟨M2, hM2⟩ : ∃ M2, M2 = (if (grT N y25 (8822 + (N 0 - 8822 + y50)) (1 + y61) (8822 + (N 0 - 8822 + y50)) (N 6) (1 + y35).toNat).2 = -1 then upN (grT N y25 (8822 + (N 0 - 8822 + y50)) (1 + y61) (8822 + (N 0 - 8822 + y50)) (N 6) (1 + y35).toNat).1 6 (N 6 + 1) else upN N 8 (dateZ (grT N y25 (8822 + (N 0 - 8822 + y50)) (1 + y61) (8822 + (N 0 - 8822 + y50)) (N 6) (1 + y35).toNat).2)) := ⟨_, rfl⟩
      rw [← hM2] at hx93
      have hgz := grT_inv (g := N 6) (till := 8822 + (N 0 - 8822 + y50)) hI0 (by omega) (1 + y35).toNat (k := y25) (first := 8822 + (N 0 - 8822 + y50)) (nights := 1 + y61) (by omega)
      have hI2 : INV M2 := by
        rw [hM2]; split
        · exact gc_inv hgz.1 (by omega)
        · exact rn_inv hI0 _
      have hgotb : -1 ≤ got ∧ got ≤ 10 := by rw [hgot]; split <;> omega
      refine gB hC _ _ _ _ _ _ _ qL_asksGroup_96 rfl ?_
      refine g_kn9 (k1 := 60 + 0) (n1 := 600 + 10 * 0) (by dsimp only [rmk]; omega) (by dsimp only [rmk]; omega) ?_
      refine g_loopB (fun x : gV × Nat × aV × aV => LB q w (grT N y25 (8822 + (N 0 - 8822 + y50)) (1 + y61) (8822 + (N 0 - 8822 + y50)) (N 6) x.2.1).1 Sh x.1 ∧ LW q w (grT N y25 (8822 + (N 0 - 8822 + y50)) (1 + y61) (8822 + (N 0 - 8822 + y50)) (N 6) x.2.1).1 x.1 ∧ XR (q + 2) M2 (kpP P9 c9 N) (min (c9 + 1) 6) Sh x.1 ∧ (grT N y25 (8822 + (N 0 - 8822 + y50)) (1 + y61) (8822 + (N 0 - 8822 + y50)) (N 6) x.2.1).2 = -1 ∧ (x.2.1 : Int) ≤ 1 + y35) (fun x => (1 + y35 - (x.2.1 : Int)).toNat) 101 (fun x => [(2, q), (0, y25), (0, 1 + y35), (0, (N 0 - 8822 + y50)), (0, 1 + y61), (0, N 5), (0, got), (0, (x.2.1 : Int)), x.2.2.1, x.2.2.2]) (fun x => x.1) (fun x => 60 + x.2.1) (fun x => 600 + 10 * x.2.1) (V93, 0, (9, 0), (9, 0)) ⟨hL93, hW93, hx93, rfl, by show (0 : Int) ≤ 1 + y35; omega⟩ ?_
      rintro ⟨V1, i, a8, a9⟩ z ⟨hL1, hW1, hx1, hgm, hi⟩ ih
      dsimp only at hL1 hW1 hx1 hgm hi ih ⊢
      have hgi := grT_inv (g := N 6) (till := 8822 + (N 0 - 8822 + y50)) hI0 (by omega) i (k := y25) (first := 8822 + (N 0 - 8822 + y50)) (nights := 1 + y61) (by omega)
      obtain ⟨gi1, gi2, gi3, gi4, gi5, gi6⟩ := hgi
      have hLIi := LI_gr (g := N 6) (t := 8822 + (N 0 - 8822 + y50)) (k := y25) (f := 8822 + (N 0 - 8822 + y50)) (d := 1 + y61) hLI (by omega) (by omega) (by omega) i (by omega)
      have hG5 := gi2 hgm
      have e6 : (grT N y25 (8822 + (N 0 - 8822 + y50)) (1 + y61) (8822 + (N 0 - 8822 + y50)) (N 6) i).1 6 = N 6 := gi4 6 (by decide) (Or.inl (by omega))
      have e2g : (grT N y25 (8822 + (N 0 - 8822 + y50)) (1 + y61) (8822 + (N 0 - 8822 + y50)) (N 6) i).1 2 = N 2 := gi4 2 (by decide) (Or.inl (by omega))
      have e1g : (grT N y25 (8822 + (N 0 - 8822 + y50)) (1 + y61) (8822 + (N 0 - 8822 + y50)) (N 6) i).1 1 = N 1 := gi4 1 (by decide) (Or.inl (by omega))
      have hIic := gi1.1
      have hsi := hIic.1
      unfold iScal at hsi
      refine gB hC _ _ _ _ _ _ _ qL_asksGroup_101 rfl ?_
      refine g_icmp_ge hC 177 dL_asksGroup_104 rfl (by first | omega | exact cmpZ_in _ _ | exact bI_in _) (by first | omega | exact cmpZ_in _ _ | exact bI_in _) (fun c104 => ?_) (fun c104 => ?_)
      · obtain rfl : i = (1 + y35).toNat := by omega
        refine gB hC _ _ _ _ _ _ _ qL_asksGroup_177 rfl ?_
        refine g_getiv hC dL_asksGroup_179 fL_163 hL1.sL (by decide) rfl 18 rfl hL1.v18 (fun i179 => ?_)
        refine gB hC _ _ _ _ _ _ _ qL_asksGroup_182 rfl ?_
        refine g_puti hC dL_asksGroup_184 fL_163 hL1.sL (by decide) rfl (fun _ h => by cases h; rfl) 18 rfl (by first | omega | exact cmpZ_in _ _ | exact bI_in _) (fun V184 e184 => ?_)
        have hL184 : LB q w (upN (grT N y25 (8822 + (N 0 - 8822 + y50)) (1 + y61) (8822 + (N 0 - 8822 + y50)) (N 6) (1 + y35).toNat).1 6 (N 6 + 1)) Sh V184 := LB_gc hIic hL1 (by rw [e184, e6])
        have hW184 : LW q w (upN (grT N y25 (8822 + (N 0 - 8822 + y50)) (1 + y61) (8822 + (N 0 - 8822 + y50)) (N 6) (1 + y35).toNat).1 6 (N 6 + 1)) V184 := LW_q (by omega) hL1 e184 (by decide) (upN_ne (by decide)) (fun j _ _ => upN_ne (by omega)) hW1
        have hx184 := XR_r (w := w) hx1 hI2 hL1 e184 (Or.inl rfl)
        have hIf : INV (upN (grT N y25 (8822 + (N 0 - 8822 + y50)) (1 + y61) (8822 + (N 0 - 8822 + y50)) (N 6) (1 + y35).toNat).1 6 (N 6 + 1)) := gc_inv gi1 (by omega)
        have hLIf : LI n (upN (grT N y25 (8822 + (N 0 - 8822 + y50)) (1 + y61) (8822 + (N 0 - 8822 + y50)) (N 6) (1 + y35).toNat).1 6 (N 6 + 1)) := LI_up hLIi hIf (by omega)
        rw [if_pos hgm] at hgot hM2
        rw [hM2] at hx184
        have e6f : (upN (grT N y25 (8822 + (N 0 - 8822 + y50)) (1 + y61) (8822 + (N 0 - 8822 + y50)) (N 6) (1 + y35).toNat).1 6 (N 6 + 1)) 6 = N 6 + 1 := upN_eq _ _ _
        refine gB hC _ _ _ _ _ _ _ qL_asksGroup_187 rfl ?_
        refine g_getiv hC dL_asksGroup_190 fL_163 hL184.sL (by decide) rfl 18 rfl (hL184.v18.trans e6f) (fun i190 => ?_)
        refine gB hC _ _ _ _ _ _ _ qL_asksGroup_193 rfl ?_
        refine g_icmp_ne hC 202 dL_asksGroup_195 rfl (by first | omega | exact cmpZ_in _ _ | exact bI_in _) (by first | omega | exact cmpZ_in _ _ | exact bI_in _) (fun c195 => ?_) (fun c195 => ?_)
        · exact absurd (by omega) c195 --stop
        · refine gB hC _ _ _ _ _ _ _ qL_asksGroup_198 rfl ?_
          refine g_zreturn hC dL_asksGroup_203 hr ?_ (gAct_mk (LI_mono hLIf (by omega)) hx184 hL184 hW184) gs_rfl ⟨(by dsimp only [rmk]; omega), (by dsimp only [rmk]; omega)⟩
          exact Or.inr rfl
      · refine gB hC _ _ _ _ _ _ _ qL_asksGroup_107 rfl ?_
        refine g_cV1i hC dL_asksGroup_112 mL_117 vL_refusing (kL_refusing hL1 hIic (by omega) (by omega) (by omega) (by omega) (by omega) (by omega)) rfl hL1.sL (by decide) rfl (Nat.le_of_ble_eq_true rfl) (RSL rfl rfl (by dsimp only [rmk]; omega) (by dsimp only [rmk]; omega)) (fun z i112 => ?_)
        refine gB hC _ _ _ _ _ _ _ qL_asksGroup_115 rfl ?_
        refine g_if_ge hC 142 dL_asksGroup_119 rfl (by first | omega | exact cmpZ_in _ _ | exact bI_in _) (fun c119 => ?_) (fun c119 => ?_)
        · have hr9 := m88_ge (by omega : ¬ m88 (rfd (grT N y25 (8822 + (N 0 - 8822 + y50)) (1 + y61) (8822 + (N 0 - 8822 + y50)) (N 6) i).1 y25 (8822 + (N 0 - 8822 + y50)) (1 + y61)) < 0)
          have hu9 := rfd_up (by omega) (by omega) hr9.1
          refine gB hC _ _ _ _ _ _ _ qL_asksGroup_142 rfl ?_
          refine g_puti hC dL_asksGroup_145 fL_56 hL1.sL (by decide) rfl (fun _ h => by cases h; rfl) 17 rfl (by first | omega | exact cmpZ_in _ _ | exact bI_in _) (fun V145 e145 => ?_)
          have hL145 : LB q w N Sh V145 := LB_bw (by omega) hL1 e145 rfl gi3 gi4 (by omega) (fun s s0 s1 => by have := (hIic.2.2.2.1 s s0 s1).1; omega) (fun s s0 s1 => by have := (hI.2.2.2.1 s s0 s1).1; omega)
          have hW145 : LW q w N V145 := LW_q (by omega) hL1 e145 (by decide) (gi4 7 (by decide) (by omega)).symm (fun j j0 j1 => (gi4 j (by omega) (by omega)).symm) hW1
          have hx145 := XR_r (w := w) hx1 hI2 hL1 e145 (Or.inl rfl)
          refine gB hC _ _ _ _ _ _ _ qL_asksGroup_148 rfl ?_
          refine g_getr hC dL_asksGroup_150 fL_16 hL145.sL (by decide) rfl 2 rfl hL145.p2 ?_
          refine gB hC _ _ _ _ _ _ _ qL_asksGroup_153 rfl ?_
          refine g_iald hC dL_asksGroup_155 hL145.sdt (hL145.dt (by omega) (by omega)) (by omega) (by omega) (by decide) (fun i155 => ?_)
          refine g_puti hC dL_asksGroup_156 fL_139 hL145.sL (by decide) rfl (fun _ h => by cases h; rfl) 22 rfl (by first | omega | exact cmpZ_in _ _ | exact bI_in _) (fun V156 e156 => ?_)
          have hL156 := LB_rf hI hL145 e156 (show _ = dateZ (rfd (grT N y25 (8822 + (N 0 - 8822 + y50)) (1 + y61) (8822 + (N 0 - 8822 + y50)) (N 6) i).1 y25 (8822 + (N 0 - 8822 + y50)) (1 + y61)) by rw [show 8822 + m88 (rfd (grT N y25 (8822 + (N 0 - 8822 + y50)) (1 + y61) (8822 + (N 0 - 8822 + y50)) (N 6) i).1 y25 (8822 + (N 0 - 8822 + y50)) (1 + y61)) = rfd (grT N y25 (8822 + (N 0 - 8822 + y50)) (1 + y61) (8822 + (N 0 - 8822 + y50)) (N 6) i).1 y25 (8822 + (N 0 - 8822 + y50)) (1 + y61) by omega])
          have hx156 := XR_r (w := w) hx145 hI2 hL145 e156 (Or.inl rfl)
          have hW156 : LW q w (upN N 8 (dateZ (rfd (grT N y25 (8822 + (N 0 - 8822 + y50)) (1 + y61) (8822 + (N 0 - 8822 + y50)) (N 6) i).1 y25 (8822 + (N 0 - 8822 + y50)) (1 + y61)))) V156 := LW_q (by omega) hL145 e156 (by decide) (upN_ne (by decide)) (fun j _ _ => upN_ne (by omega)) hW145
          have hq9 : (grT N y25 (8822 + (N 0 - 8822 + y50)) (1 + y61) (8822 + (N 0 - 8822 + y50)) (N 6) (i + 1)) = ((grT N y25 (8822 + (N 0 - 8822 + y50)) (1 + y61) (8822 + (N 0 - 8822 + y50)) (N 6) i).1, rfd (grT N y25 (8822 + (N 0 - 8822 + y50)) (1 + y61) (8822 + (N 0 - 8822 + y50)) (N 6) i).1 y25 (8822 + (N 0 - 8822 + y50)) (1 + y61)) := by rw [grT, if_neg (by omega), if_neg hr9.1]
          have hq8 : (grT N y25 (8822 + (N 0 - 8822 + y50)) (1 + y61) (8822 + (N 0 - 8822 + y50)) (N 6) (1 + y35).toNat) = (grT N y25 (8822 + (N 0 - 8822 + y50)) (1 + y61) (8822 + (N 0 - 8822 + y50)) (N 6) (i + 1)) := by
            have h7 := grT_stay (i := i + 1) (N := N) (k := y25) (first := 8822 + (N 0 - 8822 + y50)) (nights := 1 + y61) (till := 8822 + (N 0 - 8822 + y50)) (g := N 6) (by rw [hq9]; exact hr9.1) ((1 + y35).toNat - (i + 1))
            rwa [show i + 1 + ((1 + y35).toNat - (i + 1)) = (1 + y35).toNat by omega] at h7
          rw [hq8, hq9] at hgot hM2
          rw [if_neg hr9.1] at hgot hM2
          rw [hM2] at hx156
          refine gB hC _ _ _ _ _ _ _ qL_asksGroup_159 rfl ?_
          refine g_icmp_ne hC 169 dL_asksGroup_162 rfl (by first | omega | exact cmpZ_in _ _ | exact bI_in _) (by first | omega | exact cmpZ_in _ _ | exact bI_in _) (fun c162 => ?_) (fun c162 => ?_)
          · exact absurd hgot c162 --stop
          · refine gB hC _ _ _ _ _ _ _ qL_asksGroup_165 rfl ?_
            refine g_zreturn hC dL_asksGroup_170 hr ?_ (gAct_mk (LI_mono (LI_up hLI (rn_inv hI0 _) (by omega)) (by omega)) hx156 hL156 hW156) gs_rfl ⟨(by dsimp only [rmk]; omega), (by dsimp only [rmk]; omega)⟩
            exact Or.inr rfl
        · have hr112 := m88_lt (N := (grT N y25 (8822 + (N 0 - 8822 + y50)) (1 + y61) (8822 + (N 0 - 8822 + y50)) (N 6) i).1) (k := y25) (n := 1 + y61) (f := 8822 + (N 0 - 8822 + y50)) (by omega) (by omega)
          refine gB hC _ _ _ _ _ _ _ qL_asksGroup_122 rfl ?_
          refine g_getiv hC dL_asksGroup_131 fL_163 hL1.sL (by decide) rfl 18 rfl hL1.v18 (fun i131 => ?_)
          refine g_cV1e hC dL_asksGroup_134 mL_120 vL_makes (kL_makes hL1 hIic (by omega) (by omega) (by omega) (by omega) (by omega) (by omega) (by omega) (by omega) (by omega) (by omega) (by omega) (by omega)) rfl hL1.sL (by decide) rfl (Nat.le_of_ble_eq_true rfl) (RSL rfl rfl (by dsimp only [rmk]; omega) (by dsimp only [rmk]; omega)) (fun z V134 e134 => ?_)
          have hx134 := XR_q hx1 hI2 hL1 e134.2.1
          have hB134 := e134.1
          have hW134 : LW q w (mkN (grT N y25 (8822 + (N 0 - 8822 + y50)) (1 + y61) (8822 + (N 0 - 8822 + y50)) (N 6) i).1 y25 (8822 + (N 0 - 8822 + y50)) (1 + y61) 1 0 (8822 + (N 0 - 8822 + y50)) ((grT N y25 (8822 + (N 0 - 8822 + y50)) (1 + y61) (8822 + (N 0 - 8822 + y50)) (N 6) i).1 6)) V134 := LW_ag (mkN_old (by omega) (by omega) (by omega) (by decide) (by omega)) (by omega) (fun j j0 j1 => mkN_old (by omega) (by omega) (by omega) (by omega) (by omega)) hL1.2.2.2.2.1 e134.2.2.2 (e134.2.2.1 _ _ hL1.sgO (Int.le_refl _)) (fun p hp => e134.2.2.1 p _ hp.1 (by rcases hp.2 with h | h <;> omega)) hW1
          refine gB hC _ _ _ _ _ _ _ qL_asksGroup_137 rfl ?_
          refine gB hC _ _ _ _ _ _ _ qL_asksGroup_171 rfl ?_
          have hq9 : (grT N y25 (8822 + (N 0 - 8822 + y50)) (1 + y61) (8822 + (N 0 - 8822 + y50)) (N 6) (i + 1)) = (mkN (grT N y25 (8822 + (N 0 - 8822 + y50)) (1 + y61) (8822 + (N 0 - 8822 + y50)) (N 6) i).1 y25 (8822 + (N 0 - 8822 + y50)) (1 + y61) 1 0 (8822 + (N 0 - 8822 + y50)) (N 6), -1) := by rw [grT, if_neg (by omega), if_pos hr112]
          rw [e6] at hB134 hW134
          refine g_kn9 (k1 := 60 + (i + 1)) (n1 := 600 + 10 * (i + 1)) (by dsimp only [rmk]; omega) (by dsimp only [rmk]; omega) ?_
          refine ih (V134, i + 1, _, _) _ ⟨by rw [hq9]; exact hB134, by rw [hq9]; exact hW134, hx134, by rw [hq9], by show ((i + 1 : Nat) : Int) ≤ 1 + y35; omega⟩ (by show (1 + y35 - ((i + 1 : Nat) : Int)).toNat < (1 + y35 - (i : Int)).toNat; omega)
    · refine gB hC _ _ _ _ _ _ _ qL_asksGroup_18 rfl ?_
      refine g_zreturn hC dL_asksGroup_19 hr ?_ (gAct_mk (LI_mono hLI (by omega)) hx hL hW) gs_rfl ⟨Nat.le_of_ble_eq_true rfl, Nat.le_of_ble_eq_true rfl⟩
      exact Or.inr rfl
