/-! the law: a stay made (rows laid by wip/p47/l2.py) -/
/-- what the law doesn't write -/
def OUQ (q w : Int) (V V' : gV) : Prop := ∀ a, q < a → a < w → V' a = V a
theorem OUQ.tr {q w : Int} {V V1 V2 : gV} (h1 : OUQ q w V V1) (h2 : OUQ q w V1 V2) : OUQ q w V V2 := fun a a0 a1 => (h2 a a0 a1).trans (h1 a a0 a1)
theorem OUQ.rfl' (q w : Int) (V : gV) : OUQ q w V V := fun _ _ _ => rfl
/-- a row that isn't told: of a stay that there isn't -/
theorem LB_fr {q w r s : Int} {N : gN0} {Sh : gSh} {V V' : gV} (h60 : N 5 ≤ 60) (H : LB q w N Sh V) (e : ∀ a, a ≠ r → V' a = V a) (hr : r = w + 9 + s ∨ r = w + 70 + s) (h0 : N 5 ≤ s) (h00 : 0 ≤ s) (h1 : s < 60) : LB q w N Sh V' := by
  have hqw := H.a0
  refine LB_r H e (by omega) (by omega) (by omega) (by omega) (by omega) (by omega) (by omega) H.2.2.2.2.2.1 ⟨rfl, fun _ _ _ => rfl⟩ (llK_ag (fun _ _ => rfl) (fun a h1 h2 _ => e a (by omega)) H.2.2.2.2.2.2.2.1) (llB_ag (fun _ _ _ => rfl) (e _ (by omega)) H.2.2.2.2.2.2.2.2.1) ?_
  intro t t0 t1
  obtain ⟨b1, b2⟩ := H.2.2.2.2.2.2.2.2.2 t t0 t1
  exact ⟨by unfold stL at *; rw [e _ (by omega)]; exact b1, fun m m0 m1 => by rw [e _ (by omega)]; exact b2 m m0 m1⟩
/-- one stay more -/
theorem LB_mk {q w : Int} {N : gN0} {Sh : gSh} {V V' : gV} {k f n a c g t : Int} (hI : InvC N) (h60 : N 5 < 60) (H : LB q w N Sh V) (hn : 0 ≤ n ∧ n ≤ 14) (e : V' = up V q 17 (N 5 + 1)) (hs : V (w + 9 + N 5) 0 = 0 ∧ V (w + 9 + N 5) 1 = k ∧ V (w + 9 + N 5) 2 = f ∧ V (w + 9 + N 5) 3 = n ∧ V (w + 9 + N 5) 4 = a ∧ V (w + 9 + N 5) 5 = c ∧ V (w + 9 + N 5) 6 = 0 ∧ V (w + 9 + N 5) 7 = a * N 4 + c * ((N 4 + 1) / 2) ∧ V (w + 9 + N 5) 8 = g ∧ V (w + 9 + N 5) 9 = t)
    (hp : ∀ i, 0 ≤ i → i < n → V (w + 70 + N 5) i = nPr N k (8822 + f + i)) : LB q w (mkN N k (8822 + f) n a c (8822 + t) g) Sh V' := by
  have hqw := H.a0
  have hsc := hI.1
  unfold iScal at hsc
  have ho : ∀ j, j ≠ 5 → (j < 56 + 24 * N 5 ∨ 1496 ≤ j) → mkN N k (8822 + f) n a c (8822 + t) g j = N j := fun j h1 h2 => mkN_old (by omega) (by omega) hn.2 h1 h2
  have h5 := mkN_5 N k (8822 + f) n a c (8822 + t) g
  have eo : ∀ a, a ≠ q → V' a = V a := fun a ha => by rw [e]; exact up_row _ _ _ ha
  have en : ∀ j, j ≠ 17 → V' q j = V q j := fun j hj => by rw [e]; exact up_ne _ _ (Or.inr hj)
  obtain ⟨a1, a2, a3, a4, a5, a6, a7, a8, a9, a10⟩ := H
  refine ⟨a1, a2, llP_ag ⟨en _ (by omega), en _ (by omega), en _ (by omega), en _ (by omega), en _ (by omega), en _ (by omega), en _ (by omega), en _ (by omega), en _ (by omega), en _ (by omega), en _ (by omega), en _ (by omega)⟩ (eo _ (by omega)) (eo _ (by omega)) (eo _ (by omega)) a3, llD_ag (eo _ (by omega)) (eo _ (by omega)) a4, llG_ag (eo _ (by omega)) (fun _ _ h => h) a5, ?_, llE_ag (ho 2 (by decide) (by omega)) (fun j h h' => ho j (by omega) (by omega)) (fun j h1 h2 => en j (by omega)) a7, llK_ag (fun j h => ho j (by omega) (by omega)) (fun a h1 h2 _ => eo a (by omega)) a8, llB_ag (fun j h h' => ho j (by omega) (by omega)) (eo _ (by omega)) a9, ?_⟩
  · obtain ⟨v0, v1, v2, v3, v4, v5⟩ := a6
    refine ⟨?_, ?_, ?_, by rw [e, up_eq, h5], ?_, ?_⟩
    · rw [en 4 (by decide), ho 0 (by decide) (by omega)]; exact v0
    · rw [en 9 (by decide), ho 3 (by decide) (by omega)]; exact v1
    · rw [en 10 (by decide), ho 4 (by decide) (by omega)]; exact v2
    · rw [en 18 (by decide), ho 6 (by decide) (by omega)]; exact v4
    · rw [en 22 (by decide), ho 8 (by decide) (by omega)]; exact v5
  · intro s s0 s1
    rw [h5] at s1
    by_cases hs5 : s = N 5
    · subst hs5
      obtain ⟨m0, m1, m2, m3, m4, m5, m6, m7, m8, m9, m10⟩ := mkN_f (N := N) (k := k) (first := 8822 + f) (nights := n) (adults := a) (children := c) (till := 8822 + t) (group := g) (by omega)
      obtain ⟨q0, q1, q2, q3, q4, q5, q6, q7, q8, q9⟩ := hs
      refine ⟨⟨?_, ?_, ?_, ?_, ?_, ?_, ?_, ?_, ?_, ?_⟩, fun i i0 i1 => ?_⟩
      · rw [eo _ (by omega), q0, m0]
      · rw [eo _ (by omega), q1, m1]
      · rw [eo _ (by omega), q2, m2]; omega
      · rw [eo _ (by omega), q3, m3]
      · rw [eo _ (by omega), q4, m4]
      · rw [eo _ (by omega), q5, m5]
      · rw [eo _ (by omega), q6, m6]
      · rw [eo _ (by omega), q7]; unfold pNt; rw [m4, m5, m7]
      · rw [eo _ (by omega), q8, m8]
      · rw [eo _ (by omega), q9, m9]; omega
      · rw [m3] at i1
        rw [eo _ (by omega), hp i i0 i1, m10 i i0 i1]
    · obtain ⟨b1, b2⟩ := a10 s s0 (by omega)
      have hso := (hI.2.2.2.1 s s0 (by omega)).1
      have ef : ∀ j, 0 ≤ j → j < 24 → sF (mkN N k (8822 + f) n a c (8822 + t) g) s j = sF N s j := fun j j0 j1 => ho _ (by omega) (by omega)
      refine ⟨stL_ag (fun j j0 j1 => ef j j0 (by omega)) (fun j _ _ => by rw [eo _ (by omega)]) b1, fun i i0 i1 => ?_⟩
      rw [ef 3 (by decide) (by decide)] at i1
      rw [eo _ (by omega), b2 i i0 i1, ef _ (by omega) (by omega)]
/-- a law's own number is written that LB doesn't tell -/
theorem LB_in {q w : Int} {N : gN0} {Sh : gSh} {V V' : gV} (h60 : N 5 ≤ 60) (H : LB q w N Sh V) (hs : ∀ a sh, Sh a = some sh → Sh a = some sh) (hV : ∀ a, a = q ∨ (w ≤ a ∧ a < w + 152) → V' a = V a) : LB q w N Sh V' := by
  obtain ⟨a1, a2, a3, a4, a5, a6, a7, a8, a9, a10⟩ := H
  have eq' : V' q = V q := hV q (Or.inl rfl)
  refine ⟨a1, a2, llP_ag (by rw [eq']; exact ⟨rfl, rfl, rfl, rfl, rfl, rfl, rfl, rfl, rfl, rfl, rfl, rfl⟩) (hV _ (by omega)) (hV _ (by omega)) (hV _ (by omega)) a3, llD_ag (hV _ (by omega)) (hV _ (by omega)) a4, llG_ag (hV _ (by omega)) (fun _ _ h => h) a5, by unfold llV at *; rw [eq']; exact a6, by unfold llE at *; rw [eq']; exact a7, llK_ag (fun _ _ => rfl) (fun a h1 h2 _ => hV a (by omega)) a8, llB_ag (fun _ _ _ => rfl) (hV _ (by omega)) a9, fun s s0 s1 => ?_⟩
  obtain ⟨b1, b2⟩ := a10 s s0 s1
  exact ⟨by unfold stL at *; rw [hV _ (by omega)]; exact b1, fun n n0 n1 => by rw [hV _ (by omega)]; exact b2 n n0 n1⟩

theorem kL_makes {E l Sh V z} {q w : Int} {N : gN0} {k0 f0 n0 ad ch t0 g0 : Int} (hL : LB q w N Sh V) (hI : InvC N) (h9 : N 2 ≤ 1) (h60 : N 5 < 60) (h0 : 0 ≤ k0) (h1 : k0 < 2) (h2 : 0 ≤ f0) (h3 : 1 ≤ n0) (h3b : n0 ≤ 14) (h4 : f0 + n0 ≤ 100) (h5 : 1 ≤ ad ∧ ad ≤ 4) (h6 : 0 ≤ ch ∧ ch ≤ 4) (h7 : inI t0) (h8 : inI g0) : gM E l yL_makes (.code yL_makes cL_makes 11 (some .int)) (rmk 4 1 10 130) [(2, q), (0, k0), (0, f0), (0, n0), (0, ad), (0, ch), (0, t0), (0, g0)] Sh V z (gRe (some (0, N 5)) (fun V' => LB q w (mkN N k0 (8822 + f0) n0 ad ch (8822 + t0) g0) Sh V' ∧ OUQ q w V V' ∧ (∀ a sh, Sh a = some sh → w + 130 ≤ a → V' a = V a) ∧ V' q 20 = V q 20) Sh) := by
  refine gM_at (L0 := [(2, q), (0, k0), (0, f0), (0, n0), (0, ad), (0, ch), (0, t0), (0, g0), (9, 0), (9, 0), (9, 0)]) rfl rfl rfl ?_
  intro p e s m args below meth c hC hr hex hnm hz
  have hsc := hI.1
  unfold iScal at hsc
  have hqw := hL.a0
  have hti := mul_in (a := ad) (b := N 4) (A := 4) (B := 1000) (by omega) (by omega) (by omega) (by omega)
  have hci := mul_in (a := ch) (b := (N 4 + 1) / 2) (A := 4) (B := 500) (by omega) (by omega) (by omega) (by omega)
  refine gB hC _ _ _ _ _ _ _ qL_makes_0 rfl ?_
  refine g_getiv hC dL_makes_1 fL_56 hL.sL (by decide) rfl 17 rfl hL.v17 (fun i1 => ?_)
  refine gB hC _ _ _ _ _ _ _ qL_makes_4 rfl ?_
  refine g_loop (fun x : gV × Int => LB q w N Sh x.1 ∧ (∀ a, a ≠ w + 70 + N 5 → x.1 a = V a) ∧ (∀ i, 0 ≤ i → i < x.2 → x.1 (w + 70 + N 5) i = nPr N k0 (8822 + f0 + i)) ∧ 0 ≤ x.2 ∧ x.2 ≤ n0) (fun x => (n0 - x.2).toNat) 9 (fun x => [(2, q), (0, k0), (0, f0), (0, n0), (0, ad), (0, ch), (0, t0), (0, g0), (0, N 5), (0, x.2), (9, 0)]) (fun x => x.1) (V, 0) ⟨hL, fun _ _ => rfl, fun i i0 i1 => absurd i1 (by show ¬ i < 0; omega), Int.le_refl _, by show (0 : Int) ≤ n0; omega⟩ ?_
  rintro ⟨V1, n⟩ z ⟨hL1, ho1, hp1, hn0, hn1⟩ ih
  dsimp only at hL1 ho1 hp1 hn0 hn1 ih ⊢
  refine gB hC _ _ _ _ _ _ _ qL_makes_9 rfl ?_
  refine g_icmp_ge hC 40 dL_makes_12 rfl (by first | omega | exact cmpZ_in _ _ | exact bI_in _) (by first | omega | exact cmpZ_in _ _ | exact bI_in _) (fun c12 => ?_) (fun c12 => ?_)
  · refine gB hC _ _ _ _ _ _ _ qL_makes_40 rfl ?_
    refine g_getiv hC dL_makes_43 fL_102 hL1.sL (by decide) rfl 10 rfl hL1.v10 (fun i43 => ?_)
    refine gB hC _ _ _ _ _ _ _ qL_makes_46 rfl ?_
    refine g_getiv hC dL_makes_50 fL_102 hL1.sL (by decide) rfl 10 rfl hL1.v10 (fun i50 => ?_)
    refine gB hC _ _ _ _ _ _ _ qL_makes_53 rfl ?_
    refine g_idiv hC dL_makes_56 (by first | omega | exact cmpZ_in _ _ | exact bI_in _) (by first | omega | exact cmpZ_in _ _ | exact bI_in _) (by omega) (by omega) ?_
    refine gB hC _ _ _ _ _ _ _ qL_makes_57 rfl ?_
    refine g_lts (fun hlt => ?_)
    refine g_new_ints hC dL_makes_63 gArr_int rfl (by decide) ⟨by decide, by decide⟩ (fun hz63 => ?_)
    have hlw := (hlt _ _ hL1.sbk).2
    have hLn : LB q w N (shp Sh z (100, 10)) (vnew V1 z (fun _ => 0)) := LB_to (by omega) (fun a sh ha => (shp_ne _ _ (fun h => by have := (hlt a sh ha).2; omega)).trans ha) (fun a sh ha _ => vn_ne _ _ (fun h => by have := (hlt a sh ha).2; omega)) hL1
    refine gB hC _ _ _ _ _ _ _ qL_makes_65 rfl ?_
    refine g_ast hC dL_makes_68 (shp_eq _ _ _) (by decide) (by decide) (by decide) (by first | omega | exact cmpZ_in _ _ | exact bI_in _) (fun V68 e68 => ?_)
    refine gB hC _ _ _ _ _ _ _ qL_makes_69 rfl ?_
    refine g_ast hC dL_makes_72 (shp_eq _ _ _) (by decide) (by decide) (by decide) (by first | omega | exact cmpZ_in _ _ | exact bI_in _) (fun V72 e72 => ?_)
    refine gB hC _ _ _ _ _ _ _ qL_makes_73 rfl ?_
    refine g_ast hC dL_makes_76 (shp_eq _ _ _) (by decide) (by decide) (by decide) (by first | omega | exact cmpZ_in _ _ | exact bI_in _) (fun V76 e76 => ?_)
    refine gB hC _ _ _ _ _ _ _ qL_makes_77 rfl ?_
    refine g_ast hC dL_makes_80 (shp_eq _ _ _) (by decide) (by decide) (by decide) (by first | omega | exact cmpZ_in _ _ | exact bI_in _) (fun V80 e80 => ?_)
    refine gB hC _ _ _ _ _ _ _ qL_makes_81 rfl ?_
    refine g_ast hC dL_makes_85 (shp_eq _ _ _) (by decide) (by decide) (by decide) (by first | omega | exact cmpZ_in _ _ | exact bI_in _) (fun V85 e85 => ?_)
    refine gB hC _ _ _ _ _ _ _ qL_makes_86 rfl ?_
    refine g_ast hC dL_makes_90 (shp_eq _ _ _) (by decide) (by decide) (by decide) (by first | omega | exact cmpZ_in _ _ | exact bI_in _) (fun V90 e90 => ?_)
    refine gB hC _ _ _ _ _ _ _ qL_makes_91 rfl ?_
    refine g_ast hC dL_makes_95 (shp_eq _ _ _) (by decide) (by decide) (by decide) (by first | omega | exact cmpZ_in _ _ | exact bI_in _) (fun V95 e95 => ?_)
    refine gB hC _ _ _ _ _ _ _ qL_makes_96 rfl ?_
    refine g_ast hC dL_makes_101 (shp_eq _ _ _) (by decide) (by decide) (by decide) (by first | omega | exact cmpZ_in _ _ | exact bI_in _) (fun V101 e101 => ?_)
    refine gB hC _ _ _ _ _ _ _ qL_makes_102 rfl ?_
    refine g_ast hC dL_makes_107 (shp_eq _ _ _) (by decide) (by decide) (by decide) (by first | omega | exact cmpZ_in _ _ | exact bI_in _) (fun V107 e107 => ?_)
    refine gB hC _ _ _ _ _ _ _ qL_makes_108 rfl ?_
    refine g_ast hC dL_makes_113 (shp_eq _ _ _) (by decide) (by decide) (by decide) (by first | omega | exact cmpZ_in _ _ | exact bI_in _) (fun V113 e113 => ?_)
    have y0 : V113 z 0 = 0 := by rw [e113, up_ne _ _ (Or.inr (by decide)), e107, up_ne _ _ (Or.inr (by decide)), e101, up_ne _ _ (Or.inr (by decide)), e95, up_ne _ _ (Or.inr (by decide)), e90, up_ne _ _ (Or.inr (by decide)), e85, up_ne _ _ (Or.inr (by decide)), e80, up_ne _ _ (Or.inr (by decide)), e76, up_ne _ _ (Or.inr (by decide)), e72, up_ne _ _ (Or.inr (by decide)), e68, up_eq]
    have y1 : V113 z 1 = k0 := by rw [e113, up_ne _ _ (Or.inr (by decide)), e107, up_ne _ _ (Or.inr (by decide)), e101, up_ne _ _ (Or.inr (by decide)), e95, up_ne _ _ (Or.inr (by decide)), e90, up_ne _ _ (Or.inr (by decide)), e85, up_ne _ _ (Or.inr (by decide)), e80, up_ne _ _ (Or.inr (by decide)), e76, up_ne _ _ (Or.inr (by decide)), e72, up_eq]
    have y2 : V113 z 2 = f0 := by rw [e113, up_ne _ _ (Or.inr (by decide)), e107, up_ne _ _ (Or.inr (by decide)), e101, up_ne _ _ (Or.inr (by decide)), e95, up_ne _ _ (Or.inr (by decide)), e90, up_ne _ _ (Or.inr (by decide)), e85, up_ne _ _ (Or.inr (by decide)), e80, up_ne _ _ (Or.inr (by decide)), e76, up_eq]
    have y3 : V113 z 3 = n0 := by rw [e113, up_ne _ _ (Or.inr (by decide)), e107, up_ne _ _ (Or.inr (by decide)), e101, up_ne _ _ (Or.inr (by decide)), e95, up_ne _ _ (Or.inr (by decide)), e90, up_ne _ _ (Or.inr (by decide)), e85, up_ne _ _ (Or.inr (by decide)), e80, up_eq]
    have y4 : V113 z 4 = ad := by rw [e113, up_ne _ _ (Or.inr (by decide)), e107, up_ne _ _ (Or.inr (by decide)), e101, up_ne _ _ (Or.inr (by decide)), e95, up_ne _ _ (Or.inr (by decide)), e90, up_ne _ _ (Or.inr (by decide)), e85, up_eq]
    have y5 : V113 z 5 = ch := by rw [e113, up_ne _ _ (Or.inr (by decide)), e107, up_ne _ _ (Or.inr (by decide)), e101, up_ne _ _ (Or.inr (by decide)), e95, up_ne _ _ (Or.inr (by decide)), e90, up_eq]
    have y6 : V113 z 6 = 0 := by rw [e113, up_ne _ _ (Or.inr (by decide)), e107, up_ne _ _ (Or.inr (by decide)), e101, up_ne _ _ (Or.inr (by decide)), e95, up_eq]
    have y7 : V113 z 7 = ad * N 4 + ch * ((N 4 + 1) / 2) := by rw [e113, up_ne _ _ (Or.inr (by decide)), e107, up_ne _ _ (Or.inr (by decide)), e101, up_eq]
    have y8 : V113 z 8 = g0 := by rw [e113, up_ne _ _ (Or.inr (by decide)), e107, up_eq]
    have y9 : V113 z 9 = t0 := by rw [e113, up_eq]
    have fo : ∀ a, a ≠ z → V113 a = V1 a := fun a ha => by rw [e113, up_row _ _ _ ha, e107, up_row _ _ _ ha, e101, up_row _ _ _ ha, e95, up_row _ _ _ ha, e90, up_row _ _ _ ha, e85, up_row _ _ _ ha, e80, up_row _ _ _ ha, e76, up_row _ _ _ ha, e72, up_row _ _ _ ha, e68, up_row _ _ _ ha, vn_ne _ _ ha]
    have hLc : LB q w N (shp Sh z (100, 10)) V113 := LB_to (by omega) (fun a sh ha => (shp_ne _ _ (fun h => by have := (hlt a sh ha).2; omega)).trans ha) (fun a sh ha _ => fo a (fun h => by have := (hlt a sh ha).2; omega)) hL1
    refine gB hC _ _ _ _ _ _ _ qL_makes_114 rfl ?_
    refine g_getr hC dL_makes_120 fL_39 hLc.sL (by decide) rfl 15 rfl hLc.p15 ?_
    refine gB hC _ _ _ _ _ _ _ qL_makes_123 rfl ?_
    refine g_aald hC (j := 8) dL_makes_125 hLc.ssO (by decide) (hLc.ps (by omega) (by omega)) (by omega) (by omega) (by decide) ?_
    refine gB hC _ _ _ _ _ _ _ qL_makes_126 rfl ?_
    refine g_copy_int hC dL_makes_129 mL_105 gCpN gCpS gCpI (shp_eq _ _ _) (hLc.ssR (by omega) (by omega)) ⟨by decide, by decide⟩ (by decide) (by decide) (by decide) (by decide) (by decide) ⟨Nat.le_of_ble_eq_true rfl, Nat.le_of_ble_eq_true rfl⟩ ?_
    obtain ⟨Vc, hVc⟩ : ∃ Vc, Vc = cpV V113 z 0 (w + 9 + N 5) 0 10 := ⟨_, rfl⟩
    rw [← hVc]
    have fc : ∀ j, 0 ≤ j → j < 10 → Vc (w + 9 + N 5) j = V113 z j := fun j j0 j1 => by rw [hVc]; unfold cpV; rw [if_pos ⟨rfl, j0, by omega⟩]; congr 1; omega
    have fr : ∀ a, a ≠ w + 9 + N 5 → Vc a = V113 a := fun a ha => by rw [hVc]; funext j; unfold cpV; rw [if_neg (fun h => ha h.1)]
    have hLd : LB q w N (shp Sh z (100, 10)) Vc := LB_fr (by omega) hLc fr (Or.inl rfl) (Int.le_refl _) (by omega) (by omega)
    refine gB hC _ _ _ _ _ _ _ qL_makes_132 rfl ?_
    refine g_getiv hC dL_makes_134 fL_56 hLd.sL (by decide) rfl 17 rfl hLd.v17 (fun i134 => ?_)
    refine gB hC _ _ _ _ _ _ _ qL_makes_137 rfl ?_
    refine g_puti hC dL_makes_139 fL_56 hLd.sL (by decide) rfl (fun _ h => by cases h; rfl) 17 rfl (by first | omega | exact cmpZ_in _ _ | exact bI_in _) (fun V139 e139 => ?_)
    refine gB hC _ _ _ _ _ _ _ qL_makes_142 rfl ?_
    refine g_ireturn hC dL_makes_144 hr ⟨rfl, rfl, ?_⟩ (fun a sh ha => ⟨(shp_ne _ _ (fun h => by have := (hlt a sh ha).2; omega)).trans ha, fun _ => rfl⟩) ⟨Nat.le_of_ble_eq_true rfl, Nat.le_of_ble_eq_true rfl⟩
    have hLe : LB q w N Sh Vc := LB_fr (by omega) (LB_in (by omega) hL1 (fun _ _ h => h) (V' := V113) (fun a ha => fo a (by omega))) fr (Or.inl rfl) (Int.le_refl _) (by omega) (by omega)
    have hnn : n = n0 := by omega
    subst hnn
    refine ⟨LB_mk hI h60 hLe ⟨by omega, h3b⟩ e139 ⟨?_, ?_, ?_, ?_, ?_, ?_, ?_, ?_, ?_, ?_⟩ (fun i i0 i1 => ?_), fun a a0 a1 => ?_, fun a sh ha a0 => ?_, ?_⟩
    · rw [fc 0 (by decide) (by decide), y0]
    · rw [fc 1 (by decide) (by decide), y1]
    · rw [fc 2 (by decide) (by decide), y2]
    · rw [fc 3 (by decide) (by decide), y3]
    · rw [fc 4 (by decide) (by decide), y4]
    · rw [fc 5 (by decide) (by decide), y5]
    · rw [fc 6 (by decide) (by decide), y6]
    · rw [fc 7 (by decide) (by decide), y7]
    · rw [fc 8 (by decide) (by decide), y8]
    · rw [fc 9 (by decide) (by decide), y9]
    · rw [fr _ (by omega), fo _ (by omega)]; exact hp1 i i0 i1
    · rw [e139, up_row _ _ _ (by omega), fr _ (by omega), fo _ (by omega)]; exact ho1 a (by omega)
    · have := (hlt a sh ha).2
      rw [e139, up_row _ _ _ (by omega), fr _ (by omega), fo _ (by omega)]; exact ho1 a (by omega)
    · rw [e139, up_ne _ _ (Or.inr (by decide)), fr _ (by omega), fo _ (by omega)]; rw [ho1 _ (by omega)]
  · refine gB hC _ _ _ _ _ _ _ qL_makes_15 rfl ?_
    refine g_getr hC dL_makes_16 fL_42 hL1.sL (by decide) rfl 16 rfl hL1.p16 ?_
    refine gB hC _ _ _ _ _ _ _ qL_makes_19 rfl ?_
    refine g_aald hC (j := 8) dL_makes_21 hL1.spO (by decide) (hL1.pp (by omega) (by omega)) (by omega) (by omega) (by decide) ?_
    refine gB hC _ _ _ _ _ _ _ qL_makes_22 rfl ?_
    refine g_cV1i hC dL_makes_30 mL_99 vL_price (kL_price hL1 hI (by omega) (by omega) (by omega) (by omega) (by omega)) rfl hL1.sL (by decide) rfl (Nat.le_of_ble_eq_true rfl) (RR rfl rfl rfl rfl) (fun z i30 => ?_)
    refine g_ast hC dL_makes_33 (hL1.spR (by omega) (by omega)) (by omega) (by omega) (by decide) (by first | omega | exact cmpZ_in _ _ | exact bI_in _) (fun V33 e33 => ?_)
    refine gB hC _ _ _ _ _ _ _ qL_makes_34 rfl ?_
    refine ih (V33, n + 1) _ ⟨LB_pr (by omega) hL1 e33 (by omega) (by omega) (Or.inl (Int.le_refl _)), fun a ha => by show V33 a = V a; rw [e33, up_row _ _ _ ha]; exact ho1 a ha, fun i i0 i1 => ?_, by show 0 ≤ n + 1; omega, by show n + 1 ≤ n0; omega⟩ (by show (n0 - (n + 1)).toNat < (n0 - n).toNat; omega)
    show V33 (w + 70 + N 5) i = _
    by_cases hi : i = n
    · subst hi; rw [e33, up_eq]; congr 1; omega
    · rw [e33, up_ne _ _ (Or.inr hi)]; exact hp1 i i0 (by have : i < n + 1 := i1; omega)
