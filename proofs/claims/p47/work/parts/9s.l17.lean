/-! the law: the first acts (rows laid by wip/p47/l17.py) -/
def dF (w : Int) (V : gV) : gV := fun a => if a = w then (fun j => dateZ (8822 + j)) else if a = w + 1 then (fun j => wdZ (8822 + j)) else V a
theorem dF_ne {w a : Int} {V : gV} (h0 : a ≠ w) (h1 : a ≠ w + 1) : dF w V a = V a := by unfold dF; rw [if_neg h0, if_neg h1]
theorem dFp {w q j x : Int} {V : gV} (h0 : q ≠ w) (h1 : q ≠ w + 1) (h : dF w V q j = x) : V q j = x := by rw [← h, dF_ne h0 h1]
theorem dF_u0 {w i x : Int} {V V' : gV} (e : V' = up V w i x) : dF w V' = dF w V := by
  funext a; unfold dF
  split
  · rfl
  · split
    · rfl
    · rename_i h0 _; rw [e]; exact up_row _ _ _ h0
theorem dF_u1 {w i x : Int} {V V' : gV} (e : V' = up V (w + 1) i x) : dF w V' = dF w V := by
  funext a; unfold dF
  split
  · rfl
  · split
    · rfl
    · rename_i h1; rw [e]; exact up_row _ _ _ h1
theorem LB_dF {q w : Int} {N : gN0} {Sh : gSh} {V : gV} (h60 : N 5 ≤ 60) (H : LB q w N Sh (dF w V)) (hd : ∀ j, 0 ≤ j → j < 100 → V w j = dateZ (8822 + j) ∧ V (w + 1) j = wdZ (8822 + j)) : LB q w N Sh V := by
  have hqw := H.a0
  have eo : ∀ a, a ≠ w → a ≠ w + 1 → V a = dF w V a := fun a h0 h1 => (dF_ne h0 h1).symm
  have eq' : V q = dF w V q := eo q (by omega) (by omega)
  obtain ⟨a1, a2, a3, a4, a5, a6, a7, a8, a9, a10⟩ := H
  refine ⟨a1, a2, llP_ag (by rw [eq']; exact ⟨rfl, rfl, rfl, rfl, rfl, rfl, rfl, rfl, rfl, rfl, rfl, rfl⟩) (eo _ (by omega) (by omega)) (eo _ (by omega) (by omega)) (eo _ (by omega) (by omega)) a3, hd, llG_ag (eo _ (by omega) (by omega)) (fun _ _ h => h) a5, by unfold llV at *; rw [eq']; exact a6, by unfold llE at *; rw [eq']; exact a7, llK_ag (fun _ _ => rfl) (fun a h1 h2 _ => eo a (by omega) (by omega)) a8, llB_ag (fun _ _ _ => rfl) (eo _ (by omega) (by omega)) a9, fun s s0 s1 => ?_⟩
  obtain ⟨b1, b2⟩ := a10 s s0 s1
  exact ⟨by unfold stL at *; rw [eo _ (by omega) (by omega)]; exact b1, fun n n0 n1 => by rw [eo _ (by omega) (by omega)]; exact b2 n n0 n1⟩
theorem XR_r0 {q w r i x c : Int} {N : gN0} {P : Int → gN0} {Sh : gSh} {V V' : gV} (H : XR (q + 2) N P c Sh V) (hI : INV N) (hqw : 0 ≤ q ∧ q + 1143 ≤ w) (e : V' = up V r i x) (hr : r = q ∨ w ≤ r) : XR (q + 2) N P c Sh V' :=
  XR_ag H hI (fun a a0 a1 => by rw [e]; exact up_row _ _ _ (by omega))
theorem dt_lt {j : Int} (h0 : 1 ≤ j) (h1 : j < 100) : dateZ (8822 + (j - 1)) < dateZ (8822 + j) := by
  have key : ∀ i : Fin 100, 1 ≤ i.val → dateZ (8822 + ((i.val : Int) - 1)) < dateZ (8822 + (i.val : Int)) := by decide +kernel
  have := key ⟨j.toNat, by omega⟩ (show 1 ≤ j.toNat by omega)
  rwa [show (((⟨j.toNat, by omega⟩ : Fin 100).val : Nat) : Int) = j by show (j.toNat : Int) = j; omega] at this
theorem seA {j : Int} (h0 : 0 ≤ j) (h1 : j < 20) : (101 ≤ dateZ (8822 + j) % 10000 ∧ dateZ (8822 + j) % 10000 ≤ 1231) ∧ dayZ (20000000 + dateZ (8822 + j) % 10000) ≠ -1 := by
  have key : ∀ i : Fin 20, (101 ≤ dateZ (8822 + (i.val : Int)) % 10000 ∧ dateZ (8822 + (i.val : Int)) % 10000 ≤ 1231) ∧ dayZ (20000000 + dateZ (8822 + (i.val : Int)) % 10000) ≠ -1 := by decide +kernel
  have := key ⟨j.toNat, by omega⟩
  rwa [show (((⟨j.toNat, by omega⟩ : Fin 20).val : Nat) : Int) = j by show (j.toNat : Int) = j; omega] at this
theorem LI_0 {M : gN0} (hI : INV M) (h : M 1 = 2 ∧ M 2 ≤ 1 ∧ M 31 = 3 ∧ M 34 = 1 ∧ M 0 = 8822 ∧ M 13 = 0 ∧ M 14 = 0 ∧ M 15 = 0 ∧ M 16 = 0 ∧ M 5 = 0 ∧ M 7 = 0) (hj : ∀ j, 1596 ≤ j → j < 5022 → inI (M j)) : LI 0 M := by
  obtain ⟨h1, h2, h3, h4, h5, h6, h7, h8, h9, h10, h11⟩ := h
  exact ⟨hI, ⟨h1, h2, h3, h4, by omega, h6, h7, h8, h9⟩, fun s s0 s1 => by omega, fun g g0 g1 => by omega, hj⟩
theorem LW_0 {q w : Int} {N : gN0} {V : gV} (h7 : N 7 = 0) (h : V q 20 = 0) : LW q w N V := ⟨h.trans h7.symm, fun g g0 g1 => by omega⟩
theorem LB_we {q w x : Int} {N : gN0} {Sh : gSh} {V V' : gV} (hI : InvC N) (H : LB q w N Sh V) (e : V' = up V q 9 x) : LB q w (upN N 3 x) Sh V' := by
  have hsc := hI.1
  unfold iScal at hsc
  have hv := H.2.2.2.2.2.1
  refine LB_q (by omega) H e (by omega) ?_ (upN_ne (by decide)) (upN_ne (by decide)) (fun j hj => upN_ne (by omega)) (fun s s0 s1 => by have := (hI.2.2.2.1 s s0 s1).1; omega)
  unfold llV at hv ⊢
  rw [e, up_ne _ _ (Or.inr (by decide)), up_eq, up_ne _ _ (Or.inr (by decide)), up_ne _ _ (Or.inr (by decide)), up_ne _ _ (Or.inr (by decide)), up_ne _ _ (Or.inr (by decide)), upN_ne (by decide), upN_eq, upN_ne (by decide), upN_ne (by decide), upN_ne (by decide), upN_ne (by decide)]
  exact ⟨hv.1, rfl, hv.2.2⟩
theorem LB_tx {q w x : Int} {N : gN0} {Sh : gSh} {V V' : gV} (h5 : N 5 = 0) (H : LB q w N Sh V) (e : V' = up V q 10 x) : LB q w (upN N 4 x) Sh V' := by
  have hv := H.2.2.2.2.2.1
  refine LB_q (by omega) H e (by omega) ?_ (upN_ne (by decide)) (upN_ne (by decide)) (fun j hj => upN_ne (by omega)) (fun s s0 s1 => by omega)
  unfold llV at hv ⊢
  rw [e, up_ne _ _ (Or.inr (by decide)), up_ne _ _ (Or.inr (by decide)), up_eq, up_ne _ _ (Or.inr (by decide)), up_ne _ _ (Or.inr (by decide)), up_ne _ _ (Or.inr (by decide)), upN_ne (by decide), upN_ne (by decide), upN_eq, upN_ne (by decide), upN_ne (by decide), upN_ne (by decide)]
  exact ⟨hv.1, hv.2.1, rfl, hv.2.2.2⟩
/-- the season's numbers, before it is there -/
theorem LB_s4 {q w i x : Int} {N M : gN0} {Sh : gSh} {V V' : gV} (h5 : N 5 = 0) (hM : ∀ j, j ≠ 2 → (j < 40 ∨ 44 ≤ j) → M j = N j) (H : LB q w N Sh V) (e : V' = up V q i x) (hi : 11 ≤ i ∧ i ≤ 14) (hE : llE q M V') : LB q w M Sh V' := by
  have hqw := H.a0
  have eo : ∀ a, a ≠ q → V' a = V a := fun a ha => by rw [e]; exact up_row _ _ _ ha
  have en : ∀ j, j ≠ i → V' q j = V q j := fun j hj => by rw [e]; exact up_ne _ _ (Or.inr hj)
  obtain ⟨a1, a2, a3, a4, a5, a6, a7, a8, a9, a10⟩ := H
  refine ⟨a1, a2, llP_ag ⟨en _ (by omega), en _ (by omega), en _ (by omega), en _ (by omega), en _ (by omega), en _ (by omega), en _ (by omega), en _ (by omega), en _ (by omega), en _ (by omega), en _ (by omega), en _ (by omega)⟩ (eo _ (by omega)) (eo _ (by omega)) (eo _ (by omega)) a3, llD_ag (eo _ (by omega)) (eo _ (by omega)) a4, llG_ag (eo _ (by omega)) (fun _ _ h => h) a5, ?_, hE, llK_ag (fun j h => hM j (by omega) (by omega)) (fun a h1 h2 _ => eo a (by omega)) a8, llB_ag (fun j h h' => hM j (by omega) (by omega)) (eo _ (by omega)) a9, fun s s0 s1 => ?_⟩
  · unfold llV at *
    rw [en 4 (by omega), en 9 (by omega), en 10 (by omega), en 17 (by omega), en 18 (by omega), en 22 (by omega), hM 0 (by decide) (by decide), hM 3 (by decide) (by decide), hM 4 (by decide) (by decide), hM 5 (by decide) (by decide), hM 6 (by decide) (by decide), hM 8 (by decide) (by decide)]
    exact a6
  · rw [hM 5 (by decide) (by decide), h5] at s1
    omega
theorem LB_s3 {q w i x : Int} {N : gN0} {Sh : gSh} {V V' : gV} (h5 : N 5 = 0) (h2 : N 2 = 0) (H : LB q w N Sh V) (e : V' = up V q i x) (hi : 11 ≤ i ∧ i ≤ 13) : LB q w N Sh V' := by
  refine LB_s4 h5 (fun _ _ _ => rfl) H e (by omega) ?_
  rcases H.ve with h | h
  · exact Or.inl ⟨h.1, by rw [e, up_ne _ _ (Or.inr (by omega))]; exact h.2⟩
  · omega
theorem up_self (V : gV) (q i x : Int) : up V q i x q = upN (V q) i x := by
  funext j
  by_cases h : j = i
  · rw [h, up_eq, upN_eq]
  · rw [up_ne _ _ (Or.inr h), upN_ne h]

theorem kL_begins {E l Sh V z} {q w : Int} {N : gN0} {P9 : Int → gN0} {c9 : Int} (hN : N = iniN) (hx : XR (q + 2) N P9 c9 Sh V) (hL : LB q w N Sh (dF w V)) (h20 : V q 20 = 0) : gM E l yL_begins (.code yL_begins cL_begins 2 (some .boolean)) (rmk 16 200 2000 600) [(2, q)] Sh V z (gAct q w 0) := by
  refine gM_at (L0 := [(2, q), (9, 0)]) rfl rfl rfl ?_
  intro p e s m args below meth c hC hr hex hnm hz
  have hqw := hL.a0
  have hI0 : INV N := by rw [hN]; exact iniN_inv.1
  have hI := hI0.1
  have hlo : N 0 = 8822 ∧ N 1 = 2 ∧ N 2 = 0 ∧ N 3 = 0 ∧ N 4 = 0 ∧ N 5 = 0 ∧ N 6 = 0 ∧ N 7 = 0 ∧ N 31 = 3 ∧ N 34 = 1 := by rw [hN]; exact ⟨rfl, rfl, rfl, rfl, rfl, rfl, rfl, rfl, rfl, rfl⟩
  have hz9 : N 13 = 0 ∧ N 14 = 0 ∧ N 15 = 0 ∧ N 16 = 0 := by rw [hN]; exact ⟨rfl, rfl, rfl, rfl⟩
  have hNi : ∀ j, 1596 ≤ j → j < 5022 → inI (N j) := fun j h1 h2 => by rw [hN, iniN_z (by omega)]; omega
  have hd0 : dayZ 20240226 = 8822 := by decide
  have hd1 : dateZ 8822 = 20240226 := by decide
  refine gB hC _ _ _ _ _ _ _ qL_begins_0 rfl ?_
  refine g_loop (fun x : gV × Nat => XR (q + 2) N P9 c9 Sh x.1 ∧ LB q w N Sh (dF w x.1) ∧ x.1 q 20 = 0 ∧ x.2 ≤ 100 ∧ ∀ j, 0 ≤ j → j < (x.2 : Int) → x.1 w j = dateZ (8822 + j) ∧ x.1 (w + 1) j = wdZ (8822 + j)) (fun x => 100 - x.2) 2 (fun x => [(2, q), (0, (x.2 : Int))]) (fun x => x.1) (V, 0) ⟨hx, hL, h20, by show (0 : Nat) ≤ 100; decide, fun j j0 j1 => absurd j1 (by show ¬ j < 0; omega)⟩ ?_
  rintro ⟨V1, n⟩ z ⟨hx1, hL1, h201, hn, hdt⟩ ih
  dsimp only at hx1 hL1 h201 hn hdt ih ⊢
  refine gB hC _ _ _ _ _ _ _ qL_begins_2 rfl ?_
  refine g_getr hC dL_begins_4 fL_16 hL1.sL (by decide) rfl 2 rfl (dFp (by omega) (by omega) hL1.p2) ?_
  refine g_alen hC (j := 0) dL_begins_7 hL1.sdt ?_
  refine g_icmp_ge hC 117 dL_begins_8 rfl (by first | omega | exact cmpZ_in _ _ | exact bI_in _) (by first | omega | exact cmpZ_in _ _ | exact bI_in _) (fun c8 => ?_) (fun c8 => ?_)
  · have hn9 : n = 100 := by omega
    have hLf : LB q w N Sh V1 := LB_dF (by omega) hL1 (fun j j0 j1 => hdt j j0 (by omega))
    have hWf : LW q w N V1 := LW_0 (by omega) h201
    refine gB hC _ _ _ _ _ _ _ qL_begins_117 rfl ?_
    refine g_getr hC dL_begins_119 fL_52 hLf.sL (by decide) rfl 1 rfl hLf.p1 ?_
    refine gB hC _ _ _ _ _ _ _ qL_begins_122 rfl ?_
    refine g_dice hC dL_begins_124 mL_147 vX12_next (kX12_next hLf.sD (by omega) (by omega)) rfl hLf.sD (by decide) rfl (Nat.le_of_ble_eq_true rfl) (RSL rfl rfl (by dsimp only [rmk]; omega) (by dsimp only [rmk]; omega)) (fun zd124 y124 s124 V124 l124 u124 e124 => ?_)
    have hL124 := LB_dc (by omega) hLf e124
    have hW124 := LW_dc (by omega) hLf e124 hWf
    have hx124 := XR_dc (w := w) hx1 hI0 e124
    refine g_puti hC dL_begins_127 fL_91 hL124.sL (by decide) rfl (fun _ h => by cases h; rfl) 9 rfl (by first | omega | exact cmpZ_in _ _ | exact bI_in _) (fun V127 e127 => ?_)
    have hL127 := LB_we hI hL124 e127
    have hW127 : LW q w (upN N 3 y124) V127 := LW_q (by omega) hL124 e127 (by decide) (upN_ne (by decide)) (fun j _ _ => upN_ne (by omega)) hW124
    have hx127 := XR_r (w := w) hx124 hI0 hL124 e127 (Or.inl rfl)
    have h51 : (upN N 3 y124) 5 = 0 := by rw [upN_ne (by decide)]; omega
    have h71 : (upN N 3 y124) 7 = 0 := by rw [upN_ne (by decide)]; omega
    refine gB hC _ _ _ _ _ _ _ qL_begins_130 rfl ?_
    refine g_getr hC dL_begins_132 fL_52 hL127.sL (by decide) rfl 1 rfl hL127.p1 ?_
    refine gB hC _ _ _ _ _ _ _ qL_begins_135 rfl ?_
    refine g_dice hC dL_begins_138 mL_147 vX12_next (kX12_next hL127.sD (by omega) (by omega)) rfl hL127.sD (by decide) rfl (Nat.le_of_ble_eq_true rfl) (RSL rfl rfl (by dsimp only [rmk]; omega) (by dsimp only [rmk]; omega)) (fun zd138 y138 s138 V138 l138 u138 e138 => ?_)
    have hL138 := LB_dc (by omega) hL127 e138
    have hW138 := LW_dc (by omega) hL127 e138 hW127
    have hx138 := XR_dc (w := w) hx127 hI0 e138
    refine g_puti hC dL_begins_141 fL_102 hL138.sL (by decide) rfl (fun _ h => by cases h; rfl) 10 rfl (by first | omega | exact cmpZ_in _ _ | exact bI_in _) (fun V141 e141 => ?_)
    have hL141 := LB_tx h51 hL138 e141
    have hW141 : LW q w (upN (upN N 3 y124) 4 y138) V141 := LW_q (by omega) hL138 e141 (by decide) (upN_ne (by decide)) (fun j _ _ => upN_ne (by omega)) hW138
    have hx141 := XR_r (w := w) hx138 hI0 hL138 e141 (Or.inl rfl)
    have hI2 : INV (upN (upN N 3 y124) 4 y138) := sw_inv hI0 (by omega) (by omega)
    have a3 : (upN (upN N 3 y124) 4 y138) 3 = y124 := by rw [upN_ne (by decide), upN_eq]
    have a4 : (upN (upN N 3 y124) 4 y138) 4 = y138 := upN_eq _ _ _
    have b0 : (upN (upN N 3 y124) 4 y138) 0 = N 0 := by rw [upN_ne (by decide), upN_ne (by decide)]
    have b1 : (upN (upN N 3 y124) 4 y138) 1 = N 1 := by rw [upN_ne (by decide), upN_ne (by decide)]
    have b2 : (upN (upN N 3 y124) 4 y138) 2 = N 2 := by rw [upN_ne (by decide), upN_ne (by decide)]
    have b5 : (upN (upN N 3 y124) 4 y138) 5 = N 5 := by rw [upN_ne (by decide), upN_ne (by decide)]
    have b7 : (upN (upN N 3 y124) 4 y138) 7 = N 7 := by rw [upN_ne (by decide), upN_ne (by decide)]
    have b13 : (upN (upN N 3 y124) 4 y138) 13 = N 13 := by rw [upN_ne (by decide), upN_ne (by decide)]
    have b14 : (upN (upN N 3 y124) 4 y138) 14 = N 14 := by rw [upN_ne (by decide), upN_ne (by decide)]
    have b15 : (upN (upN N 3 y124) 4 y138) 15 = N 15 := by rw [upN_ne (by decide), upN_ne (by decide)]
    have b16 : (upN (upN N 3 y124) 4 y138) 16 = N 16 := by rw [upN_ne (by decide), upN_ne (by decide)]
    have b31 : (upN (upN N 3 y124) 4 y138) 31 = N 31 := by rw [upN_ne (by decide), upN_ne (by decide)]
    have b34 : (upN (upN N 3 y124) 4 y138) 34 = N 34 := by rw [upN_ne (by decide), upN_ne (by decide)]
    have hj2 : ∀ j, 1596 ≤ j → j < 5022 → inI ((upN (upN N 3 y124) 4 y138) j) := fun j h1 h2 => by rw [upN_ne (by omega), upN_ne (by omega)]; exact hNi j h1 h2
    have hLI2 : LI 0 (upN (upN N 3 y124) 4 y138) := LI_0 hI2 (by omega) hj2
    obtain ⟨M2, hM2⟩ : ∃ M2, M2 = upN (upN N 3 y124) 4 y138 := ⟨_, rfl⟩
    rw [← hM2] at hL141 hW141 hI2 a3 a4 b0 b1 b2 b5 b7 b13 b14 b15 b16 b31 b34 hj2 hLI2
    refine gB hC _ _ _ _ _ _ _ qL_begins_144 rfl ?_
    refine g_getr hC dL_begins_145 fL_10 hL141.sL (by decide) rfl 0 rfl hL141.p0 ?_
    refine gB hC _ _ _ _ _ _ _ qL_begins_148 rfl ?_
    refine g_getiv hC dL_begins_149 fL_91 hL141.sL (by decide) rfl 9 rfl (hL141.v9.trans a3) (fun i149 => ?_)
    refine gB hC _ _ _ _ _ _ _ qL_begins_152 rfl ?_
    refine g_getiv hC dL_begins_153 fL_102 hL141.sL (by decide) rfl 10 rfl (hL141.v10.trans a4) (fun i153 => ?_)
    refine g_cV1e hC dL_begins_156 mL_211 vX11_setWeekend (xsetWeekend hx141 hI0 (by omega) (by omega)) rfl hL141.sX (by decide) rfl (Nat.le_of_ble_eq_true rfl) (RSL rfl rfl (by dsimp only [rmk]; omega) (by dsimp only [rmk]; omega)) (fun z V156 e156 => ?_)
    have hx156 := e156.1
    have hL156 := LB_x (by omega) hL141 e156.2
    have hW156 := LW_x (by omega) hL141 e156.2 hW141
    rw [← hM2] at hx156
    refine g_if_eq hC 164 dL_begins_159 rfl (by first | omega | exact cmpZ_in _ _ | exact bI_in _) (fun c159 => ?_) (fun c159 => ?_)
    · refine gB hC _ _ _ _ _ _ _ qL_begins_164 rfl ?_
      refine g_getr hC dL_begins_165 fL_52 hL156.sL (by decide) rfl 1 rfl hL156.p1 ?_
      refine gB hC _ _ _ _ _ _ _ qL_begins_168 rfl ?_
      refine g_dice hC dL_begins_169 mL_147 vX12_next (kX12_next hL156.sD (by omega) (by omega)) rfl hL156.sD (by decide) rfl (Nat.le_of_ble_eq_true rfl) (RSL rfl rfl (by dsimp only [rmk]; omega) (by dsimp only [rmk]; omega)) (fun zd169 y169 s169 V169 l169 u169 e169 => ?_)
      have hL169 := LB_dc (by omega) hL156 e169
      have hW169 := LW_dc (by omega) hL156 e169 hW156
      have hx169 := XR_dc (w := w) hx156 hI2 e169
      refine g_if_ne hC 177 dL_begins_172 rfl (by first | omega | exact cmpZ_in _ _ | exact bI_in _) (fun c172 => ?_) (fun c172 => ?_)
      · refine gB hC _ _ _ _ _ _ _ qL_begins_177 rfl ?_
        refine g_getr hC dL_begins_179 fL_16 hL169.sL (by decide) rfl 2 rfl hL169.p2 ?_
        refine gB hC _ _ _ _ _ _ _ qL_begins_182 rfl ?_
        refine g_getr hC dL_begins_183 fL_52 hL169.sL (by decide) rfl 1 rfl hL169.p1 ?_
        refine gB hC _ _ _ _ _ _ _ qL_begins_186 rfl ?_
        refine g_dice hC dL_begins_188 mL_147 vX12_next (kX12_next hL169.sD (by omega) (by omega)) rfl hL169.sD (by decide) rfl (Nat.le_of_ble_eq_true rfl) (RSL rfl rfl (by dsimp only [rmk]; omega) (by dsimp only [rmk]; omega)) (fun zd188 y188 s188 V188 l188 u188 e188 => ?_)
        have hL188 := LB_dc (by omega) hL169 e188
        have hW188 := LW_dc (by omega) hL169 e188 hW169
        have hx188 := XR_dc (w := w) hx169 hI2 e188
        refine g_iald hC dL_begins_191 hL188.sdt (hL188.dt (by omega) (by omega)) (by omega) (by omega) (by decide) (fun i191 => ?_)
        have hdza := dateZ_in (d := 8822 + y188) (by omega) (by omega)
        refine gB hC _ _ _ _ _ _ _ qL_begins_192 rfl ?_
        refine g_irem hC dL_begins_195 (by first | omega | exact cmpZ_in _ _ | exact bI_in _) (by first | omega | exact cmpZ_in _ _ | exact bI_in _) (by omega) (by omega) ?_
        obtain ⟨fa, hfa⟩ : ∃ x : Int, x = dateZ (8822 + y188) % 10000 := ⟨_, rfl⟩
        have hfa9 := seA (j := y188) (by omega) (by omega)
        rw [← hfa] at hfa9
        refine g_st0 fa hfa.symm ?_
        refine g_puti hC dL_begins_196 fL_71 hL188.sL (by decide) rfl (fun _ h => by cases h; rfl) 11 rfl (by first | omega | exact cmpZ_in _ _ | exact bI_in _) (fun V196 e196 => ?_)
        have hq196 : V196 q = (upN (V188 q) 11 fa) := by rw [e196, up_self]
        have hL196 : LB q w M2 _ V196 := LB_s3 (by omega) (by omega) hL188 e196 (by decide)
        have hW196 : LW q w M2 V196 := LW_q (by omega) hL188 e196 (by decide) rfl (fun j _ _ => rfl) hW188
        have hx196 := XR_r (w := w) hx188 hI2 hL188 e196 (Or.inl rfl)
        refine gB hC _ _ _ _ _ _ _ qL_begins_199 rfl ?_
        refine g_getr hC dL_begins_201 fL_52 hL196.sL (by decide) rfl 1 rfl hL196.p1 ?_
        refine gB hC _ _ _ _ _ _ _ qL_begins_204 rfl ?_
        refine g_dice hC dL_begins_205 mL_147 vX12_next (kX12_next hL196.sD (by omega) (by omega)) rfl hL196.sD (by decide) rfl (Nat.le_of_ble_eq_true rfl) (RSL rfl rfl (by dsimp only [rmk]; omega) (by dsimp only [rmk]; omega)) (fun zd205 y205 s205 V205 l205 u205 e205 => ?_)
        have hL205 := LB_dc (by omega) hL196 e205
        have hW205 := LW_dc (by omega) hL196 e205 hW196
        have hx205 := XR_dc (w := w) hx196 hI2 e205
        have hq205 : V205 q = (upN (V188 q) 11 fa) := by rw [e205, up_row _ _ _ (by omega)]; exact hq196
        refine g_if_ne hC 216 dL_begins_208 rfl (by first | omega | exact cmpZ_in _ _ | exact bI_in _) (fun c208 => ?_) (fun c208 => ?_)
        · refine gB hC _ _ _ _ _ _ _ qL_begins_216 rfl ?_
          refine g_getr hC dL_begins_217 fL_16 hL205.sL (by decide) rfl 2 rfl hL205.p2 ?_
          refine gB hC _ _ _ _ _ _ _ qL_begins_220 rfl ?_
          refine g_getr hC dL_begins_221 fL_52 hL205.sL (by decide) rfl 1 rfl hL205.p1 ?_
          refine gB hC _ _ _ _ _ _ _ qL_begins_224 rfl ?_
          refine g_dice hC dL_begins_226 mL_147 vX12_next (kX12_next hL205.sD (by omega) (by omega)) rfl hL205.sD (by decide) rfl (Nat.le_of_ble_eq_true rfl) (RSL rfl rfl (by dsimp only [rmk]; omega) (by dsimp only [rmk]; omega)) (fun zd226 y226 s226 V226 l226 u226 e226 => ?_)
          have hL226 := LB_dc (by omega) hL205 e226
          have hW226 := LW_dc (by omega) hL205 e226 hW205
          have hx226 := XR_dc (w := w) hx205 hI2 e226
          have hq226 : V226 q = (upN (V188 q) 11 fa) := by rw [e226, up_row _ _ _ (by omega)]; exact hq205
          refine g_iald hC dL_begins_229 hL226.sdt (hL226.dt (by omega) (by omega)) (by omega) (by omega) (by decide) (fun i229 => ?_)
          have hdzb := dateZ_in (d := 8822 + y226) (by omega) (by omega)
          refine gB hC _ _ _ _ _ _ _ qL_begins_230 rfl ?_
          refine g_irem hC dL_begins_233 (by first | omega | exact cmpZ_in _ _ | exact bI_in _) (by first | omega | exact cmpZ_in _ _ | exact bI_in _) (by omega) (by omega) ?_
          obtain ⟨fb, hfb⟩ : ∃ x : Int, x = dateZ (8822 + y226) % 10000 := ⟨_, rfl⟩
          have hfb9 : (101 ≤ fb ∧ fb ≤ 1231) ∧ dayZ (20000000 + fb) ≠ -1 := by rw [hfb]; exact seA (by omega) (by omega)
          refine g_st0 fb hfb.symm ?_
          refine g_puti hC dL_begins_234 fL_74 hL226.sL (by decide) rfl (fun _ h => by cases h; rfl) 12 rfl (by first | omega | exact cmpZ_in _ _ | exact bI_in _) (fun V234 e234 => ?_)
          have hq234 : V234 q = (upN (upN (V188 q) 11 fa) 12 fb) := by rw [e234, up_self, hq226]
          have hL234 : LB q w M2 _ V234 := LB_s3 (by omega) (by omega) hL226 e234 (by decide)
          have hW234 : LW q w M2 V234 := LW_q (by omega) hL226 e234 (by decide) rfl (fun j _ _ => rfl) hW226
          have hx234 := XR_r (w := w) hx226 hI2 hL226 e234 (Or.inl rfl)
          refine gB hC _ _ _ _ _ _ _ qL_begins_237 rfl ?_
          refine g_getr hC dL_begins_239 fL_52 hL234.sL (by decide) rfl 1 rfl hL234.p1 ?_
          refine gB hC _ _ _ _ _ _ _ qL_begins_242 rfl ?_
          refine g_dice hC dL_begins_245 mL_147 vX12_next (kX12_next hL234.sD (by omega) (by omega)) rfl hL234.sD (by decide) rfl (Nat.le_of_ble_eq_true rfl) (RSL rfl rfl (by dsimp only [rmk]; omega) (by dsimp only [rmk]; omega)) (fun zd245 y245 s245 V245 l245 u245 e245 => ?_)
          have hL245 := LB_dc (by omega) hL234 e245
          have hW245 := LW_dc (by omega) hL234 e245 hW234
          have hx245 := XR_dc (w := w) hx234 hI2 e245
          have hq245 : V245 q = (upN (upN (V188 q) 11 fa) 12 fb) := by rw [e245, up_row _ _ _ (by omega)]; exact hq234
          refine gB hC _ _ _ _ _ _ _ qL_begins_248 rfl ?_
          obtain ⟨pe, hpe⟩ : ∃ x : Int, x = (y245 - 50) := ⟨_, rfl⟩
          
          refine g_st0 pe hpe.symm ?_
          refine g_puti hC dL_begins_251 fL_88 hL245.sL (by decide) rfl (fun _ h => by cases h; rfl) 13 rfl (by first | omega | exact cmpZ_in _ _ | exact bI_in _) (fun V251 e251 => ?_)
          have hq251 : V251 q = (upN (upN (upN (V188 q) 11 fa) 12 fb) 13 pe) := by rw [e251, up_self, hq245]
          have hL251 : LB q w M2 _ V251 := LB_s3 (by omega) (by omega) hL245 e251 (by decide)
          have hW251 : LW q w M2 V251 := LW_q (by omega) hL245 e251 (by decide) rfl (fun j _ _ => rfl) hW245
          have hx251 := XR_r (w := w) hx245 hI2 hL245 e251 (Or.inl rfl)
          refine gB hC _ _ _ _ _ _ _ qL_begins_254 rfl ?_
          refine g_getr hC dL_begins_257 fL_52 hL251.sL (by decide) rfl 1 rfl hL251.p1 ?_
          refine gB hC _ _ _ _ _ _ _ qL_begins_260 rfl ?_
          refine g_dice hC dL_begins_261 mL_147 vX12_next (kX12_next hL251.sD (by omega) (by omega)) rfl hL251.sD (by decide) rfl (Nat.le_of_ble_eq_true rfl) (RSL rfl rfl (by dsimp only [rmk]; omega) (by dsimp only [rmk]; omega)) (fun zd261 y261 s261 V261 l261 u261 e261 => ?_)
          have hL261 := LB_dc (by omega) hL251 e261
          have hW261 := LW_dc (by omega) hL251 e261 hW251
          have hx261 := XR_dc (w := w) hx251 hI2 e261
          have hq261 : V261 q = (upN (upN (upN (V188 q) 11 fa) 12 fb) 13 pe) := by rw [e261, up_row _ _ _ (by omega)]; exact hq251
          refine gB hC _ _ _ _ _ _ _ qL_begins_264 rfl ?_
          obtain ⟨le, hle⟩ : ∃ x : Int, x = (1 + y261) := ⟨_, rfl⟩
          
          refine g_st0 le hle.symm ?_
          refine g_puti hC dL_begins_265 fL_68 hL261.sL (by decide) rfl (fun _ h => by cases h; rfl) 14 rfl (by first | omega | exact cmpZ_in _ _ | exact bI_in _) (fun V265 e265 => ?_)
          have hq265 : V265 q = upN (upN (upN (upN (V188 q) 11 fa) 12 fb) 13 pe) 14 le := by rw [e265, up_self, hq261]
          have c11 : V265 q 11 = fa := by rw [hq265, upN_ne (by decide), upN_ne (by decide), upN_ne (by decide), upN_eq]
          have c12 : V265 q 12 = fb := by rw [hq265, upN_ne (by decide), upN_ne (by decide), upN_eq]
          have c13 : V265 q 13 = pe := by rw [hq265, upN_ne (by decide), upN_eq]
          have c14 : V265 q 14 = le := by rw [hq265, upN_eq]
          have m2 : (upN (upN (upN (upN (upN M2 (40 + M2 2 * 4) fa) (40 + M2 2 * 4 + 1) fb) (40 + M2 2 * 4 + 2) pe) (40 + M2 2 * 4 + 3) le) 2 (M2 2 + 1)) 2 = 1 := by rw [upN_eq]; omega
          have mj : ∀ j, j ≠ 2 → (j < 40 ∨ 44 ≤ j) → (upN (upN (upN (upN (upN M2 (40 + M2 2 * 4) fa) (40 + M2 2 * 4 + 1) fb) (40 + M2 2 * 4 + 2) pe) (40 + M2 2 * 4 + 3) le) 2 (M2 2 + 1)) j = M2 j := fun j h1 h2 => by rw [upN_ne h1, upN_ne (by omega), upN_ne (by omega), upN_ne (by omega), upN_ne (by omega)]
          have hI3 : INV (upN (upN (upN (upN (upN M2 (40 + M2 2 * 4) fa) (40 + M2 2 * 4 + 1) fb) (40 + M2 2 * 4 + 2) pe) (40 + M2 2 * 4 + 3) le) 2 (M2 2 + 1)) := as_inv hI2 (by omega) (by omega) (by omega) (by omega) (by omega)
          have hE3 : llE q (upN (upN (upN (upN (upN M2 (40 + M2 2 * 4) fa) (40 + M2 2 * 4 + 1) fb) (40 + M2 2 * 4 + 2) pe) (40 + M2 2 * 4 + 3) le) 2 (M2 2 + 1)) V265 := Or.inr ⟨m2, by rw [c11]; show _ = (upN (upN (upN (upN (upN M2 (40 + M2 2 * 4) fa) (40 + M2 2 * 4 + 1) fb) (40 + M2 2 * 4 + 2) pe) (40 + M2 2 * 4 + 3) le) 2 (M2 2 + 1)) (40 + 0 * 4 + 0); rw [upN_ne (by decide), upN_ne (by omega), upN_ne (by omega), upN_ne (by omega), show (40 + 0 * 4 + 0 : Int) = 40 + M2 2 * 4 by omega, upN_eq], by rw [c12]; show _ = (upN (upN (upN (upN (upN M2 (40 + M2 2 * 4) fa) (40 + M2 2 * 4 + 1) fb) (40 + M2 2 * 4 + 2) pe) (40 + M2 2 * 4 + 3) le) 2 (M2 2 + 1)) (40 + 0 * 4 + 1); rw [upN_ne (by decide), upN_ne (by omega), upN_ne (by omega), show (40 + 0 * 4 + 1 : Int) = 40 + M2 2 * 4 + 1 by omega, upN_eq], by rw [c13]; show _ = (upN (upN (upN (upN (upN M2 (40 + M2 2 * 4) fa) (40 + M2 2 * 4 + 1) fb) (40 + M2 2 * 4 + 2) pe) (40 + M2 2 * 4 + 3) le) 2 (M2 2 + 1)) (40 + 0 * 4 + 2); rw [upN_ne (by decide), upN_ne (by omega), show (40 + 0 * 4 + 2 : Int) = 40 + M2 2 * 4 + 2 by omega, upN_eq], by rw [c14]; show _ = (upN (upN (upN (upN (upN M2 (40 + M2 2 * 4) fa) (40 + M2 2 * 4 + 1) fb) (40 + M2 2 * 4 + 2) pe) (40 + M2 2 * 4 + 3) le) 2 (M2 2 + 1)) (40 + 0 * 4 + 3); rw [upN_ne (by decide), show (40 + 0 * 4 + 3 : Int) = 40 + M2 2 * 4 + 3 by omega, upN_eq]⟩
          have hL265 : LB q w (upN (upN (upN (upN (upN M2 (40 + M2 2 * 4) fa) (40 + M2 2 * 4 + 1) fb) (40 + M2 2 * 4 + 2) pe) (40 + M2 2 * 4 + 3) le) 2 (M2 2 + 1)) _ V265 := LB_s4 (by omega) mj hL261 e265 (by decide) hE3
          have hW265 : LW q w (upN (upN (upN (upN (upN M2 (40 + M2 2 * 4) fa) (40 + M2 2 * 4 + 1) fb) (40 + M2 2 * 4 + 2) pe) (40 + M2 2 * 4 + 3) le) 2 (M2 2 + 1)) V265 := LW_q (by omega) hL261 e265 (by decide) (mj 7 (by decide) (by decide)) (fun j _ _ => mj j (by omega) (by omega)) hW261
          have hx265 := XR_r (w := w) hx261 hI2 hL261 e265 (Or.inl rfl)
          have m0 := mj 0 (by decide) (by decide)
          have m1 := mj 1 (by decide) (by decide)
          have m5 := mj 5 (by decide) (by decide)
          have m7 := mj 7 (by decide) (by decide)
          have m13 := mj 13 (by decide) (by decide)
          have m14 := mj 14 (by decide) (by decide)
          have m15 := mj 15 (by decide) (by decide)
          have m16 := mj 16 (by decide) (by decide)
          have m31 := mj 31 (by decide) (by decide)
          have m34 := mj 34 (by decide) (by decide)
          have hLI3 : LI 0 (upN (upN (upN (upN (upN M2 (40 + M2 2 * 4) fa) (40 + M2 2 * 4 + 1) fb) (40 + M2 2 * 4 + 2) pe) (40 + M2 2 * 4 + 3) le) 2 (M2 2 + 1)) := LI_0 hI3 (by omega) (fun j h1 h2 => by rw [mj j (by omega) (by omega)]; exact hj2 j h1 h2)
          refine gB hC _ _ _ _ _ _ _ qL_begins_268 rfl ?_
          refine g_getr hC dL_begins_269 fL_10 hL265.sL (by decide) rfl 0 rfl hL265.p0 ?_
          refine gB hC _ _ _ _ _ _ _ qL_begins_272 rfl ?_
          refine g_getiv hC dL_begins_273 fL_71 hL265.sL (by decide) rfl 11 rfl c11 (fun i273 => ?_)
          refine gB hC _ _ _ _ _ _ _ qL_begins_276 rfl ?_
          refine g_getiv hC dL_begins_277 fL_74 hL265.sL (by decide) rfl 12 rfl c12 (fun i277 => ?_)
          refine gB hC _ _ _ _ _ _ _ qL_begins_280 rfl ?_
          refine g_getiv hC dL_begins_281 fL_88 hL265.sL (by decide) rfl 13 rfl c13 (fun i281 => ?_)
          refine gB hC _ _ _ _ _ _ _ qL_begins_284 rfl ?_
          refine g_getiv hC dL_begins_285 fL_68 hL265.sL (by decide) rfl 14 rfl c14 (fun i285 => ?_)
          refine g_cV1e hC dL_begins_288 mL_214 vX11_addSeason (xaddSeason hx265 hI2 ⟨by omega, by omega, hfa9.2⟩ ⟨by omega, by omega, hfb9.2⟩ (by omega) (by omega) (by omega)) rfl hL265.sX (by decide) rfl (Nat.le_of_ble_eq_true rfl) (RSL rfl rfl (by dsimp only [rmk]; omega) (by dsimp only [rmk]; omega)) (fun z V288 e288 => ?_)
          have hx288 := e288.1
          have hL288 := LB_x (by omega) hL265 e288.2
          have hW288 := LW_x (by omega) hL265 e288.2 hW265
          refine g_if_ne hC 298 dL_begins_291 rfl (by first | omega | exact cmpZ_in _ _ | exact bI_in _) (fun c291 => ?_) (fun c291 => ?_)
          · exact absurd (by omega) c291 --stop
          · refine gB hC _ _ _ _ _ _ _ qL_begins_294 rfl ?_
            refine g_zreturn hC dL_begins_299 hr ?_ (gAct_mk (hLI3) hx288 hL288 hW288) gs_rfl ⟨(by dsimp only [rmk]; omega), (by dsimp only [rmk]; omega)⟩
            exact Or.inr rfl
        · refine gB hC _ _ _ _ _ _ _ qL_begins_211 rfl ?_
          obtain ⟨fb, hfb⟩ : ∃ x : Int, x = 110 := ⟨_, rfl⟩
          have hfb9 : (101 ≤ fb ∧ fb ≤ 1231) ∧ dayZ (20000000 + fb) ≠ -1 := by rw [hfb]; exact by decide
          refine g_st0 fb hfb.symm ?_
          refine g_puti hC dL_begins_234 fL_74 hL205.sL (by decide) rfl (fun _ h => by cases h; rfl) 12 rfl (by first | omega | exact cmpZ_in _ _ | exact bI_in _) (fun V234 e234 => ?_)
          have hq234 : V234 q = (upN (upN (V188 q) 11 fa) 12 fb) := by rw [e234, up_self, hq205]
          have hL234 : LB q w M2 _ V234 := LB_s3 (by omega) (by omega) hL205 e234 (by decide)
          have hW234 : LW q w M2 V234 := LW_q (by omega) hL205 e234 (by decide) rfl (fun j _ _ => rfl) hW205
          have hx234 := XR_r (w := w) hx205 hI2 hL205 e234 (Or.inl rfl)
          refine gB hC _ _ _ _ _ _ _ qL_begins_237 rfl ?_
          refine g_getr hC dL_begins_239 fL_52 hL234.sL (by decide) rfl 1 rfl hL234.p1 ?_
          refine gB hC _ _ _ _ _ _ _ qL_begins_242 rfl ?_
          refine g_dice hC dL_begins_245 mL_147 vX12_next (kX12_next hL234.sD (by omega) (by omega)) rfl hL234.sD (by decide) rfl (Nat.le_of_ble_eq_true rfl) (RSL rfl rfl (by dsimp only [rmk]; omega) (by dsimp only [rmk]; omega)) (fun zd245 y245 s245 V245 l245 u245 e245 => ?_)
          have hL245 := LB_dc (by omega) hL234 e245
          have hW245 := LW_dc (by omega) hL234 e245 hW234
          have hx245 := XR_dc (w := w) hx234 hI2 e245
          have hq245 : V245 q = (upN (upN (V188 q) 11 fa) 12 fb) := by rw [e245, up_row _ _ _ (by omega)]; exact hq234
          refine gB hC _ _ _ _ _ _ _ qL_begins_248 rfl ?_
          obtain ⟨pe, hpe⟩ : ∃ x : Int, x = (y245 - 50) := ⟨_, rfl⟩
          
          refine g_st0 pe hpe.symm ?_
          refine g_puti hC dL_begins_251 fL_88 hL245.sL (by decide) rfl (fun _ h => by cases h; rfl) 13 rfl (by first | omega | exact cmpZ_in _ _ | exact bI_in _) (fun V251 e251 => ?_)
          have hq251 : V251 q = (upN (upN (upN (V188 q) 11 fa) 12 fb) 13 pe) := by rw [e251, up_self, hq245]
          have hL251 : LB q w M2 _ V251 := LB_s3 (by omega) (by omega) hL245 e251 (by decide)
          have hW251 : LW q w M2 V251 := LW_q (by omega) hL245 e251 (by decide) rfl (fun j _ _ => rfl) hW245
          have hx251 := XR_r (w := w) hx245 hI2 hL245 e251 (Or.inl rfl)
          refine gB hC _ _ _ _ _ _ _ qL_begins_254 rfl ?_
          refine g_getr hC dL_begins_257 fL_52 hL251.sL (by decide) rfl 1 rfl hL251.p1 ?_
          refine gB hC _ _ _ _ _ _ _ qL_begins_260 rfl ?_
          refine g_dice hC dL_begins_261 mL_147 vX12_next (kX12_next hL251.sD (by omega) (by omega)) rfl hL251.sD (by decide) rfl (Nat.le_of_ble_eq_true rfl) (RSL rfl rfl (by dsimp only [rmk]; omega) (by dsimp only [rmk]; omega)) (fun zd261 y261 s261 V261 l261 u261 e261 => ?_)
          have hL261 := LB_dc (by omega) hL251 e261
          have hW261 := LW_dc (by omega) hL251 e261 hW251
          have hx261 := XR_dc (w := w) hx251 hI2 e261
          have hq261 : V261 q = (upN (upN (upN (V188 q) 11 fa) 12 fb) 13 pe) := by rw [e261, up_row _ _ _ (by omega)]; exact hq251
          refine gB hC _ _ _ _ _ _ _ qL_begins_264 rfl ?_
          obtain ⟨le, hle⟩ : ∃ x : Int, x = (1 + y261) := ⟨_, rfl⟩
          
          refine g_st0 le hle.symm ?_
          refine g_puti hC dL_begins_265 fL_68 hL261.sL (by decide) rfl (fun _ h => by cases h; rfl) 14 rfl (by first | omega | exact cmpZ_in _ _ | exact bI_in _) (fun V265 e265 => ?_)
          have hq265 : V265 q = upN (upN (upN (upN (V188 q) 11 fa) 12 fb) 13 pe) 14 le := by rw [e265, up_self, hq261]
          have c11 : V265 q 11 = fa := by rw [hq265, upN_ne (by decide), upN_ne (by decide), upN_ne (by decide), upN_eq]
          have c12 : V265 q 12 = fb := by rw [hq265, upN_ne (by decide), upN_ne (by decide), upN_eq]
          have c13 : V265 q 13 = pe := by rw [hq265, upN_ne (by decide), upN_eq]
          have c14 : V265 q 14 = le := by rw [hq265, upN_eq]
          have m2 : (upN (upN (upN (upN (upN M2 (40 + M2 2 * 4) fa) (40 + M2 2 * 4 + 1) fb) (40 + M2 2 * 4 + 2) pe) (40 + M2 2 * 4 + 3) le) 2 (M2 2 + 1)) 2 = 1 := by rw [upN_eq]; omega
          have mj : ∀ j, j ≠ 2 → (j < 40 ∨ 44 ≤ j) → (upN (upN (upN (upN (upN M2 (40 + M2 2 * 4) fa) (40 + M2 2 * 4 + 1) fb) (40 + M2 2 * 4 + 2) pe) (40 + M2 2 * 4 + 3) le) 2 (M2 2 + 1)) j = M2 j := fun j h1 h2 => by rw [upN_ne h1, upN_ne (by omega), upN_ne (by omega), upN_ne (by omega), upN_ne (by omega)]
          have hI3 : INV (upN (upN (upN (upN (upN M2 (40 + M2 2 * 4) fa) (40 + M2 2 * 4 + 1) fb) (40 + M2 2 * 4 + 2) pe) (40 + M2 2 * 4 + 3) le) 2 (M2 2 + 1)) := as_inv hI2 (by omega) (by omega) (by omega) (by omega) (by omega)
          have hE3 : llE q (upN (upN (upN (upN (upN M2 (40 + M2 2 * 4) fa) (40 + M2 2 * 4 + 1) fb) (40 + M2 2 * 4 + 2) pe) (40 + M2 2 * 4 + 3) le) 2 (M2 2 + 1)) V265 := Or.inr ⟨m2, by rw [c11]; show _ = (upN (upN (upN (upN (upN M2 (40 + M2 2 * 4) fa) (40 + M2 2 * 4 + 1) fb) (40 + M2 2 * 4 + 2) pe) (40 + M2 2 * 4 + 3) le) 2 (M2 2 + 1)) (40 + 0 * 4 + 0); rw [upN_ne (by decide), upN_ne (by omega), upN_ne (by omega), upN_ne (by omega), show (40 + 0 * 4 + 0 : Int) = 40 + M2 2 * 4 by omega, upN_eq], by rw [c12]; show _ = (upN (upN (upN (upN (upN M2 (40 + M2 2 * 4) fa) (40 + M2 2 * 4 + 1) fb) (40 + M2 2 * 4 + 2) pe) (40 + M2 2 * 4 + 3) le) 2 (M2 2 + 1)) (40 + 0 * 4 + 1); rw [upN_ne (by decide), upN_ne (by omega), upN_ne (by omega), show (40 + 0 * 4 + 1 : Int) = 40 + M2 2 * 4 + 1 by omega, upN_eq], by rw [c13]; show _ = (upN (upN (upN (upN (upN M2 (40 + M2 2 * 4) fa) (40 + M2 2 * 4 + 1) fb) (40 + M2 2 * 4 + 2) pe) (40 + M2 2 * 4 + 3) le) 2 (M2 2 + 1)) (40 + 0 * 4 + 2); rw [upN_ne (by decide), upN_ne (by omega), show (40 + 0 * 4 + 2 : Int) = 40 + M2 2 * 4 + 2 by omega, upN_eq], by rw [c14]; show _ = (upN (upN (upN (upN (upN M2 (40 + M2 2 * 4) fa) (40 + M2 2 * 4 + 1) fb) (40 + M2 2 * 4 + 2) pe) (40 + M2 2 * 4 + 3) le) 2 (M2 2 + 1)) (40 + 0 * 4 + 3); rw [upN_ne (by decide), show (40 + 0 * 4 + 3 : Int) = 40 + M2 2 * 4 + 3 by omega, upN_eq]⟩
          have hL265 : LB q w (upN (upN (upN (upN (upN M2 (40 + M2 2 * 4) fa) (40 + M2 2 * 4 + 1) fb) (40 + M2 2 * 4 + 2) pe) (40 + M2 2 * 4 + 3) le) 2 (M2 2 + 1)) _ V265 := LB_s4 (by omega) mj hL261 e265 (by decide) hE3
          have hW265 : LW q w (upN (upN (upN (upN (upN M2 (40 + M2 2 * 4) fa) (40 + M2 2 * 4 + 1) fb) (40 + M2 2 * 4 + 2) pe) (40 + M2 2 * 4 + 3) le) 2 (M2 2 + 1)) V265 := LW_q (by omega) hL261 e265 (by decide) (mj 7 (by decide) (by decide)) (fun j _ _ => mj j (by omega) (by omega)) hW261
          have hx265 := XR_r (w := w) hx261 hI2 hL261 e265 (Or.inl rfl)
          have m0 := mj 0 (by decide) (by decide)
          have m1 := mj 1 (by decide) (by decide)
          have m5 := mj 5 (by decide) (by decide)
          have m7 := mj 7 (by decide) (by decide)
          have m13 := mj 13 (by decide) (by decide)
          have m14 := mj 14 (by decide) (by decide)
          have m15 := mj 15 (by decide) (by decide)
          have m16 := mj 16 (by decide) (by decide)
          have m31 := mj 31 (by decide) (by decide)
          have m34 := mj 34 (by decide) (by decide)
          have hLI3 : LI 0 (upN (upN (upN (upN (upN M2 (40 + M2 2 * 4) fa) (40 + M2 2 * 4 + 1) fb) (40 + M2 2 * 4 + 2) pe) (40 + M2 2 * 4 + 3) le) 2 (M2 2 + 1)) := LI_0 hI3 (by omega) (fun j h1 h2 => by rw [mj j (by omega) (by omega)]; exact hj2 j h1 h2)
          refine gB hC _ _ _ _ _ _ _ qL_begins_268 rfl ?_
          refine g_getr hC dL_begins_269 fL_10 hL265.sL (by decide) rfl 0 rfl hL265.p0 ?_
          refine gB hC _ _ _ _ _ _ _ qL_begins_272 rfl ?_
          refine g_getiv hC dL_begins_273 fL_71 hL265.sL (by decide) rfl 11 rfl c11 (fun i273 => ?_)
          refine gB hC _ _ _ _ _ _ _ qL_begins_276 rfl ?_
          refine g_getiv hC dL_begins_277 fL_74 hL265.sL (by decide) rfl 12 rfl c12 (fun i277 => ?_)
          refine gB hC _ _ _ _ _ _ _ qL_begins_280 rfl ?_
          refine g_getiv hC dL_begins_281 fL_88 hL265.sL (by decide) rfl 13 rfl c13 (fun i281 => ?_)
          refine gB hC _ _ _ _ _ _ _ qL_begins_284 rfl ?_
          refine g_getiv hC dL_begins_285 fL_68 hL265.sL (by decide) rfl 14 rfl c14 (fun i285 => ?_)
          refine g_cV1e hC dL_begins_288 mL_214 vX11_addSeason (xaddSeason hx265 hI2 ⟨by omega, by omega, hfa9.2⟩ ⟨by omega, by omega, hfb9.2⟩ (by omega) (by omega) (by omega)) rfl hL265.sX (by decide) rfl (Nat.le_of_ble_eq_true rfl) (RSL rfl rfl (by dsimp only [rmk]; omega) (by dsimp only [rmk]; omega)) (fun z V288 e288 => ?_)
          have hx288 := e288.1
          have hL288 := LB_x (by omega) hL265 e288.2
          have hW288 := LW_x (by omega) hL265 e288.2 hW265
          refine g_if_ne hC 298 dL_begins_291 rfl (by first | omega | exact cmpZ_in _ _ | exact bI_in _) (fun c291 => ?_) (fun c291 => ?_)
          · exact absurd (by omega) c291 --stop
          · refine gB hC _ _ _ _ _ _ _ qL_begins_294 rfl ?_
            refine g_zreturn hC dL_begins_299 hr ?_ (gAct_mk (hLI3) hx288 hL288 hW288) gs_rfl ⟨(by dsimp only [rmk]; omega), (by dsimp only [rmk]; omega)⟩
            exact Or.inr rfl
      · refine gB hC _ _ _ _ _ _ _ qL_begins_175 rfl ?_
        refine g_zreturn hC dL_begins_176 hr ?_ (gAct_mk (hLI2) hx169 hL169 hW169) gs_rfl ⟨(by dsimp only [rmk]; omega), (by dsimp only [rmk]; omega)⟩
        exact Or.inr rfl
    · exact absurd hlo.2.2.2.2.1 c159 --stop
  · have hdz := dateZ_in (d := 8822 + (n : Int)) (by omega) (by omega)
    have hdd := dayZ_dateZ (d := 8822 + (n : Int)) (by omega) (by omega)
    have hdn : dayZ (dateZ (8822 + (n : Int))) ≠ -1 := by rw [hdd]; omega
    have hwi : 1 ≤ wdZ (8822 + (n : Int)) ∧ wdZ (8822 + (n : Int)) ≤ 7 ∧ 1 ≤ wdZ (8822 + ((n : Int) - 1)) ∧ wdZ (8822 + ((n : Int) - 1)) ≤ 7 ∧ wdZ (8822 + (n : Int)) = wdZ (8822 + ((n : Int) - 1)) % 7 + 1 := by unfold wdZ; omega
    refine gB hC _ _ _ _ _ _ _ qL_begins_11 rfl ?_
    refine g_getr hC dL_begins_12 fL_16 hL1.sL (by decide) rfl 2 rfl (dFp (by omega) (by omega) hL1.p2) ?_
    refine gB hC _ _ _ _ _ _ _ qL_begins_15 rfl ?_
    refine g_getr hC dL_begins_17 fL_10 hL1.sL (by decide) rfl 0 rfl (dFp (by omega) (by omega) hL1.p0) ?_
    refine g_ldc hC 20240226 kL_204 rfl dL_begins_20 ?_
    refine gB hC _ _ _ _ _ _ _ qL_begins_22 rfl ?_
    refine g_cV1i hC dL_begins_23 mL_205 vX11_addDays (kX11_addDays0 hx1 hI0 (by omega) (by rw [hd0]; decide) (by omega) (by rw [hd0]; omega) (by rw [hd0]; omega)) rfl hL1.sX (by decide) rfl (Nat.le_of_ble_eq_true rfl) (RSL rfl rfl (by dsimp only [rmk]; omega) (by dsimp only [rmk]; omega)) (fun z i23 => ?_)
    rw [hd0] at i23 ⊢
    refine g_ast hC dL_begins_26 hL1.sdt (by omega) (by omega) (by decide) (by first | omega | exact cmpZ_in _ _ | exact bI_in _) (fun V26 e26 => ?_)
    have hL26 : LB q w N Sh (dF w V26) := by rw [dF_u0 e26]; exact hL1
    have hx26 := XR_r0 hx1 hI0 hqw e26 (Or.inr (by omega))
    refine gB hC _ _ _ _ _ _ _ qL_begins_27 rfl ?_
    refine g_getr hC dL_begins_28 fL_20 hL26.sL (by decide) rfl 3 rfl (dFp (by omega) (by omega) hL26.p3) ?_
    refine gB hC _ _ _ _ _ _ _ qL_begins_31 rfl ?_
    refine g_getr hC dL_begins_33 fL_10 hL26.sL (by decide) rfl 0 rfl (dFp (by omega) (by omega) hL26.p0) ?_
    refine gB hC _ _ _ _ _ _ _ qL_begins_36 rfl ?_
    refine g_getr hC dL_begins_37 fL_16 hL26.sL (by decide) rfl 2 rfl (dFp (by omega) (by omega) hL26.p2) ?_
    refine gB hC _ _ _ _ _ _ _ qL_begins_40 rfl ?_
    refine g_iald hC dL_begins_41 hL26.sdt (show V26 w (n : Int) = dateZ (8822 + (n : Int)) by rw [e26, up_eq]) (by omega) (by omega) (by decide) (fun i41 => ?_)
    refine g_cV1i hC dL_begins_42 mL_208 vX11_dayOfWeek (kX11_dayOfWeek0 hx26 hI0 (by omega) hdn) rfl hL26.sX (by decide) rfl (Nat.le_of_ble_eq_true rfl) (RSL rfl rfl (by dsimp only [rmk]; omega) (by dsimp only [rmk]; omega)) (fun z i42 => ?_)
    rw [hdd] at i42 ⊢
    refine g_ast hC dL_begins_45 hL26.swk (by omega) (by omega) (by decide) (by first | omega | exact cmpZ_in _ _ | exact bI_in _) (fun V45 e45 => ?_)
    have hL45 : LB q w N Sh (dF w V45) := by rw [dF_u1 e45]; exact hL26
    have hx45 := XR_r0 hx26 hI0 hqw e45 (Or.inr (by omega))
    refine gB hC _ _ _ _ _ _ _ qL_begins_46 rfl ?_
    refine g_if_le hC 111 dL_begins_47 rfl (by first | omega | exact cmpZ_in _ _ | exact bI_in _) (fun c47 => ?_) (fun c47 => ?_)
    · refine gB hC _ _ _ _ _ _ _ qL_begins_111 rfl ?_
      refine ih (V45, n + 1) _ ⟨hx45, hL45, by show V45 q 20 = 0; rw [e45, up_row _ _ _ (by omega), e26, up_row _ _ _ (by omega)]; exact h201, by show n + 1 ≤ 100; omega, fun j j0 j1 => ?_⟩ (by show 100 - (n + 1) < 100 - n; omega)
      have j1 : j < ((n + 1 : Nat) : Int) := j1
      by_cases hj : j = (n : Int)
      · rw [hj]; exact ⟨by show V45 w (n : Int) = _; rw [e45, up_row _ _ _ (by omega), e26, up_eq], by show V45 (w + 1) (n : Int) = _; rw [e45, up_eq]⟩
      · have := hdt j j0 (by omega)
        exact ⟨by show V45 w j = _; rw [e45, up_row _ _ _ (by omega), e26, up_ne _ _ (Or.inr hj)]; exact this.1, by show V45 (w + 1) j = _; rw [e45, up_ne _ _ (Or.inr hj), e26, up_row _ _ _ (by omega)]; exact this.2⟩
    · have hdm := hdt ((n : Int) - 1) (by omega) (by omega)
      have hlt9 := dt_lt (j := (n : Int)) (by omega) (by omega)
      have hdz1 := dateZ_in (d := 8822 + ((n : Int) - 1)) (by omega) (by omega)
      refine gB hC _ _ _ _ _ _ _ qL_begins_50 rfl ?_
      refine g_getr hC dL_begins_51 fL_20 hL45.sL (by decide) rfl 3 rfl (dFp (by omega) (by omega) hL45.p3) ?_
      refine gB hC _ _ _ _ _ _ _ qL_begins_54 rfl ?_
      refine g_iald hC dL_begins_55 hL45.swk (show V45 (w + 1) (n : Int) = wdZ (8822 + (n : Int)) by rw [e45, up_eq]) (by omega) (by omega) (by decide) (fun i55 => ?_)
      refine gB hC _ _ _ _ _ _ _ qL_begins_56 rfl ?_
      refine g_getr hC dL_begins_57 fL_20 hL45.sL (by decide) rfl 3 rfl (dFp (by omega) (by omega) hL45.p3) ?_
      refine gB hC _ _ _ _ _ _ _ qL_begins_60 rfl ?_
      refine g_iald hC dL_begins_63 hL45.swk (show V45 (w + 1) ((n : Int) - 1) = wdZ (8822 + ((n : Int) - 1)) by rw [e45, up_ne _ _ (Or.inr (by omega)), e26, up_row _ _ _ (by omega)]; exact hdm.2) (by omega) (by omega) (by decide) (fun i63 => ?_)
      refine gB hC _ _ _ _ _ _ _ qL_begins_64 rfl ?_
      refine g_irem hC dL_begins_66 (by first | omega | exact cmpZ_in _ _ | exact bI_in _) (by first | omega | exact cmpZ_in _ _ | exact bI_in _) (by omega) (by omega) ?_
      refine gB hC _ _ _ _ _ _ _ qL_begins_67 rfl ?_
      refine g_icmp_ne hC 109 dL_begins_69 rfl (by first | omega | exact cmpZ_in _ _ | exact bI_in _) (by first | omega | exact cmpZ_in _ _ | exact bI_in _) (fun c69 => ?_) (fun c69 => ?_)
      · exact absurd hwi.2.2.2.2 c69 --stop
      · refine gB hC _ _ _ _ _ _ _ qL_begins_72 rfl ?_
        refine g_getr hC dL_begins_73 fL_16 hL45.sL (by decide) rfl 2 rfl (dFp (by omega) (by omega) hL45.p2) ?_
        refine gB hC _ _ _ _ _ _ _ qL_begins_76 rfl ?_
        refine g_iald hC dL_begins_77 hL45.sdt (show V45 w (n : Int) = dateZ (8822 + (n : Int)) by rw [e45, up_row _ _ _ (by omega), e26, up_eq]) (by omega) (by omega) (by decide) (fun i77 => ?_)
        refine gB hC _ _ _ _ _ _ _ qL_begins_78 rfl ?_
        refine g_getr hC dL_begins_79 fL_16 hL45.sL (by decide) rfl 2 rfl (dFp (by omega) (by omega) hL45.p2) ?_
        refine gB hC _ _ _ _ _ _ _ qL_begins_82 rfl ?_
        refine g_iald hC dL_begins_85 hL45.sdt (show V45 w ((n : Int) - 1) = dateZ (8822 + ((n : Int) - 1)) by rw [e45, up_row _ _ _ (by omega), e26, up_ne _ _ (Or.inr (by omega))]; exact hdm.1) (by omega) (by omega) (by decide) (fun i85 => ?_)
        refine g_icmp_le hC 109 dL_begins_86 rfl (by first | omega | exact cmpZ_in _ _ | exact bI_in _) (by first | omega | exact cmpZ_in _ _ | exact bI_in _) (fun c86 => ?_) (fun c86 => ?_)
        · exact absurd c86 (by omega) --stop
        · refine gB hC _ _ _ _ _ _ _ qL_begins_89 rfl ?_
          refine g_getr hC dL_begins_90 fL_10 hL45.sL (by decide) rfl 0 rfl (dFp (by omega) (by omega) hL45.p0) ?_
          refine gB hC _ _ _ _ _ _ _ qL_begins_93 rfl ?_
          refine g_getr hC dL_begins_94 fL_16 hL45.sL (by decide) rfl 2 rfl (dFp (by omega) (by omega) hL45.p2) ?_
          refine gB hC _ _ _ _ _ _ _ qL_begins_97 rfl ?_
          refine g_iald hC dL_begins_98 hL45.sdt (show V45 w (n : Int) = dateZ (8822 + (n : Int)) by rw [e45, up_row _ _ _ (by omega), e26, up_eq]) (by omega) (by omega) (by decide) (fun i98 => ?_)
          refine gB hC _ _ _ _ _ _ _ qL_begins_99 rfl ?_
          refine g_ineg hC dL_begins_100 ?_
          refine g_cV1i hC dL_begins_101 mL_205 vX11_addDays (kX11_addDays0 hx45 hI0 (by omega) hdn (by omega) (by rw [hdd]; omega) (by rw [hdd]; omega)) rfl hL45.sX (by decide) rfl (Nat.le_of_ble_eq_true rfl) (RSL rfl rfl (by dsimp only [rmk]; omega) (by dsimp only [rmk]; omega)) (fun z i101 => ?_)
          rw [hdd, show (8822 : Int) + (n : Int) + -(n : Int) = 8822 by omega, hd1] at i101
          rw [hdd, show (8822 : Int) + (n : Int) + -(n : Int) = 8822 by omega, hd1]
          refine g_ldc hC 20240226 kL_204 rfl dL_begins_104 ?_
          refine g_icmp_eq hC 111 dL_begins_106 rfl (by first | omega | exact cmpZ_in _ _ | exact bI_in _) (by first | omega | exact cmpZ_in _ _ | exact bI_in _) (fun c106 => ?_) (fun c106 => ?_)
          · refine gB hC _ _ _ _ _ _ _ qL_begins_111 rfl ?_
            refine ih (V45, n + 1) _ ⟨hx45, hL45, by show V45 q 20 = 0; rw [e45, up_row _ _ _ (by omega), e26, up_row _ _ _ (by omega)]; exact h201, by show n + 1 ≤ 100; omega, fun j j0 j1 => ?_⟩ (by show 100 - (n + 1) < 100 - n; omega)
            have j1 : j < ((n + 1 : Nat) : Int) := j1
            by_cases hj : j = (n : Int)
            · rw [hj]; exact ⟨by show V45 w (n : Int) = _; rw [e45, up_row _ _ _ (by omega), e26, up_eq], by show V45 (w + 1) (n : Int) = _; rw [e45, up_eq]⟩
            · have := hdt j j0 (by omega)
              exact ⟨by show V45 w j = _; rw [e45, up_row _ _ _ (by omega), e26, up_ne _ _ (Or.inr hj)]; exact this.1, by show V45 (w + 1) j = _; rw [e45, up_ne _ _ (Or.inr hj), e26, up_row _ _ _ (by omega)]; exact this.2⟩
          · exact absurd rfl c106 --stop
