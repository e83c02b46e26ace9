/-! the law: a day passes (rows laid by wip/p47/l12.py) -/
theorem LI_odI {m : Int} {N : gN0} (h : LI m N) (t : Nat) (ht : (t : Int) ≤ N 5) : LI m (odI N t) := by
  have e5 := (odE_inv h.1 t ht).2 5 (by decide)
  rw [odI_eq h.1 t ht]
  exact LI_odH (LI_odE h t ht) t (by omega)
theorem odI_ag {N : gN0} (h : INV N) (t : Nat) (ht : (t : Int) ≤ N 5) : AgK N (odI N t) := by
  have h1 := odE_inv h t ht
  have e5 := h1.2 5 (by decide)
  rw [odI_eq h t ht]
  exact h1.2.tr (odH_inv h1.1 t (by omega)).2
theorem sPr_eq {N M : gN0} {s : Int} (h : ∀ j, 3 ≤ j → sF M s j = sF N s j) : sPr M s = sPr N s := by
  unfold sPr
  rw [h 3 (by decide)]
  exact prT_eq _ (fun i i0 _ => h _ (by omega))
theorem enN_eq {N : gN0} {s a b c d : Int} (h0 : 0 ≤ s) (ha : a = N 10 - sF N s 6) (hb : b = N 9 - (sPr N s + sTx N s - sF N s 6)) (hc : c = N 11 + sPr N s) (hd : d = N 12 + sTx N s) : upN (upN (upN (upN (upN N (56 + s * 24 + 0) 4) (9 + 1) a) (9 + 0) b) (9 + 2) c) (9 + 3) d = enN N s := by
  subst ha hb hc hd
  unfold enN
  rw [upN_comm N (by omega), upN_comm _ (a := 56 + s * 24 + 0) (by omega), upN_comm _ (a := 56 + s * 24 + 0) (by omega), upN_comm _ (a := 56 + s * 24 + 0) (by omega)]
  rfl
theorem sOk_9 {N : gN0} {s j x : Int} (h : sOk N s) (h0 : 0 ≤ s) (hj : 9 ≤ j ∧ j ≤ 12) : sOk (upN N j x) s := by
  have e : ∀ w, 0 ≤ w → sF (upN N j x) s w = sF N s w := fun w _ => upN_ne (by omega)
  have e1 : upN N j x 1 = N 1 := upN_ne (by omega)
  unfold sOk at h ⊢
  rw [e1, e 0 (by decide), e 1 (by decide), e 2 (by decide), e 3 (by decide), e 4 (by decide), e 5 (by decide), e 6 (by decide), e 7 (by decide), e 8 (by decide), e 9 (by decide)]
  exact ⟨h.1, fun n a b => by rw [e _ (by omega)]; exact h.2 n a b⟩
theorem InvC_9 {N : gN0} {s j x : Int} (h : InvC N) (h0 : 0 ≤ s) (h1 : s < N 5) (hj : 9 ≤ j ∧ j ≤ 12) : InvC (upN N j x) := by
  have hsc := h.1
  unfold iScal at hsc
  exact InvC_s (fun i i1 i2 => upN_ne (by omega)) h0 (by omega) h (sOk_9 (h.2.2.2.1 s h0 h1) h0 hj)
theorem sdN_eq (N : gN0) {s : Int} (h0 : 0 ≤ s) : upN (upN (upN N (56 + s * 24 + 0) 3) (9 + 1) (N 10 - sF N s 6)) (9 + 0) (N 9 + sF N s 6) = sdN N s := by
  unfold sdN mvN
  rw [upN_comm N (by omega), upN_comm _ (a := 56 + s * 24 + 0) (by omega)]
  congr 2
theorem LB_td {q w x : Int} {N : gN0} {Sh : gSh} {V V' : gV} (hI : InvC N) (H : LB q w N Sh V) (e : V' = up V q 4 x) (hx : x = N 0 + 1 - 8822) : LB q w (od0 N) Sh V' := by
  have hsc := hI.1
  unfold iScal at hsc
  have hv := H.2.2.2.2.2.1
  unfold od0
  refine LB_q (by omega) H e (by omega) ?_ (upN_ne (by decide)) (upN_ne (by decide)) (fun j hj => upN_ne (by omega)) (fun s s0 s1 => by have := (hI.2.2.2.1 s s0 s1).1; omega)
  unfold llV at hv ⊢
  rw [e, up_eq, up_ne _ _ (Or.inr (by decide)), up_ne _ _ (Or.inr (by decide)), up_ne _ _ (Or.inr (by decide)), up_ne _ _ (Or.inr (by decide)), up_ne _ _ (Or.inr (by decide)), upN_eq, upN_ne (by decide), upN_ne (by decide), upN_ne (by decide), upN_ne (by decide), upN_ne (by decide), hx]
  exact ⟨rfl, hv.2⟩
theorem LW_K {q w : Int} {N M : gN0} {V : gV} (h : AgK N M) (h20 : N 7 ≤ 20) (H : LW q w N V) : LW q w M V := LW_N (h 7 (by decide)) h20 (fun j _ _ => h j (by omega)) H

theorem kL_passes {E l Sh V z} {q w n : Int} {N : gN0} {P9 : Int → gN0} {c9 : Int} (hLI : LI n N) (hn : 0 ≤ n ∧ n ≤ 40) (hx : XR (q + 2) N P9 c9 Sh V) (hL : LB q w N Sh V) (hW : LW q w N V) : gM E l yL_passes (.code yL_passes cL_passes 4 (some .boolean)) (rmk 24 400 4000 900) [(2, q)] Sh V z (gAct q w (n + 1)) := by
  refine gM_at (L0 := [(2, q), (9, 0), (9, 0), (9, 0)]) rfl rfl rfl ?_
  intro p e s m args below meth c hC hr hex hnm hz
  have hI0 := hLI.1
  have hI := hI0.1
  have hsc := hI.1
  unfold iScal at hsc
  have hqw := hL.a0
  have hl1 := hLI.2.1
  have hgb := LI.gb hLI (by omega)
  refine gB hC _ _ _ _ _ _ _ qL_passes_0 rfl ?_
  refine g_getiv hC dL_passes_2 fL_114 hL.sL (by decide) rfl 4 rfl hL.v4 (fun i2 => ?_)
  refine gB hC _ _ _ _ _ _ _ qL_passes_5 rfl ?_
  refine g_puti hC dL_passes_7 fL_114 hL.sL (by decide) rfl (fun _ h => by cases h; rfl) 4 rfl (by first | omega | exact cmpZ_in _ _ | exact bI_in _) (fun V7 e7 => ?_)
  have hL7 := LB_td hI hL e7 (by omega)
  have hW7 : LW q w (od0 N) V7 := LW_q (by omega) hL e7 (by decide) (upN_ne (by decide)) (fun j _ _ => upN_ne (by omega)) hW
  have hx7 := XR_r (w := w) hx hI0 hL e7 (Or.inl rfl)
  have hLO := LI_od3 hLI (by omega)
  have hLI0 := hLO.1
  have o0 : od0 N 0 = N 0 + 1 := upN_eq _ _ _
  have o5 : od0 N 5 = N 5 := upN_ne (by decide)
  have o7 : od0 N 7 = N 7 := upN_ne (by decide)
  have o1 : od0 N 1 = N 1 := upN_ne (by decide)
  refine gB hC _ _ _ _ _ _ _ qL_passes_10 rfl ?_
  refine g_loop (fun x : gV × Nat × aV × aV => LB q w (odI (od0 N) x.2.1) Sh x.1 ∧ LW q w (od0 N) x.1 ∧ XR (q + 2) N P9 c9 Sh x.1 ∧ (x.2.1 : Int) ≤ N 5) (fun x => (N 5 - x.2.1).toNat) 12 (fun x => [(2, q), (0, (x.2.1 : Int)), x.2.2.1, x.2.2.2]) (fun x => x.1) (V7, 0, (9, 0), (9, 0)) ⟨hL7, hW7, hx7, by show (0 : Int) ≤ N 5; omega⟩ ?_
  rintro ⟨V1, t, a2, a3⟩ z ⟨hL1, hW1, hx1, ht⟩ ih12
  dsimp only at hL1 hW1 hx1 ht ih12 ⊢
  have hLIM := LI_odI hLI0 t (by omega)
  have hMK := odI_ag hLI0.1 t (by omega)
  obtain ⟨M, hM⟩ : ∃ M, M = odI (od0 N) t := ⟨_, rfl⟩
  rw [← hM] at hL1 hLIM hMK
  have hM5 : M 5 = N 5 := (hMK 5 (by decide)).trans o5
  have hM0 : M 0 = N 0 + 1 := (hMK 0 (by decide)).trans o0
  have hIM := hLIM.1.1
  have hsm := hIM.1
  unfold iScal at hsm
  have h3M : H3P M := fun s a b => by have := (hIM.2.2.2.1 s a b).1; omega
  refine gB hC _ _ _ _ _ _ _ qL_passes_12 rfl ?_
  refine g_getiv hC dL_passes_14 fL_56 hL1.sL (by decide) rfl 17 rfl hL1.v17 (fun i14 => ?_)
  refine g_icmp_ge hC 163 dL_passes_17 rfl (by first | omega | exact cmpZ_in _ _ | exact bI_in _) (by first | omega | exact cmpZ_in _ _ | exact bI_in _) (fun c17 => ?_) (fun c17 => ?_)
  · obtain rfl : t = (N 5).toNat := by omega
    have e2 : odI (od0 N) (N 5).toNat = od2 N := odI_eq hLI0.1 _ (by omega)
    rw [hM, e2] at hL1
    refine gB hC _ _ _ _ _ _ _ qL_passes_163 rfl ?_
    refine g_loop (fun x : gV × Nat × aV × aV => LB q w (kdT (od2 N) x.2.1) Sh x.1 ∧ LW q w (od0 N) x.1 ∧ XR (q + 2) N P9 c9 Sh x.1 ∧ x.2.1 ≤ 2) (fun x => 2 - x.2.1) 165 (fun x => [(2, q), (0, (x.2.1 : Int)), x.2.2.1, x.2.2.2]) (fun x => x.1) (V1, 0, a2, a3) ⟨hL1, hW1, hx1, by show (0 : Nat) ≤ 2; decide⟩ ?_
    rintro ⟨V3, k, b2, b3⟩ z ⟨hL3, hW3, hx3, hk⟩ ih165
    dsimp only at hL3 hW3 hx3 hk ih165 ⊢
    have hLIk := LI_kdT hLO.2.1 k (by omega)
    have hOA := od_all hI0 (by omega)
    have hKD := kdT_inv hOA.2.2.1.1 k (by rw [hOA.2.2.1.2 1 (by decide), o1]; omega)
    have hKK := hOA.2.2.1.2.tr hKD.2
    have hIk := hLIk.1.1
    refine gB hC _ _ _ _ _ _ _ qL_passes_165 rfl ?_
    refine g_icmp_ge hC 334 dL_passes_167 rfl (by first | omega | exact cmpZ_in _ _ | exact bI_in _) (by first | omega | exact cmpZ_in _ _ | exact bI_in _) (fun c167 => ?_) (fun c167 => ?_)
    · obtain rfl : k = 2 := by omega
      have e3 : kdT (od2 N) 2 = od3 N := by unfold od3; rw [hLI.2.1.1]; rfl
      rw [e3] at hL3
      have hW3 := LW_K hOA.2.2.2.1.2 (by omega) hW3
      have hdz := dateZ_in (d := N 0 + 1) (by omega) (by omega)
      have h30 : od3 N 0 = N 0 + 1 := (hOA.2.2.2.1.2 0 (by decide)).trans o0
      have hlk0 : (lk (od3 N)).1 0 = N 0 + 1 := (lk_lo hOA.2.2.2.1.1 (by decide) (by decide) (by decide)).trans h30
      refine gB hC _ _ _ _ _ _ _ qL_passes_334 rfl ?_
      refine g_cV1e hC dL_passes_335 mL_170 vL_looks (kL_looks hL3 hW3 (hLO.2.2).1 (hLO.2.2).2.1.2.1 (LI.gb (hLO.2.2) (by omega)) (hLO.2.2).2.1.1) rfl hL3.sL (by decide) rfl (Nat.le_of_ble_eq_true rfl) (RR rfl rfl rfl rfl) (fun z V335 e335 => ?_)
      have hL335 := e335.1
      have hW335 := e335.2.1
      have hx335 := XR_q hx3 hI0 hL3 e335.2.2
      have hLI335 := LI_lk (by omega) (hLO.2.2)
      have hJ335 := hLI335.1
      have hJc335 := hJ335.1
      have hsk335 := hJc335.1
      unfold iScal at hsk335
      refine gB hC _ _ _ _ _ _ _ qL_passes_338 rfl ?_
      refine g_getr hC dL_passes_340 fL_10 hL335.sL (by decide) rfl 0 rfl hL335.p0 ?_
      refine gB hC _ _ _ _ _ _ _ qL_passes_343 rfl ?_
      refine g_cV1e hC dL_passes_344 mL_201 vX11_passes (xpasses hx335 hI0 (by omega)) rfl hL335.sX (by decide) rfl (Nat.le_of_ble_eq_true rfl) (RR rfl rfl rfl rfl) (fun z V344 e344 => ?_)
      have hx344 := e344.1
      have hL344 := LB_x (by omega) hL335 e344.2
      have hW344 := LW_x (by omega) hL335 e344.2 hW335
      refine gB hC _ _ _ _ _ _ _ qL_passes_347 rfl ?_
      refine g_getr hC dL_passes_348 fL_16 hL344.sL (by decide) rfl 2 rfl hL344.p2 ?_
      refine gB hC _ _ _ _ _ _ _ qL_passes_351 rfl ?_
      refine g_getiv hC dL_passes_352 fL_114 hL344.sL (by decide) rfl 4 rfl hL344.v4 (fun i352 => ?_)
      refine g_iald hC dL_passes_355 hL344.sdt (hL344.dt (by omega) (by omega)) (by omega) (by omega) (by decide) (fun i355 => ?_)
      refine g_icmp_ne hC 363 dL_passes_356 rfl (by first | omega | exact cmpZ_in _ _ | exact bI_in _) (by first | omega | exact cmpZ_in _ _ | exact bI_in _) (fun c356 => ?_) (fun c356 => ?_)
      · exact absurd (by rw [hlk0, show (8822 : Int) + (N 0 + 1 - 8822) = N 0 + 1 by omega]) c356 --stop
      · refine gB hC _ _ _ _ _ _ _ qL_passes_359 rfl ?_
        refine g_zreturn hC dL_passes_364 hr ?_ (gAct_mk (hLI335) hx344 hL344 hW344) gs_rfl ⟨Nat.le_of_ble_eq_true rfl, Nat.le_of_ble_eq_true rfl⟩
        exact Or.inr rfl
    · refine g_loop (fun x : gV × Nat × gN0 × aV × aV => LB q w x.2.2.1 Sh x.1 ∧ LW q w (od0 N) x.1 ∧ XR (q + 2) N P9 c9 Sh x.1 ∧ LI (n + 1) x.2.2.1 ∧ AgK (od0 N) x.2.2.1 ∧ whS k x.2.1 x.2.2.1 = kdT (od2 N) (k + 1) ∧ cnt x.2.2.1 k (x.2.2.1 0) ≤ x.2.1) (fun x => x.2.1) 170 (fun x => [(2, q), (0, (k : Int)), x.2.2.2.1, x.2.2.2.2]) (fun x => x.1) (V3, 61, kdT (od2 N) k, b2, b3) ⟨hL3, hW3, hx3, hLIk, hKK, rfl, by
        have h1 := cnt_in hIk (k : Int) (kdT (od2 N) k 0)
        have h2 : kdT (od2 N) k 5 = N 5 := (hKK 5 (by decide)).trans o5
        show cnt (kdT (od2 N) k) k (kdT (od2 N) k 0) ≤ ((61 : Nat) : Int); omega⟩ ?_
      rintro ⟨V2, f, K, d2, d3⟩ z ⟨hL2, hW2, hx2, hLIK, hAK, hwh, hcn⟩ ih170
      dsimp only at hL2 hW2 hx2 hLIK hAK hwh hcn ih170 ⊢
      have hIK := hLIK.1.1
      have hK5 : K 5 = N 5 := (hAK 5 (by decide)).trans o5
      have hK0 : K 0 = N 0 + 1 := (hAK 0 (by decide)).trans o0
      have hK1 : K 1 = N 1 := (hAK 1 (by decide)).trans o1
      have hsK := hIK.1
      unfold iScal at hsK
      have hkk := hIK.2.1 k (by omega) (by omega)
      unfold kOk at hkk
      have hcni := cnt_in hIK (k : Int) (K 0)
      have hphi := Phi_in hIK
      have hb9 := hLIK.1.2.1
      unfold bOk at hb9
      have h3K : H3P K := fun s a b => by have := (hIK.2.2.2.1 s a b).1; omega
      refine gB hC _ _ _ _ _ _ _ qL_passes_170 rfl ?_
      refine g_getiv hC dL_passes_173 fL_114 hL2.sL (by decide) rfl 4 rfl hL2.v4 (fun i173 => ?_)
      refine g_cV1i hC dL_passes_176 mL_77 vL_count (kL_count hL2 hIK (by omega) (by omega)) rfl hL2.sL (by decide) rfl (Nat.le_of_ble_eq_true rfl) (RR rfl rfl rfl rfl) (fun z i176 => ?_)
      rw [show (8822 : Int) + (K 0 - 8822) = K 0 by omega] at i176 ⊢
      refine gB hC _ _ _ _ _ _ _ qL_passes_179 rfl ?_
      refine g_getr hC dL_passes_180 fL_23 hL2.sL (by decide) rfl 5 rfl hL2.p5 ?_
      refine gB hC _ _ _ _ _ _ _ qL_passes_183 rfl ?_
      refine g_iald hC dL_passes_184 hL2.srm (hL2.k0 (by omega) (by omega)) (by omega) (by omega) (by decide) (fun i184 => ?_)
      refine g_icmp_le hC 328 dL_passes_185 rfl (by first | omega | exact cmpZ_in _ _ | exact bI_in _) (by first | omega | exact cmpZ_in _ _ | exact bI_in _) (fun c185 => ?_) (fun c185 => ?_)
      · refine gB hC _ _ _ _ _ _ _ qL_passes_328 rfl ?_
        have hq9 : kdT (od2 N) (k + 1) = K := by
          rw [← hwh]
          cases f with
          | zero => rfl
          | succ f => rw [whS, if_neg (by omega)]
        refine ih165 (V2, k + 1, _, _) _ ⟨by rw [hq9]; exact hL2, hW2, hx2, by show k + 1 ≤ 2; omega⟩ (by show 2 - (k + 1) < 2 - k; omega)
      · refine gB hC _ _ _ _ _ _ _ qL_passes_188 rfl ?_
        obtain ⟨f, rfl⟩ : ∃ f1, f = f1 + 1 := ⟨f - 1, by omega⟩
        have hst := sd_step hLIK.1 (k := (k : Int)) (by omega) (by omega) (by omega)
        refine g_loop (fun x : Nat => (x : Int) ≤ K 5) (fun x => (K 5 - x).toNat) 192 (fun x => [(2, q), (0, (k : Int)), (0, snS K k (K 0) x), (0, (x : Int))]) (fun _ => V2) 0 (by show (0 : Int) ≤ K 5; omega) ?_
        intro t z ht ih192
        dsimp only at ht ih192 ⊢
        have hsn := snS_in K k (K 0) t
        have hsnb : -1 ≤ snS K k (K 0) t ∧ snS K k (K 0) t < 60 := by omega
        refine gB hC _ _ _ _ _ _ _ qL_passes_192 rfl ?_
        refine g_getiv hC dL_passes_194 fL_56 hL2.sL (by decide) rfl 17 rfl hL2.v17 (fun i194 => ?_)
        refine g_icmp_ge hC 278 dL_passes_197 rfl (by first | omega | exact cmpZ_in _ _ | exact bI_in _) (by first | omega | exact cmpZ_in _ _ | exact bI_in _) (fun c197 => ?_) (fun c197 => ?_)
        · obtain rfl : t = (K 5).toNat := by omega
          obtain ⟨so, hso9⟩ : ∃ so, so = snS K k (K 0) (K 5).toNat := ⟨_, rfl⟩
          rw [← hso9] at hst ⊢
          have hs0 := hst.1
          have hs1 := hst.2.1
          have hso := (hIK.2.2.2.1 so hs0 hs1).1
          refine gB hC _ _ _ _ _ _ _ qL_passes_278 rfl ?_
          refine g_getr hC dL_passes_279 fL_39 hL2.sL (by decide) rfl 15 rfl hL2.p15 ?_
          refine gB hC _ _ _ _ _ _ _ qL_passes_282 rfl ?_
          refine g_aald hC (j := 8) dL_passes_283 hL2.ssO (by decide) (hL2.ps (by omega) (by omega)) (by omega) (by omega) (by decide) ?_
          refine gB hC _ _ _ _ _ _ _ qL_passes_284 rfl ?_
          refine g_ast hC dL_passes_286 (hL2.ssR (by omega) (by omega)) (by omega) (by omega) (by decide) (by first | omega | exact cmpZ_in _ _ | exact bI_in _) (fun V286 e286 => ?_)
          have hL286 := LB_t0 (by omega) hL2 e286 hs0 hs1 h3K
          have hW286 := LW_k (by omega) hL2 e286 (by omega) hW2
          have hx286 := XR_r (w := w) hx2 hI0 hL2 e286 (Or.inr (by omega))
          refine gB hC _ _ _ _ _ _ _ qL_passes_287 rfl ?_
          refine g_getr hC dL_passes_288 fL_48 hL286.sL (by decide) rfl 21 rfl hL286.p21 ?_
          refine gB hC _ _ _ _ _ _ _ qL_passes_291 rfl ?_
          refine g_lald hC dL_passes_293 hL286.sbk (show V286 (w + 151) 1 = K 10 by rw [e286, up_row _ _ _ (by omega)]; exact hL2.b (b := 1) (by decide) (by decide)) (by omega) (by omega) (by decide) (fun i293 => ?_)
          refine gB hC _ _ _ _ _ _ _ qL_passes_294 rfl ?_
          refine g_getr hC dL_passes_295 fL_39 hL286.sL (by decide) rfl 15 rfl hL286.p15 ?_
          refine gB hC _ _ _ _ _ _ _ qL_passes_298 rfl ?_
          refine g_aald hC (j := 8) dL_passes_299 hL286.ssO (by decide) (hL286.ps (by omega) (by omega)) (by omega) (by omega) (by decide) ?_
          refine gB hC _ _ _ _ _ _ _ qL_passes_300 rfl ?_
          refine g_iald hC dL_passes_302 (hL286.ssR (by omega) (by omega)) (show V286 (w + 9 + so) 6 = sF K so 6 by rw [e286, up_ne _ _ (Or.inr (by decide))]; exact hL2.t6 hs0 hs1) (by omega) (by omega) (by decide) (fun i302 => ?_)
          refine g_i2l hC dL_passes_303 (by first | omega | exact cmpZ_in _ _ | exact bI_in _) ?_
          refine gB hC _ _ _ _ _ _ _ qL_passes_304 rfl ?_
          refine g_lst hC dL_passes_305 hL286.sbk (by omega) (by omega) (by decide) (by first | omega | exact cmpZ_in _ _ | exact bI_in _) (fun V305 e305 => ?_)
          have hL305 := LB_bk (by rw [upN_ne (by omega)]; omega) hL286 e305 (by decide) (by decide) (fun s a b => (H3P_up h3K (by omega) (by omega) s a b).1)
          have hW305 := LW_k (by omega) hL286 e305 (by omega) hW286
          have hx305 := XR_r (w := w) hx286 hI0 hL286 e305 (Or.inr (by omega))
          refine gB hC _ _ _ _ _ _ _ qL_passes_306 rfl ?_
          refine g_getr hC dL_passes_307 fL_48 hL305.sL (by decide) rfl 21 rfl hL305.p21 ?_
          refine gB hC _ _ _ _ _ _ _ qL_passes_310 rfl ?_
          refine g_lald hC dL_passes_312 hL305.sbk (show V305 (w + 151) 0 = K 9 by rw [e305, up_ne _ _ (Or.inr (by decide)), e286, up_row _ _ _ (by omega)]; exact hL2.b (b := 0) (by decide) (by decide)) (by omega) (by omega) (by decide) (fun i312 => ?_)
          refine gB hC _ _ _ _ _ _ _ qL_passes_313 rfl ?_
          refine g_getr hC dL_passes_314 fL_39 hL305.sL (by decide) rfl 15 rfl hL305.p15 ?_
          refine gB hC _ _ _ _ _ _ _ qL_passes_317 rfl ?_
          refine g_aald hC (j := 8) dL_passes_318 hL305.ssO (by decide) (hL305.ps (by omega) (by omega)) (by omega) (by omega) (by decide) ?_
          refine gB hC _ _ _ _ _ _ _ qL_passes_319 rfl ?_
          refine g_iald hC dL_passes_321 (hL305.ssR (by omega) (by omega)) (show V305 (w + 9 + so) 6 = sF K so 6 by rw [e305, up_row _ _ _ (by omega), e286, up_ne _ _ (Or.inr (by decide))]; exact hL2.t6 hs0 hs1) (by omega) (by omega) (by decide) (fun i321 => ?_)
          refine g_i2l hC dL_passes_322 (by first | omega | exact cmpZ_in _ _ | exact bI_in _) ?_
          refine gB hC _ _ _ _ _ _ _ qL_passes_323 rfl ?_
          refine g_lst hC dL_passes_324 hL305.sbk (by omega) (by omega) (by decide) (by first | omega | exact cmpZ_in _ _ | exact bI_in _) (fun V324 e324 => ?_)
          have hL324 := LB_bk (by rw [upN_ne (by omega), upN_ne (by omega)]; omega) hL305 e324 (by decide) (by decide) (fun s a b => (H3P_up (H3P_up h3K (by omega) (by omega)) (by omega) (by omega) s a b).1)
          have hW324 := LW_k (by omega) hL305 e324 (by omega) hW305
          have hx324 := XR_r (w := w) hx305 hI0 hL305 e324 (Or.inr (by omega))
          rw [sdN_eq K hs0] at hL324
          refine gB hC _ _ _ _ _ _ _ qL_passes_325 rfl ?_
          have hwh2 : whS k f (sdN K so) = kdT (od2 N) (k + 1) := by rw [← hwh, whS, if_pos (by omega), hso9]
          refine ih170 (V324, f, sdN K so, _, _) _ ⟨hL324, hW324, hx324, ?_, hAK.tr hst.2.2.2.1, hwh2, by show cnt (sdN K so) k (sdN K so 0) ≤ (f : Int); omega⟩ (by show f < f + 1; omega)
          exact LI_T hLIK hst.2.2.1 (sdN_ag _ _) hs0 hs1 ⟨by rw [(sdN_s _ hs0 (by decide) (by decide)).1]; exact (hLIK.2.2.1 so hs0 hs1).1, fun h0 => by rw [(sdN_s (w := 6) _ hs0 (by decide) (by decide)).2] at h0; exact absurd h0 (by decide)⟩
        · have hso := (hIK.2.2.2.1 t (by omega) (by omega)).1
          refine gB hC _ _ _ _ _ _ _ qL_passes_200 rfl ?_
          refine g_cV1 hC dL_passes_202 mL_60 vL_isAlive (kL_isAlive hL2 hIK (by omega) (by omega)) rfl hL2.sL (by decide) rfl (Nat.le_of_ble_eq_true rfl) (RR rfl rfl rfl rfl) (fun z => ?_)
          refine g_if_eq hC 272 dL_passes_205 rfl (by first | omega | exact cmpZ_in _ _ | exact bI_in _) (fun c205 => ?_) (fun c205 => ?_)
          · have c205 := bI_0.mp c205
            refine gB hC _ _ _ _ _ _ _ qL_passes_272 rfl ?_
            have hq9 : snS K k (K 0) (t + 1) = snS K k (K 0) t := by rw [snS, if_neg (fun h => by omega)]
            have h9 := fun z => ih192 (t + 1) z (by show ((t + 1 : Nat) : Int) ≤ K 5; omega) (by show (K 5 - ((t + 1 : Nat) : Int)).toNat < (K 5 - t).toNat; omega)
            simp only [hq9] at h9
            exact h9 _
          · have c205 := bI_n0.mp c205
            refine gB hC _ _ _ _ _ _ _ qL_passes_208 rfl ?_
            refine g_getr hC dL_passes_209 fL_39 hL2.sL (by decide) rfl 15 rfl hL2.p15 ?_
            refine gB hC _ _ _ _ _ _ _ qL_passes_212 rfl ?_
            refine g_aald hC (j := 8) dL_passes_213 hL2.ssO (by decide) (hL2.ps (by omega) (by omega)) (by omega) (by omega) (by decide) ?_
            refine gB hC _ _ _ _ _ _ _ qL_passes_214 rfl ?_
            refine g_iald hC dL_passes_215 (hL2.ssR (by omega) (by omega)) (hL2.t1 (by omega) (by omega)) (by omega) (by omega) (by decide) (fun i215 => ?_)
            refine gB hC _ _ _ _ _ _ _ qL_passes_216 rfl ?_
            refine g_icmp_ne hC 272 dL_passes_217 rfl (by first | omega | exact cmpZ_in _ _ | exact bI_in _) (by first | omega | exact cmpZ_in _ _ | exact bI_in _) (fun c217 => ?_) (fun c217 => ?_)
            · refine gB hC _ _ _ _ _ _ _ qL_passes_272 rfl ?_
              have hq9 : snS K k (K 0) (t + 1) = snS K k (K 0) t := by rw [snS, if_neg (fun h => by omega)]
              have h9 := fun z => ih192 (t + 1) z (by show ((t + 1 : Nat) : Int) ≤ K 5; omega) (by show (K 5 - ((t + 1 : Nat) : Int)).toNat < (K 5 - t).toNat; omega)
              simp only [hq9] at h9
              exact h9 _
            · refine gB hC _ _ _ _ _ _ _ qL_passes_220 rfl ?_
              refine g_getr hC dL_passes_221 fL_39 hL2.sL (by decide) rfl 15 rfl hL2.p15 ?_
              refine gB hC _ _ _ _ _ _ _ qL_passes_224 rfl ?_
              refine g_aald hC (j := 8) dL_passes_225 hL2.ssO (by decide) (hL2.ps (by omega) (by omega)) (by omega) (by omega) (by decide) ?_
              refine gB hC _ _ _ _ _ _ _ qL_passes_226 rfl ?_
              refine g_iald hC dL_passes_227 (hL2.ssR (by omega) (by omega)) (hL2.t2 (by omega) (by omega)) (by omega) (by omega) (by decide) (fun i227 => ?_)
              refine gB hC _ _ _ _ _ _ _ qL_passes_228 rfl ?_
              refine g_getiv hC dL_passes_229 fL_114 hL2.sL (by decide) rfl 4 rfl hL2.v4 (fun i229 => ?_)
              refine g_icmp_gt hC 272 dL_passes_232 rfl (by first | omega | exact cmpZ_in _ _ | exact bI_in _) (by first | omega | exact cmpZ_in _ _ | exact bI_in _) (fun c232 => ?_) (fun c232 => ?_)
              · refine gB hC _ _ _ _ _ _ _ qL_passes_272 rfl ?_
                have hq9 : snS K k (K 0) (t + 1) = snS K k (K 0) t := by rw [snS, if_neg (fun h => by omega)]
                have h9 := fun z => ih192 (t + 1) z (by show ((t + 1 : Nat) : Int) ≤ K 5; omega) (by show (K 5 - ((t + 1 : Nat) : Int)).toNat < (K 5 - t).toNat; omega)
                simp only [hq9] at h9
                exact h9 _
              · refine gB hC _ _ _ _ _ _ _ qL_passes_235 rfl ?_
                refine g_getiv hC dL_passes_236 fL_114 hL2.sL (by decide) rfl 4 rfl hL2.v4 (fun i236 => ?_)
                refine gB hC _ _ _ _ _ _ _ qL_passes_239 rfl ?_
                refine g_cV1i hC dL_passes_241 mL_64 vL_last (kL_last hL2 hIK (by omega) (by omega)) rfl hL2.sL (by decide) rfl (Nat.le_of_ble_eq_true rfl) (RR rfl rfl rfl rfl) (fun z i241 => ?_)
                refine g_icmp_gt hC 272 dL_passes_244 rfl (by first | omega | exact cmpZ_in _ _ | exact bI_in _) (by first | omega | exact cmpZ_in _ _ | exact bI_in _) (fun c244 => ?_) (fun c244 => ?_)
                · refine gB hC _ _ _ _ _ _ _ qL_passes_272 rfl ?_
                  have hq9 : snS K k (K 0) (t + 1) = snS K k (K 0) t := by rw [snS, if_neg (fun h => by omega)]
                  have h9 := fun z => ih192 (t + 1) z (by show ((t + 1 : Nat) : Int) ≤ K 5; omega) (by show (K 5 - ((t + 1 : Nat) : Int)).toNat < (K 5 - t).toNat; omega)
                  simp only [hq9] at h9
                  exact h9 _
                · refine gB hC _ _ _ _ _ _ _ qL_passes_247 rfl ?_
                  refine g_if_lt hC 270 dL_passes_248 rfl (by first | omega | exact cmpZ_in _ _ | exact bI_in _) (fun c248 => ?_) (fun c248 => ?_)
                  · 
                    refine gB hC _ _ _ _ _ _ _ qL_passes_270 rfl ?_
                    refine gB hC _ _ _ _ _ _ _ qL_passes_272 rfl ?_
                    have hq9 : snS K k (K 0) (t + 1) = (t : Int) := by rw [snS, if_pos ⟨by omega, by omega⟩]
                    have h9 := fun z => ih192 (t + 1) z (by show ((t + 1 : Nat) : Int) ≤ K 5; omega) (by show (K 5 - ((t + 1 : Nat) : Int)).toNat < (K 5 - t).toNat; omega)
                    simp only [hq9] at h9
                    exact h9 _
                  · refine gB hC _ _ _ _ _ _ _ qL_passes_251 rfl ?_
                    refine g_getr hC dL_passes_252 fL_39 hL2.sL (by decide) rfl 15 rfl hL2.p15 ?_
                    refine gB hC _ _ _ _ _ _ _ qL_passes_255 rfl ?_
                    refine g_aald hC (j := 8) dL_passes_256 hL2.ssO (by decide) (hL2.ps (by omega) (by omega)) (by omega) (by omega) (by decide) ?_
                    refine gB hC _ _ _ _ _ _ _ qL_passes_257 rfl ?_
                    refine g_iald hC dL_passes_258 (hL2.ssR (by omega) (by omega)) (hL2.t2 (by omega) (by omega)) (by omega) (by omega) (by decide) (fun i258 => ?_)
                    refine gB hC _ _ _ _ _ _ _ qL_passes_259 rfl ?_
                    refine g_getr hC dL_passes_260 fL_39 hL2.sL (by decide) rfl 15 rfl hL2.p15 ?_
                    refine gB hC _ _ _ _ _ _ _ qL_passes_263 rfl ?_
                    refine g_aald hC (j := 8) dL_passes_264 hL2.ssO (by decide) (hL2.ps (by omega) (by omega)) (by omega) (by omega) (by decide) ?_
                    refine gB hC _ _ _ _ _ _ _ qL_passes_265 rfl ?_
                    refine g_iald hC dL_passes_266 (hL2.ssR (by omega) (by omega)) (hL2.t2 (by omega) (by omega)) (by omega) (by omega) (by decide) (fun i266 => ?_)
                    refine g_icmp_lt hC 272 dL_passes_267 rfl (by first | omega | exact cmpZ_in _ _ | exact bI_in _) (by first | omega | exact cmpZ_in _ _ | exact bI_in _) (fun c267 => ?_) (fun c267 => ?_)
                    · refine gB hC _ _ _ _ _ _ _ qL_passes_272 rfl ?_
                      have hq9 : snS K k (K 0) (t + 1) = snS K k (K 0) t := by rw [snS, if_neg (fun h => by omega)]
                      have h9 := fun z => ih192 (t + 1) z (by show ((t + 1 : Nat) : Int) ≤ K 5; omega) (by show (K 5 - ((t + 1 : Nat) : Int)).toNat < (K 5 - t).toNat; omega)
                      simp only [hq9] at h9
                      exact h9 _
                    · 
                      refine gB hC _ _ _ _ _ _ _ qL_passes_270 rfl ?_
                      refine gB hC _ _ _ _ _ _ _ qL_passes_272 rfl ?_
                      have hq9 : snS K k (K 0) (t + 1) = (t : Int) := by rw [snS, if_pos ⟨by omega, by omega⟩]
                      have h9 := fun z => ih192 (t + 1) z (by show ((t + 1 : Nat) : Int) ≤ K 5; omega) (by show (K 5 - ((t + 1 : Nat) : Int)).toNat < (K 5 - t).toNat; omega)
                      simp only [hq9] at h9
                      exact h9 _
  · have hso := (hIM.2.2.2.1 t (by omega) (by omega)).1
    have hspr := sPr_in (hIM.2.2.2.1 t (by omega) (by omega))
    have hstx := sTx_in (hIM.2.2.2.1 t (by omega) (by omega))
    have htx : pNt M t * sF M t 3 = sTx M t := Int.mul_comm _ _
    have hphi := Phi_in hIM
    have hb9 := hLIM.1.2.1
    unfold bOk at hb9
    refine gB hC _ _ _ _ _ _ _ qL_passes_20 rfl ?_
    refine g_getr hC dL_passes_21 fL_39 hL1.sL (by decide) rfl 15 rfl hL1.p15 ?_
    refine gB hC _ _ _ _ _ _ _ qL_passes_24 rfl ?_
    refine g_aald hC (j := 8) dL_passes_25 hL1.ssO (by decide) (hL1.ps (by omega) (by omega)) (by omega) (by omega) (by decide) ?_
    refine gB hC _ _ _ _ _ _ _ qL_passes_26 rfl ?_
    refine g_iald hC dL_passes_29 (hL1.ssR (by omega) (by omega)) (hL1.t0 (by omega) (by omega)) (by omega) (by omega) (by decide) (fun i29 => ?_)
    refine gB hC _ _ _ _ _ _ _ qL_passes_30 rfl ?_
    refine g_icmp_ne hC 126 dL_passes_31 rfl (by first | omega | exact cmpZ_in _ _ | exact bI_in _) (by first | omega | exact cmpZ_in _ _ | exact bI_in _) (fun c31 => ?_) (fun c31 => ?_)
    · refine gB hC _ _ _ _ _ _ _ qL_passes_126 rfl ?_
      refine g_iald hC dL_passes_128 (hL1.ssR (by omega) (by omega)) (hL1.t0 (by omega) (by omega)) (by omega) (by omega) (by decide) (fun i128 => ?_)
      refine g_if_ne hC 157 dL_passes_129 rfl (by first | omega | exact cmpZ_in _ _ | exact bI_in _) (fun c129 => ?_) (fun c129 => ?_)
      · refine gB hC _ _ _ _ _ _ _ qL_passes_157 rfl ?_
        have hq9 : odI (od0 N) (t + 1) = M := by
          show stH (stE (odI (od0 N) t) t) t = _
          rw [← hM]; unfold stE; rw [if_neg (by omega)]; unfold stH; rw [if_neg (by omega)]
        refine ih12 (V1, t + 1, _, _) _ ⟨by rw [hq9]; exact hL1, hW1, hx1, by show ((t + 1 : Nat) : Int) ≤ N 5; omega⟩ (by show (N 5 - ((t + 1 : Nat) : Int)).toNat < (N 5 - t).toNat; omega)
      · refine gB hC _ _ _ _ _ _ _ qL_passes_132 rfl ?_
        refine g_iald hC dL_passes_135 (hL1.ssR (by omega) (by omega)) (hL1.t9 (by omega) (by omega)) (by omega) (by omega) (by decide) (fun i135 => ?_)
        refine gB hC _ _ _ _ _ _ _ qL_passes_136 rfl ?_
        refine g_getiv hC dL_passes_137 fL_114 hL1.sL (by decide) rfl 4 rfl hL1.v4 (fun i137 => ?_)
        refine g_icmp_lt hC 153 dL_passes_140 rfl (by first | omega | exact cmpZ_in _ _ | exact bI_in _) (by first | omega | exact cmpZ_in _ _ | exact bI_in _) (fun c140 => ?_) (fun c140 => ?_)
        · refine gB hC _ _ _ _ _ _ _ qL_passes_153 rfl ?_
          refine g_ast hC dL_passes_156 (hL1.ssR (by omega) (by omega)) (by omega) (by omega) (by decide) (by first | omega | exact cmpZ_in _ _ | exact bI_in _) (fun V156 e156 => ?_)
          have hL156 := LB_t0 (by omega) hL1 e156 (by omega) (by omega) h3M
          have hW156 := LW_k (by omega) hL1 e156 (by omega) hW1
          have hx156 := XR_r (w := w) hx1 hI0 hL1 e156 (Or.inr (by omega))
          refine gB hC _ _ _ _ _ _ _ qL_passes_157 rfl ?_
          have hq9 : odI (od0 N) (t + 1) = upN M (56 + (t : Int) * 24 + 0) 2 := by
            show stH (stE (odI (od0 N) t) t) t = _
            rw [← hM]; unfold stE; rw [if_neg (by omega)]; unfold stH; rw [if_pos (by omega)]
          refine ih12 (V156, t + 1, _, _) _ ⟨by rw [hq9]; exact hL156, hW156, hx156, by show ((t + 1 : Nat) : Int) ≤ N 5; omega⟩ (by show (N 5 - ((t + 1 : Nat) : Int)).toNat < (N 5 - t).toNat; omega)
        · refine gB hC _ _ _ _ _ _ _ qL_passes_143 rfl ?_
          refine g_iald hC dL_passes_145 (hL1.ssR (by omega) (by omega)) (hL1.t2 (by omega) (by omega)) (by omega) (by omega) (by decide) (fun i145 => ?_)
          refine gB hC _ _ _ _ _ _ _ qL_passes_146 rfl ?_
          refine g_getiv hC dL_passes_147 fL_114 hL1.sL (by decide) rfl 4 rfl hL1.v4 (fun i147 => ?_)
          refine g_icmp_gt hC 157 dL_passes_150 rfl (by first | omega | exact cmpZ_in _ _ | exact bI_in _) (by first | omega | exact cmpZ_in _ _ | exact bI_in _) (fun c150 => ?_) (fun c150 => ?_)
          · refine gB hC _ _ _ _ _ _ _ qL_passes_157 rfl ?_
            have hq9 : odI (od0 N) (t + 1) = M := by
              show stH (stE (odI (od0 N) t) t) t = _
              rw [← hM]; unfold stE; rw [if_neg (by omega)]; unfold stH; rw [if_neg (by omega)]
            refine ih12 (V1, t + 1, _, _) _ ⟨by rw [hq9]; exact hL1, hW1, hx1, by show ((t + 1 : Nat) : Int) ≤ N 5; omega⟩ (by show (N 5 - ((t + 1 : Nat) : Int)).toNat < (N 5 - t).toNat; omega)
          · refine gB hC _ _ _ _ _ _ _ qL_passes_153 rfl ?_
            refine g_ast hC dL_passes_156 (hL1.ssR (by omega) (by omega)) (by omega) (by omega) (by decide) (by first | omega | exact cmpZ_in _ _ | exact bI_in _) (fun V156 e156 => ?_)
            have hL156 := LB_t0 (by omega) hL1 e156 (by omega) (by omega) h3M
            have hW156 := LW_k (by omega) hL1 e156 (by omega) hW1
            have hx156 := XR_r (w := w) hx1 hI0 hL1 e156 (Or.inr (by omega))
            refine gB hC _ _ _ _ _ _ _ qL_passes_157 rfl ?_
            have hq9 : odI (od0 N) (t + 1) = upN M (56 + (t : Int) * 24 + 0) 2 := by
              show stH (stE (odI (od0 N) t) t) t = _
              rw [← hM]; unfold stE; rw [if_neg (by omega)]; unfold stH; rw [if_pos (by omega)]
            refine ih12 (V156, t + 1, _, _) _ ⟨by rw [hq9]; exact hL156, hW156, hx156, by show ((t + 1 : Nat) : Int) ≤ N 5; omega⟩ (by show (N 5 - ((t + 1 : Nat) : Int)).toNat < (N 5 - t).toNat; omega)
    · refine gB hC _ _ _ _ _ _ _ qL_passes_34 rfl ?_
      refine g_cV1i hC dL_passes_36 mL_64 vL_last (kL_last hL1 hIM (by omega) (by omega)) rfl hL1.sL (by decide) rfl (Nat.le_of_ble_eq_true rfl) (RR rfl rfl rfl rfl) (fun z i36 => ?_)
      refine gB hC _ _ _ _ _ _ _ qL_passes_39 rfl ?_
      refine g_getiv hC dL_passes_40 fL_114 hL1.sL (by decide) rfl 4 rfl hL1.v4 (fun i40 => ?_)
      refine g_icmp_ge hC 126 dL_passes_43 rfl (by first | omega | exact cmpZ_in _ _ | exact bI_in _) (by first | omega | exact cmpZ_in _ _ | exact bI_in _) (fun c43 => ?_) (fun c43 => ?_)
      · refine gB hC _ _ _ _ _ _ _ qL_passes_126 rfl ?_
        refine g_iald hC dL_passes_128 (hL1.ssR (by omega) (by omega)) (hL1.t0 (by omega) (by omega)) (by omega) (by omega) (by decide) (fun i128 => ?_)
        refine g_if_ne hC 157 dL_passes_129 rfl (by first | omega | exact cmpZ_in _ _ | exact bI_in _) (fun c129 => ?_) (fun c129 => ?_)
        · refine gB hC _ _ _ _ _ _ _ qL_passes_157 rfl ?_
          have hq9 : odI (od0 N) (t + 1) = M := by
            show stH (stE (odI (od0 N) t) t) t = _
            rw [← hM]; unfold stE; rw [if_neg (by omega)]; unfold stH; rw [if_neg (by omega)]
          refine ih12 (V1, t + 1, _, _) _ ⟨by rw [hq9]; exact hL1, hW1, hx1, by show ((t + 1 : Nat) : Int) ≤ N 5; omega⟩ (by show (N 5 - ((t + 1 : Nat) : Int)).toNat < (N 5 - t).toNat; omega)
        · refine gB hC _ _ _ _ _ _ _ qL_passes_132 rfl ?_
          refine g_iald hC dL_passes_135 (hL1.ssR (by omega) (by omega)) (hL1.t9 (by omega) (by omega)) (by omega) (by omega) (by decide) (fun i135 => ?_)
          refine gB hC _ _ _ _ _ _ _ qL_passes_136 rfl ?_
          refine g_getiv hC dL_passes_137 fL_114 hL1.sL (by decide) rfl 4 rfl hL1.v4 (fun i137 => ?_)
          refine g_icmp_lt hC 153 dL_passes_140 rfl (by first | omega | exact cmpZ_in _ _ | exact bI_in _) (by first | omega | exact cmpZ_in _ _ | exact bI_in _) (fun c140 => ?_) (fun c140 => ?_)
          · refine gB hC _ _ _ _ _ _ _ qL_passes_153 rfl ?_
            refine g_ast hC dL_passes_156 (hL1.ssR (by omega) (by omega)) (by omega) (by omega) (by decide) (by first | omega | exact cmpZ_in _ _ | exact bI_in _) (fun V156 e156 => ?_)
            have hL156 := LB_t0 (by omega) hL1 e156 (by omega) (by omega) h3M
            have hW156 := LW_k (by omega) hL1 e156 (by omega) hW1
            have hx156 := XR_r (w := w) hx1 hI0 hL1 e156 (Or.inr (by omega))
            refine gB hC _ _ _ _ _ _ _ qL_passes_157 rfl ?_
            have hq9 : odI (od0 N) (t + 1) = upN M (56 + (t : Int) * 24 + 0) 2 := by
              show stH (stE (odI (od0 N) t) t) t = _
              rw [← hM]; unfold stE; rw [if_neg (by omega)]; unfold stH; rw [if_pos (by omega)]
            refine ih12 (V156, t + 1, _, _) _ ⟨by rw [hq9]; exact hL156, hW156, hx156, by show ((t + 1 : Nat) : Int) ≤ N 5; omega⟩ (by show (N 5 - ((t + 1 : Nat) : Int)).toNat < (N 5 - t).toNat; omega)
          · refine gB hC _ _ _ _ _ _ _ qL_passes_143 rfl ?_
            refine g_iald hC dL_passes_145 (hL1.ssR (by omega) (by omega)) (hL1.t2 (by omega) (by omega)) (by omega) (by omega) (by decide) (fun i145 => ?_)
            refine gB hC _ _ _ _ _ _ _ qL_passes_146 rfl ?_
            refine g_getiv hC dL_passes_147 fL_114 hL1.sL (by decide) rfl 4 rfl hL1.v4 (fun i147 => ?_)
            refine g_icmp_gt hC 157 dL_passes_150 rfl (by first | omega | exact cmpZ_in _ _ | exact bI_in _) (by first | omega | exact cmpZ_in _ _ | exact bI_in _) (fun c150 => ?_) (fun c150 => ?_)
            · refine gB hC _ _ _ _ _ _ _ qL_passes_157 rfl ?_
              have hq9 : odI (od0 N) (t + 1) = M := by
                show stH (stE (odI (od0 N) t) t) t = _
                rw [← hM]; unfold stE; rw [if_neg (by omega)]; unfold stH; rw [if_neg (by omega)]
              refine ih12 (V1, t + 1, _, _) _ ⟨by rw [hq9]; exact hL1, hW1, hx1, by show ((t + 1 : Nat) : Int) ≤ N 5; omega⟩ (by show (N 5 - ((t + 1 : Nat) : Int)).toNat < (N 5 - t).toNat; omega)
            · refine gB hC _ _ _ _ _ _ _ qL_passes_153 rfl ?_
              refine g_ast hC dL_passes_156 (hL1.ssR (by omega) (by omega)) (by omega) (by omega) (by decide) (by first | omega | exact cmpZ_in _ _ | exact bI_in _) (fun V156 e156 => ?_)
              have hL156 := LB_t0 (by omega) hL1 e156 (by omega) (by omega) h3M
              have hW156 := LW_k (by omega) hL1 e156 (by omega) hW1
              have hx156 := XR_r (w := w) hx1 hI0 hL1 e156 (Or.inr (by omega))
              refine gB hC _ _ _ _ _ _ _ qL_passes_157 rfl ?_
              have hq9 : odI (od0 N) (t + 1) = upN M (56 + (t : Int) * 24 + 0) 2 := by
                show stH (stE (odI (od0 N) t) t) t = _
                rw [← hM]; unfold stE; rw [if_neg (by omega)]; unfold stH; rw [if_pos (by omega)]
              refine ih12 (V156, t + 1, _, _) _ ⟨by rw [hq9]; exact hL156, hW156, hx156, by show ((t + 1 : Nat) : Int) ≤ N 5; omega⟩ (by show (N 5 - ((t + 1 : Nat) : Int)).toNat < (N 5 - t).toNat; omega)
      · refine gB hC _ _ _ _ _ _ _ qL_passes_46 rfl ?_
        refine g_ast hC dL_passes_49 (hL1.ssR (by omega) (by omega)) (by omega) (by omega) (by decide) (by first | omega | exact cmpZ_in _ _ | exact bI_in _) (fun V49 e49 => ?_)
        have hL49 := LB_t0 (by omega) hL1 e49 (by omega) (by omega) h3M
        have hW49 := LW_k (by omega) hL1 e49 (by omega) hW1
        have hx49 := XR_r (w := w) hx1 hI0 hL1 e49 (Or.inr (by omega))
        have hK49 : InvC (upN M (56 + (t : Int) * 24 + 0) 4) := (INV_st (st := 4) hLIM.1 (s := (t : Int)) (by omega) (by omega) (by decide) (by decide) (by rw [c31]; decide)).1
        have f49 : (upN M (56 + (t : Int) * 24 + 0) 4) 5 = N 5 := by rw [upN_ne (by omega)]; exact hM5
        refine gB hC _ _ _ _ _ _ _ qL_passes_50 rfl ?_
        refine g_getr hC dL_passes_51 fL_48 hL49.sL (by decide) rfl 21 rfl hL49.p21 ?_
        refine gB hC _ _ _ _ _ _ _ qL_passes_54 rfl ?_
        refine g_lald hC dL_passes_56 hL49.sbk (show V49 (w + 151) 1 = M 10 by rw [e49, up_row _ _ _ (by omega)]; exact hL1.b (b := 1) (by decide) (by decide)) (by omega) (by omega) (by decide) (fun i56 => ?_)
        refine gB hC _ _ _ _ _ _ _ qL_passes_57 rfl ?_
        refine g_iald hC dL_passes_60 (hL49.ssR (by omega) (by omega)) (show V49 (w + 9 + (t : Int)) 6 = sF M t 6 by rw [e49, up_ne _ _ (Or.inr (by decide))]; exact hL1.t6 (by omega) (by omega)) (by omega) (by omega) (by decide) (fun i60 => ?_)
        refine g_i2l hC dL_passes_61 (by first | omega | exact cmpZ_in _ _ | exact bI_in _) ?_
        refine gB hC _ _ _ _ _ _ _ qL_passes_62 rfl ?_
        refine g_lst hC dL_passes_63 hL49.sbk (by omega) (by omega) (by decide) (by first | omega | exact cmpZ_in _ _ | exact bI_in _) (fun V63 e63 => ?_)
        have hL63 := LB_bk (by rw [f49]; omega) hL49 e63 (by decide) (by decide) (fun s a b => ((H3P_up h3M (by omega) (by omega)) s a b).1)
        have hW63 := LW_k (by omega) hL49 e63 (by omega) hW49
        have hx63 := XR_r (w := w) hx49 hI0 hL49 e63 (Or.inr (by omega))
        have f63 : (upN (upN M (56 + (t : Int) * 24 + 0) 4) (9 + 1) (M 10 - sF M t 6)) 5 = N 5 := by rw [upN_ne (by omega)]; exact f49
        have hK63 : InvC (upN (upN M (56 + (t : Int) * 24 + 0) 4) (9 + 1) (M 10 - sF M t 6)) := InvC_9 (s := (t : Int)) hK49 (by omega) (by omega) (by decide)
        have g63 : sPr (upN (upN M (56 + (t : Int) * 24 + 0) 4) (9 + 1) (M 10 - sF M t 6)) t = sPr M t := sPr_eq (fun j hj => by show upN _ _ _ _ = M _; rw [upN_ne (by omega), upN_ne (by omega)])
        refine gB hC _ _ _ _ _ _ _ qL_passes_64 rfl ?_
        refine g_getr hC dL_passes_65 fL_48 hL63.sL (by decide) rfl 21 rfl hL63.p21 ?_
        refine gB hC _ _ _ _ _ _ _ qL_passes_68 rfl ?_
        refine g_lald hC dL_passes_70 hL63.sbk (show V63 (w + 151) 0 = M 9 by rw [e63, up_ne _ _ (Or.inr (by decide)), e49, up_row _ _ _ (by omega)]; exact hL1.b (b := 0) (by decide) (by decide)) (by omega) (by omega) (by decide) (fun i70 => ?_)
        refine gB hC _ _ _ _ _ _ _ qL_passes_71 rfl ?_
        refine g_cV1i hC dL_passes_73 mL_127 vL_price_ (kL_price_ hL63 hK63 (by omega) (by omega)) rfl hL63.sL (by decide) rfl (Nat.le_of_ble_eq_true rfl) (RR rfl rfl rfl rfl) (fun z i73 => ?_)
        rw [g63] at i73 ⊢
        refine gB hC _ _ _ _ _ _ _ qL_passes_76 rfl ?_
        refine g_iald hC dL_passes_79 (hL63.ssR (by omega) (by omega)) (show V63 (w + 9 + (t : Int)) 7 = pNt M t by rw [e63, up_row _ _ _ (by omega), e49, up_ne _ _ (Or.inr (by decide))]; exact hL1.t7 (by omega) (by omega)) (by omega) (by omega) (by decide) (fun i79 => ?_)
        refine gB hC _ _ _ _ _ _ _ qL_passes_80 rfl ?_
        refine g_iald hC dL_passes_82 (hL63.ssR (by omega) (by omega)) (show V63 (w + 9 + (t : Int)) 3 = sF M t 3 by rw [e63, up_row _ _ _ (by omega), e49, up_ne _ _ (Or.inr (by decide))]; exact hL1.t3 (by omega) (by omega)) (by omega) (by omega) (by decide) (fun i82 => ?_)
        refine gB hC _ _ _ _ _ _ _ qL_passes_83 rfl ?_
        refine g_iald hC dL_passes_88 (hL63.ssR (by omega) (by omega)) (show V63 (w + 9 + (t : Int)) 6 = sF M t 6 by rw [e63, up_row _ _ _ (by omega), e49, up_ne _ _ (Or.inr (by decide))]; exact hL1.t6 (by omega) (by omega)) (by omega) (by omega) (by decide) (fun i88 => ?_)
        refine gB hC _ _ _ _ _ _ _ qL_passes_89 rfl ?_
        refine g_i2l hC dL_passes_90 (by first | omega | exact cmpZ_in _ _ | exact bI_in _) ?_
        refine gB hC _ _ _ _ _ _ _ qL_passes_91 rfl ?_
        refine g_lst hC dL_passes_92 hL63.sbk (by omega) (by omega) (by decide) (by first | omega | exact cmpZ_in _ _ | exact bI_in _) (fun V92 e92 => ?_)
        have hL92 := LB_bk (by rw [f63]; omega) hL63 e92 (by decide) (by decide) (fun s a b => ((H3P_up (H3P_up h3M (by omega) (by omega)) (by omega) (by omega)) s a b).1)
        have hW92 := LW_k (by omega) hL63 e92 (by omega) hW63
        have hx92 := XR_r (w := w) hx63 hI0 hL63 e92 (Or.inr (by omega))
        have f92 : (upN (upN (upN M (56 + (t : Int) * 24 + 0) 4) (9 + 1) (M 10 - sF M t 6)) (9 + 0) (M 9 - (sPr M t + pNt M t * sF M t 3 - sF M t 6))) 5 = N 5 := by rw [upN_ne (by omega)]; exact f63
        have hK92 : InvC (upN (upN (upN M (56 + (t : Int) * 24 + 0) 4) (9 + 1) (M 10 - sF M t 6)) (9 + 0) (M 9 - (sPr M t + pNt M t * sF M t 3 - sF M t 6))) := InvC_9 (s := (t : Int)) hK63 (by omega) (by omega) (by decide)
        have g92 : sPr (upN (upN (upN M (56 + (t : Int) * 24 + 0) 4) (9 + 1) (M 10 - sF M t 6)) (9 + 0) (M 9 - (sPr M t + pNt M t * sF M t 3 - sF M t 6))) t = sPr M t := sPr_eq (fun j hj => by show upN _ _ _ _ = M _; rw [upN_ne (by omega), upN_ne (by omega), upN_ne (by omega)])
        refine gB hC _ _ _ _ _ _ _ qL_passes_93 rfl ?_
        refine g_getr hC dL_passes_94 fL_48 hL92.sL (by decide) rfl 21 rfl hL92.p21 ?_
        refine gB hC _ _ _ _ _ _ _ qL_passes_97 rfl ?_
        refine g_lald hC dL_passes_99 hL92.sbk (show V92 (w + 151) 2 = M 11 by rw [e92, up_ne _ _ (Or.inr (by decide)), e63, up_ne _ _ (Or.inr (by decide)), e49, up_row _ _ _ (by omega)]; exact hL1.b (b := 2) (by decide) (by decide)) (by omega) (by omega) (by decide) (fun i99 => ?_)
        refine gB hC _ _ _ _ _ _ _ qL_passes_100 rfl ?_
        refine g_cV1i hC dL_passes_102 mL_127 vL_price_ (kL_price_ hL92 hK92 (by omega) (by omega)) rfl hL92.sL (by decide) rfl (Nat.le_of_ble_eq_true rfl) (RR rfl rfl rfl rfl) (fun z i102 => ?_)
        rw [g92] at i102 ⊢
        refine g_i2l hC dL_passes_105 (by first | omega | exact cmpZ_in _ _ | exact bI_in _) ?_
        refine gB hC _ _ _ _ _ _ _ qL_passes_106 rfl ?_
        refine g_lst hC dL_passes_107 hL92.sbk (by omega) (by omega) (by decide) (by first | omega | exact cmpZ_in _ _ | exact bI_in _) (fun V107 e107 => ?_)
        have hL107 := LB_bk (by rw [f92]; omega) hL92 e107 (by decide) (by decide) (fun s a b => ((H3P_up (H3P_up (H3P_up h3M (by omega) (by omega)) (by omega) (by omega)) (by omega) (by omega)) s a b).1)
        have hW107 := LW_k (by omega) hL92 e107 (by omega) hW92
        have hx107 := XR_r (w := w) hx92 hI0 hL92 e107 (Or.inr (by omega))
        have f107 : (upN (upN (upN (upN M (56 + (t : Int) * 24 + 0) 4) (9 + 1) (M 10 - sF M t 6)) (9 + 0) (M 9 - (sPr M t + pNt M t * sF M t 3 - sF M t 6))) (9 + 2) (M 11 + sPr M t)) 5 = N 5 := by rw [upN_ne (by omega)]; exact f92
        refine gB hC _ _ _ _ _ _ _ qL_passes_108 rfl ?_
        refine g_getr hC dL_passes_109 fL_48 hL107.sL (by decide) rfl 21 rfl hL107.p21 ?_
        refine gB hC _ _ _ _ _ _ _ qL_passes_112 rfl ?_
        refine g_lald hC dL_passes_114 hL107.sbk (show V107 (w + 151) 3 = M 12 by rw [e107, up_ne _ _ (Or.inr (by decide)), e92, up_ne _ _ (Or.inr (by decide)), e63, up_ne _ _ (Or.inr (by decide)), e49, up_row _ _ _ (by omega)]; exact hL1.b (b := 3) (by decide) (by decide)) (by omega) (by omega) (by decide) (fun i114 => ?_)
        refine gB hC _ _ _ _ _ _ _ qL_passes_115 rfl ?_
        refine g_iald hC dL_passes_118 (hL107.ssR (by omega) (by omega)) (show V107 (w + 9 + (t : Int)) 7 = pNt M t by rw [e107, up_row _ _ _ (by omega), e92, up_row _ _ _ (by omega), e63, up_row _ _ _ (by omega), e49, up_ne _ _ (Or.inr (by decide))]; exact hL1.t7 (by omega) (by omega)) (by omega) (by omega) (by decide) (fun i118 => ?_)
        refine gB hC _ _ _ _ _ _ _ qL_passes_119 rfl ?_
        refine g_iald hC dL_passes_121 (hL107.ssR (by omega) (by omega)) (show V107 (w + 9 + (t : Int)) 3 = sF M t 3 by rw [e107, up_row _ _ _ (by omega), e92, up_row _ _ _ (by omega), e63, up_row _ _ _ (by omega), e49, up_ne _ _ (Or.inr (by decide))]; exact hL1.t3 (by omega) (by omega)) (by omega) (by omega) (by decide) (fun i121 => ?_)
        refine gB hC _ _ _ _ _ _ _ qL_passes_122 rfl ?_
        refine g_i2l hC dL_passes_123 (by first | omega | exact cmpZ_in _ _ | exact bI_in _) ?_
        refine gB hC _ _ _ _ _ _ _ qL_passes_124 rfl ?_
        refine g_lst hC dL_passes_125 hL107.sbk (by omega) (by omega) (by decide) (by first | omega | exact cmpZ_in _ _ | exact bI_in _) (fun V125 e125 => ?_)
        have hL125 := LB_bk (by rw [f107]; omega) hL107 e125 (by decide) (by decide) (fun s a b => ((H3P_up (H3P_up (H3P_up (H3P_up h3M (by omega) (by omega)) (by omega) (by omega)) (by omega) (by omega)) (by omega) (by omega)) s a b).1)
        have hW125 := LW_k (by omega) hL107 e125 (by omega) hW107
        have hx125 := XR_r (w := w) hx107 hI0 hL107 e125 (Or.inr (by omega))
        rw [enN_eq (by omega) rfl (by rw [htx]) rfl (by rw [htx])] at hL125
        have hEI := enN_inv hLIM.1 (s := (t : Int)) (by omega) (by omega) c31
        have f125 : enN M t 5 = N 5 := (AgK.of (enN_ag M t) (by omega) (by omega) 5 (by decide)).trans hM5
        have g125 : sF (enN M t) t 0 = 4 := (enN_s M (s := (t : Int)) (w := 1) (by omega) (by decide) (by decide)).2
        refine gB hC _ _ _ _ _ _ _ qL_passes_126 rfl ?_
        refine g_iald hC dL_passes_128 (hL125.ssR (by omega) (by omega)) (hL125.t0 (by omega) (by omega)) (by omega) (by omega) (by decide) (fun i128 => ?_)
        refine g_if_ne hC 157 dL_passes_129 rfl (by first | omega | exact cmpZ_in _ _ | exact bI_in _) (fun c129 => ?_) (fun c129 => ?_)
        · refine gB hC _ _ _ _ _ _ _ qL_passes_157 rfl ?_
          have hq9 : odI (od0 N) (t + 1) = enN M t := by
            show stH (stE (odI (od0 N) t) t) t = _
            rw [← hM]; unfold stE; rw [if_pos (by omega)]; unfold stH; rw [if_neg (by omega)]
          refine ih12 (V125, t + 1, _, _) _ ⟨by rw [hq9]; exact hL125, hW125, hx125, by show ((t + 1 : Nat) : Int) ≤ N 5; omega⟩ (by show (N 5 - ((t + 1 : Nat) : Int)).toNat < (N 5 - t).toNat; omega)
        · exact absurd c129 (by omega) --stop
