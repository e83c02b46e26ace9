/-! the class: nights more, stays taken in (rows laid by wip/whole/n67.py) -/
theorem bgN_out {N : gN0} {k f a c t g j : Int} (h5 : 0 ≤ N 5) (hj : j < 56 + N 5 * 24 ∨ 56 + N 5 * 24 + 24 ≤ j) : bgN N k f a c t g j = N j := by
  unfold bgN
  by_cases h : j = 5
  · rw [h, upN_eq]
  · rw [upN_ne h]
    unfold mkN mkP
    rw [if_neg h, if_neg (by omega), if_neg (by omega), if_neg (by omega), if_neg (by omega), if_neg (by omega), if_neg (by omega), if_neg (by omega), if_neg (by omega), if_neg (by omega), if_neg (by omega), if_neg (by omega)]
theorem snT_in9 {N : gN0} (hI : InvC N) {k f n0 : Int} (k0 : 0 ≤ k) (k1 : k < N 1) : ∀ n : Nat, (∀ i : Int, 0 ≤ i → i < n → cnt N k (f + (n0 + i)) < kF N k 0 + kF N k 2) → 0 ≤ snT N k (f + n0) n ∧ snT N k (f + n0) n ≤ 720000 * n := by
  intro n h
  exact snT_in hI k0 k1 n (fun i a b => by rw [Int.add_assoc]; exact h i a b)

theorem RH_r8 {h x : Int} {N : gN0} {Sh : gSh} {V V' : gV} (H : RH h N Sh V) (hz : szO N) (h0 : 0 ≤ x) (h1 : x ≤ 36524) (e : V' = up V h 1 x) : RH h (upN N 8 (dateZ x)) Sh V' := by
  subst e
  have ej : ∀ j, j ≠ 1 → up V h 1 x h j = V h j := fun j hj => up_ne _ _ (Or.inr hj)
  have eN : ∀ j, j ≠ 8 → upN N 8 (dateZ x) j = N j := fun j hj => upN_ne hj
  refine RH_H H hz (fun j hj => eN j (by omega)) (eN 1 (by decide)) (eN 2 (by decide)) (eN 5 (by decide)) (eN 7 (by decide)) (fun a ha => up_row _ _ _ ha) (fun j x _ => ej j (by omega)) ?_ ?_ ?_ ?_ ?_ ?_ ?_ ?_
  · rw [ej 0 (by decide), eN 0 (by decide)]; exact H.t0
  · rw [up_eq, upN_eq]; exact Or.inr ⟨h0, h1, rfl⟩
  · rw [ej 2 (by decide), eN 1 (by decide)]; exact H.t2
  · rw [ej 3 (by decide), eN 2 (by decide)]; exact H.t3
  · rw [ej 4 (by decide), eN 7 (by decide)]; exact H.t4
  · rw [ej 5 (by decide), eN 6 (by decide)]; exact H.t5
  · rw [ej 6 (by decide), eN 3 (by decide)]; exact H.t6
  · rw [ej 7 (by decide), eN 4 (by decide)]; exact H.t7

theorem kX2_addNights {E l Sh V z} {h9 s9 q9 : Int} {N : gN0} (hm : RH h9 N Sh V) (hCi : ∀ i, 0 ≤ i → i ≤ q9 → INV (loN N s9 i)) (hn : ∀ i, 0 ≤ i → i < q9 → nPr (loN N s9 i) (sF N s9 1) (sF N s9 2 + (sF N s9 3 + i)) = nPr N (sF N s9 1) (sF N s9 2 + (sF N s9 3 + i))) (hb9 : ∀ i, 0 ≤ i → i < q9 → cnt N (sF N s9 1) (sF N s9 2 + (sF N s9 3 + i)) < kF N (sF N s9 1) 0 + kF N (sF N s9 1) 2) (hS : stR (h9 + 6 + 2 * s9) s9 N V) (h0 : 0 ≤ s9) (h1 : s9 < 60) (hk : 0 ≤ sF N s9 1 ∧ sF N s9 1 < N 1) (h2 : 0 ≤ q9) (h3 : 0 ≤ sF N s9 3) (h4 : sF N s9 3 + q9 ≤ 14) (h5 : 8822 ≤ sF N s9 2) (h6 : sF N s9 2 + sF N s9 3 + q9 ≤ 36525) (hp9 : 0 ≤ sPr N s9 ∧ sPr N s9 ≤ 720000 * sF N s9 3) : gM E l yX2_addNights (.code yX2_addNights cX2_addNights 5 (some .int)) (rmk 3 0 0 100) [(2, h9), (2, h9 + 6 + 2 * s9), (0, q9)] Sh V z (gRe (some (0, snT N (sF N s9 1) (sF N s9 2 + sF N s9 3) q9.toNat)) (fun V' => RH h9 (loN N s9 q9) Sh V' ∧ stR (h9 + 6 + 2 * s9) s9 (loN N s9 q9) V' ∧ ∀ a, a ≠ h9 + 6 + 2 * s9 → a ≠ h9 + 6 + 2 * s9 + 1 → V' a = V a) Sh) := by
  refine gM_at (L0 := [(2, h9), (2, h9 + 6 + 2 * s9), (0, q9), (9, 0), (9, 0)]) rfl rfl rfl ?_
  intro p e s m args below meth c hC hr hex hnm hz
  have hI0 : INV N := by have := hCi 0 (Int.le_refl _) h2; rwa [loN_0] at this
  have hI := hI0.1
  have hsc := hI.1
  unfold iScal at hsc
  refine gB hC _ _ _ _ _ _ _ qX2_addNights_0 rfl ?_
  refine g_getiv hC dX2_addNights_1 fX2_206 (hm.1.ss (by omega) (by omega)) (by decide) rfl 7 rfl hS.f7 (fun i1 => ?_)
  refine gB hC _ _ _ _ _ _ _ qX2_addNights_4 rfl ?_
  refine g_loop (fun x : gV × Int => RH h9 (loN N s9 x.2) Sh x.1 ∧ stR (h9 + 6 + 2 * s9) s9 (loN N s9 x.2) x.1 ∧ (∀ a, a ≠ h9 + 6 + 2 * s9 → a ≠ h9 + 6 + 2 * s9 + 1 → x.1 a = V a) ∧ 0 ≤ x.2 ∧ x.2 ≤ q9) (fun x => (q9 - x.2).toNat) 8 (fun x => [(2, h9), (2, h9 + 6 + 2 * s9), (0, q9), (0, sPr N s9), (0, x.2)]) (fun x => x.1) (V, 0) ⟨by rw [loN_0]; exact hm, by rw [loN_0]; exact hS, fun _ _ _ => rfl, Int.le_refl _, h2⟩ ?_
  rintro ⟨V1, i⟩ z ⟨hm1, hS1, hf1, hi0, hi1⟩ ih
  dsimp only at hm1 hS1 hf1 hi0 hi1 ih ⊢
  have hIi := hCi i hi0 hi1
  have ek := loN_f (N := N) (s := s9) i (w := 1) (by decide) (by decide) h3
  have ef := loN_f (N := N) (s := s9) i (w := 2) (by decide) (by decide) h3
  have en := loN_3 (N := N) (s := s9) i
  have e1 : loN N s9 i 1 = N 1 := loN_out h3 (by omega) (Or.inl (by omega))
  have hsp := sPr_sn (N := N) (s := s9) h3 i.toNat
  rw [show ((i.toNat : Nat) : Int) = i by omega] at hsp
  have hsi := snT_in9 hI hk.1 hk.2 (f := sF N s9 2) (n0 := sF N s9 3) i.toNat (fun t t0 t1 => hb9 t t0 (by omega))
  refine gB hC _ _ _ _ _ _ _ qX2_addNights_8 rfl ?_
  refine g_icmp_ge hC 41 dX2_addNights_11 rfl (by first | omega | exact cmpZ_in _ _ | exact bI_in _) (by first | omega | exact cmpZ_in _ _ | exact bI_in _) (fun c11 => ?_) (fun c11 => ?_)
  · have e9 : i = q9 := by omega
    subst e9
    refine gB hC _ _ _ _ _ _ _ qX2_addNights_41 rfl ?_
    refine g_getiv hC dX2_addNights_42 fX2_206 (hm.1.ss (by omega) (by omega)) (by decide) rfl 7 rfl hS1.f7 (fun i42 => ?_)
    refine gB hC _ _ _ _ _ _ _ qX2_addNights_45 rfl ?_
    refine g_ireturn hC dX2_addNights_47 hr ⟨?_, rfl, ?_, ?_, ?_⟩ gs_rfl ⟨Nat.le_of_ble_eq_true rfl, Nat.le_of_ble_eq_true rfl⟩
    · congr 3
      omega
    · exact hm1
    · exact hS1
    · exact hf1
  · refine gB hC _ _ _ _ _ _ _ qX2_addNights_14 rfl ?_
    refine g_getiv hC dX2_addNights_17 fX2_207 (hm.1.ss (by omega) (by omega)) (by decide) rfl 1 rfl (hS1.f1.trans ek) (fun i17 => ?_)
    refine gB hC _ _ _ _ _ _ _ qX2_addNights_20 rfl ?_
    refine g_getiv hC dX2_addNights_21 fX2_208 (hm.1.ss (by omega) (by omega)) (by decide) rfl 2 rfl (hS1.f2.trans ef) (fun i21 => ?_)
    refine gB hC _ _ _ _ _ _ _ qX2_addNights_24 rfl ?_
    refine g_getiv hC dX2_addNights_25 fX2_209 (hm.1.ss (by omega) (by omega)) (by decide) rfl 3 rfl (hS1.f3.trans en) (fun i25 => ?_)
    refine gB hC _ _ _ _ _ _ _ qX2_addNights_28 rfl ?_
    refine g_cV1i hC dX2_addNights_29 mX2_210 vX2_nightPrice (kX2_nightPrice hm1 hIi.1 (by omega) (by rw [e1]; omega) (by omega) (by omega)) rfl hm.1.sH (by decide) rfl (Nat.le_of_ble_eq_true rfl) (RR rfl rfl rfl rfl) (fun z i29 => ?_)
    have hnh := nPr_had hI hk.1 hk.2 (hb9 i hi0 (by omega))
    rw [hn i hi0 (by omega)]
    refine g_cV0m hC dX2_addNights_32 mX2_213 vX8_addNight (kX8_addNight (hm.1.ss h0 h1) (hm.1.sn h0 h1) (hm1.2.1.pn h0 h1) (hS1.f3.trans en) hS1.f7 (by omega) (by omega) (by omega) (by omega)) rfl (hm.1.ss (by omega) (by omega)) (by decide) rfl (Nat.le_of_ble_eq_true rfl) (RR rfl rfl rfl rfl) (fun z V32 e32 => ?_)
    refine gB hC _ _ _ _ _ _ _ qX2_addNights_35 rfl ?_
    have em : RH h9 (loN N s9 (i + 1)) Sh V32 := by
      refine RH_T (s := s9) hm1 hIi.szO h0 h1 (fun j hj _ => by rw [loN_out h3 (by omega) hj, loN_out h3 (by omega) hj]) (fun a q1 q2 _ => by rw [e32, up_row _ _ _ q1, up_row _ _ _ q1, up_row _ _ _ q2]) ?_ (fun _ => stR_lo hS1 h3 hi0 e32) (fun t t0 t1 => ?_)
      · rw [e32, up_ne _ _ (Or.inr (by decide)), up_ne _ _ (Or.inr (by decide)), up_ne _ _ (Or.inl (by omega))]; exact hm1.2.1.pn h0 h1
      · rw [e32, up_ne _ _ (Or.inl (by omega)), up_ne _ _ (Or.inl (by omega)), up_ne _ _ (Or.inl (by omega)), hm1.b t0 t1, loN_out h3 (by omega) (Or.inl (by omega)), loN_out h3 (by omega) (Or.inl (by omega))]
    exact ih (V32, i + 1) _ ⟨em, stR_lo hS1 h3 hi0 e32, fun a q1 q2 => by show V32 a = V a; rw [e32, up_row _ _ _ q1, up_row _ _ _ q1, up_row _ _ _ q2]; exact hf1 a q1 q2, by show 0 ≤ i + 1; omega, by show i + 1 ≤ q9; omega⟩ (by show (q9 - (i + 1)).toNat < (q9 - i).toNat; omega)

theorem kX2_takeIn {E l Sh V z} {h9 w9 k9 f9 n9 ad ch tl gp : Int} {N : gN0} (hm : RH h9 N Sh V) (hI0 : INV N) (w1 : Sh w9 = some (9, 0)) (e0 : V w9 0 = k9) (e1 : V w9 1 = f9) (e2 : V w9 2 = n9) (e3 : V w9 3 = ad) (e4 : V w9 4 = ch) (ho : mkOk N k9 f9 n9 ad ch tl gp) (hh : ∀ i, 0 ≤ i → i < n9 → cnt N k9 (f9 + i) < kF N k9 0 + kF N k9 2) : gM E l yX2_takeIn (.code yX2_takeIn cX2_takeIn 5 (some .int)) (rmk 4 0 0 130) [(2, h9), (2, w9), (0, tl), (0, gp)] Sh V z (gRe (some (0, N 5)) (fun V' => RH h9 (mkN N k9 f9 n9 ad ch tl gp) Sh V' ∧ ∀ a, a ≠ h9 + 6 + 2 * N 5 → a ≠ h9 + 6 + 2 * N 5 + 1 → a ≠ h9 + 4 → V' a = V a) Sh) := by
  refine gM_at (L0 := [(2, h9), (2, w9), (0, tl), (0, gp), (9, 0)]) rfl rfl rfl ?_
  intro p e s m args below meth c hC hr hex hnm hz
  have hI := hI0.1
  have hsc := hI.1
  unfold iScal at hsc
  unfold mkOk at ho
  have h5 : N 5 < 60 := by omega
  have h50 : 0 ≤ N 5 := by omega
  refine gB hC _ _ _ _ _ _ _ qX2_takeIn_0 rfl ?_
  refine g_getr hC dX2_takeIn_1 fX2_41 hm.1.sH (by decide) rfl 11 rfl hm.2.1.p11 ?_
  refine g_getiv hC dX2_takeIn_4 fX2_187 hm.1.sT (by decide) rfl 1 rfl hm.tS (fun i4 => ?_)
  refine gB hC _ _ _ _ _ _ _ qX2_takeIn_7 rfl ?_
  refine g_icmp_lt hC 14 dX2_takeIn_9 rfl (by first | omega | exact cmpZ_in _ _ | exact bI_in _) (by first | omega | exact cmpZ_in _ _ | exact bI_in _) (fun c9 => ?_) (fun c9 => ?_)
  · refine gB hC _ _ _ _ _ _ _ qX2_takeIn_14 rfl ?_
    refine g_getr hC dX2_takeIn_15 fX2_41 hm.1.sH (by decide) rfl 11 rfl hm.2.1.p11 ?_
    refine g_getr hC dX2_takeIn_18 fX2_193 hm.1.sT (by decide) rfl 0 rfl hm.2.1.pR ?_
    refine gB hC _ _ _ _ _ _ _ qX2_takeIn_21 rfl ?_
    refine g_getr hC dX2_takeIn_22 fX2_41 hm.1.sH (by decide) rfl 11 rfl hm.2.1.p11 ?_
    refine g_getiv hC dX2_takeIn_25 fX2_187 hm.1.sT (by decide) rfl 1 rfl hm.tS (fun i25 => ?_)
    refine g_aald hC (j := 6) dX2_takeIn_28 hm.1.sR (by decide) (hm.2.1.ps (by omega) (by omega)) (by omega) (by omega) (by decide) ?_
    refine gB hC _ _ _ _ _ _ _ qX2_takeIn_29 rfl ?_
    refine g_getiv hC dX2_takeIn_37 fX2_83 hm.1.sH (by decide) rfl 7 rfl hm.t7 (fun i37 => ?_)
    refine g_cV0m hC dX2_takeIn_40 mX2_197 vX8_begin (kX8_begin (hm.1.ss h50 h5) w1 (fun q => by rw [q, hm.1.ss h50 h5] at w1; cases w1) (by omega) (by omega) (by omega)) rfl (hm.1.ss (by omega) (by omega)) (by decide) rfl (Nat.le_of_ble_eq_true rfl) (RR rfl rfl rfl rfl) (fun z V40 e40 => ?_)
    have hne9 : w9 ≠ h9 + 6 + 2 * N 5 := fun q => by rw [q, hm.1.ss h50 h5] at w1; cases w1
    have hbl : ∀ a, a ≠ h9 + 6 + 2 * N 5 → V40 a = V a := fun a ha => by rw [e40]; exact rwV_ne ha
    have hbf := mkN_f (N := N) (k := k9) (first := f9) (nights := 0) (adults := ad) (children := ch) (till := tl) (group := gp) h50
    have hbs : ∀ w, 0 ≤ w → sF (bgN N k9 f9 ad ch tl gp) (N 5) w = sF (mkN N k9 f9 0 ad ch tl gp) (N 5) w := fun w hw => bgN_s h50 w hw
    have b1 : sF (bgN N k9 f9 ad ch tl gp) (N 5) 1 = k9 := (hbs 1 (by decide)).trans hbf.2.1
    have b2 : sF (bgN N k9 f9 ad ch tl gp) (N 5) 2 = f9 := (hbs 2 (by decide)).trans hbf.2.2.1
    have b3 : sF (bgN N k9 f9 ad ch tl gp) (N 5) 3 = 0 := (hbs 3 (by decide)).trans hbf.2.2.2.1
    have b5 : bgN N k9 f9 ad ch tl gp 5 = N 5 := upN_eq _ _ _
    have hag := bgN_ag (N := N) (k := k9) (f := f9) (a := ad) (c := ch) (t := tl) (g := gp) h50 h5
    have hIb : INV (bgN N k9 f9 ad ch tl gp) := INV_S hag hI0
    have hpb : sPr (bgN N k9 f9 ad ch tl gp) (N 5) = 0 := by unfold sPr; rw [b3]; rfl
    have hSb : stR (h9 + 6 + 2 * N 5) (N 5) (bgN N k9 f9 ad ch tl gp) V40 := by
      have ev : ∀ j, 0 ≤ j → j < 11 → V40 (h9 + 6 + 2 * N 5) j = (rowL [0, V w9 0, V w9 1, 0, V w9 3, V w9 4, N 4, 0, 0, gp, tl]) j := fun j j0 j1 => by rw [e40]; exact rwV_at j0 j1
      refine ⟨⟨?_, ?_, ?_, ?_, ?_, ?_, ?_, ?_, ?_, ?_, ?_⟩, fun n n0 n1 => by rw [b3] at n1; omega⟩
      · rw [ev 0 (by decide) (by decide), hbs 0 (by decide), hbf.1]; rfl
      · rw [ev 1 (by decide) (by decide), b1]; exact e0
      · rw [ev 2 (by decide) (by decide), b2]; exact e1
      · rw [ev 3 (by decide) (by decide), b3]; rfl
      · rw [ev 4 (by decide) (by decide), hbs 4 (by decide), hbf.2.2.2.2.1]; exact e3
      · rw [ev 5 (by decide) (by decide), hbs 5 (by decide), hbf.2.2.2.2.2.1]; exact e4
      · rw [ev 6 (by decide) (by decide), hbs 7 (by decide), hbf.2.2.2.2.2.2.2.1]; rfl
      · rw [ev 7 (by decide) (by decide), hpb]; rfl
      · rw [ev 8 (by decide) (by decide), hbs 6 (by decide), hbf.2.2.2.2.2.2.1]; rfl
      · rw [ev 9 (by decide) (by decide), hbs 8 (by decide), hbf.2.2.2.2.2.2.2.2.1]; rfl
      · rw [ev 10 (by decide) (by decide), hbs 9 (by decide), hbf.2.2.2.2.2.2.2.2.2.1]; rfl
    have hmb : RH h9 (bgN N k9 f9 ad ch tl gp) Sh V40 := by
      refine RH_T (s := N 5) hm hI0.szO h50 h5 (fun j hj _ => bgN_out h50 hj) (fun a q1 _ _ => hbl a q1) ?_ (fun q => absurd q (Int.lt_irrefl _)) (fun i i0 i1 => ?_)
      · rw [e40, rwV_far (Or.inr (Or.inr (by decide)))]; exact hm.2.1.pn h50 h5
      · rw [hbl _ (by omega), hm.b i0 i1]; exact (hag _ (Or.inl (by omega))).symm
    have hkb : ∀ w, 0 ≤ w → w < 3 → kF (bgN N k9 f9 ad ch tl gp) k9 w = kF N k9 w := fun w _ _ => hag _ (Or.inl (by omega))
    refine gB hC _ _ _ _ _ _ _ qX2_takeIn_43 rfl ?_
    refine g_getiv hC dX2_takeIn_47 fX2_169 w1 (by decide) rfl 2 rfl ((congrFun (hbl w9 hne9) 2).trans e2) (fun i47 => ?_)
    refine g_cV1e hC dX2_takeIn_50 mX2_202 vX2_addNights (kX2_addNights (s9 := N 5) (q9 := n9) hmb (fun i i0 i1 => INV_S (fun j hj => loN_out (by omega) (by omega) (by rw [b5] at hj; omega)) hIb) (fun i i0 i1 => by rw [b1]; exact nPr_ag (fun j hj => loN_out (by omega) (by omega) (by rw [b5] at hj; omega)) hIb.1 (by omega) (by rw [hag 1 (Or.inl (by omega))]; omega) _) (fun i i0 i1 => by rw [b1, b2, b3, Int.zero_add, cnt_ag hag h50, hkb 0 (by decide) (by decide), hkb 2 (by decide) (by decide)]; exact hh i i0 i1) hSb h50 h5 (by rw [b1, hag 1 (Or.inl (by omega))]; omega) (by omega) (by omega) (by omega) (by omega) (by omega) (by rw [hpb, b3]; omega)) rfl hm.1.sH (by decide) rfl (Nat.le_of_ble_eq_true rfl) (RR rfl rfl rfl rfl) (fun z V50 e50 => ?_)
    have hlo := bgN_lo (N := N) (k := k9) (f := f9) (n := n9) (a := ad) (c := ch) (t := tl) (g := gp) hI (by omega) (by omega) h5 (by omega)
    have l5 : loN (bgN N k9 f9 ad ch tl gp) (N 5) n9 5 = N 5 := (loN_out (by omega) (by omega) (Or.inl (by omega))).trans b5
    have lS : INV (loN (bgN N k9 f9 ad ch tl gp) (N 5) n9) := INV_S (fun j hj => loN_out (by omega) (by omega) (by rw [b5] at hj; omega)) hIb
    have hsz := e50.1.tS
    rw [l5] at hsz
    refine gB hC _ _ _ _ _ _ _ qX2_takeIn_53 rfl ?_
    refine g_getr hC dX2_takeIn_55 fX2_41 hm.1.sH (by decide) rfl 11 rfl e50.1.2.1.p11 ?_
    refine gB hC _ _ _ _ _ _ _ qX2_takeIn_58 rfl ?_
    refine g_getiv hC dX2_takeIn_59 fX2_187 hm.1.sT (by decide) rfl 1 rfl hsz (fun i59 => ?_)
    refine gB hC _ _ _ _ _ _ _ qX2_takeIn_62 rfl ?_
    refine g_puti hC dX2_takeIn_64 fX2_187 hm.1.sT (by decide) rfl (fun _ h => by cases h; rfl) 1 rfl (by first | omega | exact cmpZ_in _ _ | exact bI_in _) (fun V64 e64 => ?_)
    refine gB hC _ _ _ _ _ _ _ qX2_takeIn_67 rfl ?_
    refine g_getr hC dX2_takeIn_68 fX2_41 hm.1.sH (by decide) rfl 11 rfl ((congrFun (congrFun e64 _) _).trans ((up_ne _ _ (by omega)).trans e50.1.2.1.p11)) ?_
    refine g_getiv hC dX2_takeIn_71 fX2_187 hm.1.sT (by decide) rfl 1 rfl ((congrFun (congrFun e64 _) _).trans (up_eq _ _ _ _)) (fun i71 => ?_)
    refine gB hC _ _ _ _ _ _ _ qX2_takeIn_74 rfl ?_
    refine g_ireturn hC dX2_takeIn_76 hr ⟨?_, rfl, ?_, ?_⟩ gs_rfl ⟨Nat.le_of_ble_eq_true rfl, Nat.le_of_ble_eq_true rfl⟩
    · congr 3
      omega
    · have := RH_push (V' := V64) e50.1 lS.szO (by omega) (by omega) (by rw [l5]; exact e50.2.1) (by rw [l5, loN_3, b3]; omega) (by rw [l5]; exact e64)
      rw [l5, hlo] at this
      exact this
    · intro a q1 q2 q3
      rw [e64, up_row _ _ _ q3, e50.2.2 a q1 q2]
      exact hbl a q1
  · exfalso; omega --stop

theorem kX2_lengthen {E l Sh V z} {h9 s9 q9 : Int} {N : gN0} (hm : RH h9 N Sh V) (hI0 : INV N) (h0 : 0 ≤ s9) (h1 : s9 < N 5) (h2 : 1 ≤ q9) (h3 : sF N s9 3 + q9 ≤ 14) (h4 : sF N s9 2 + sF N s9 3 + q9 ≤ 36525) : gM E l yX2_lengthen (.code yX2_lengthen cX2_lengthen 4 (some .int)) (rmk 4 0 0 130) [(2, h9), (2, h9 + 6 + 2 * s9), (0, q9)] Sh V z (gRe (some (0, if rfs N (sF N s9 1) (sF N s9 2 + sF N s9 3) q9 = -1 then snT N (sF N s9 1) (sF N s9 2 + sF N s9 3) q9.toNat else -1)) (fun V' => RH h9 (if rfs N (sF N s9 1) (sF N s9 2 + sF N s9 3) q9 = -1 then loN N s9 q9 else upN N 8 (dateZ (rfs N (sF N s9 1) (sF N s9 2 + sF N s9 3) q9))) Sh V' ∧ OUT h9 V V') Sh) := by
  refine gM_at (L0 := [(2, h9), (2, h9 + 6 + 2 * s9), (0, q9), (9, 0)]) rfl rfl rfl ?_
  intro p e s m args below meth c hC hr hex hnm hz
  have hI := hI0.1
  have hsc := hI.1
  unfold iScal at hsc
  have hso := hI.2.2.2.1 s9 h0 h1
  have hs1 := hso.1
  have hpr := prT_in hso (sF N s9 3).toNat (by omega)
  have hri := rfs_in N (sF N s9 1) (sF N s9 2 + sF N s9 3) q9 (by omega) (by omega)
  refine gB hC _ _ _ _ _ _ _ qX2_lengthen_0 rfl ?_
  refine g_getiv hC dX2_lengthen_2 fX2_207 (hm.1.ss (by omega) (by omega)) (by decide) rfl 1 rfl (hm.st (by omega) (by omega)).f1 (fun i2 => ?_)
  refine gB hC _ _ _ _ _ _ _ qX2_lengthen_5 rfl ?_
  refine g_getiv hC dX2_lengthen_6 fX2_208 (hm.1.ss (by omega) (by omega)) (by decide) rfl 2 rfl (hm.st (by omega) (by omega)).f2 (fun i6 => ?_)
  refine gB hC _ _ _ _ _ _ _ qX2_lengthen_9 rfl ?_
  refine g_getiv hC dX2_lengthen_10 fX2_209 (hm.1.ss (by omega) (by omega)) (by decide) rfl 3 rfl (hm.st (by omega) (by omega)).f3 (fun i10 => ?_)
  refine gB hC _ _ _ _ _ _ _ qX2_lengthen_13 rfl ?_
  refine g_cV1i hC dX2_lengthen_15 mX2_172 vX2_firstNotHad (kX2_firstNotHad hm hI (by omega) (by omega) (by omega) (by omega) (by omega)) rfl hm.1.sH (by decide) rfl (Nat.le_of_ble_eq_true rfl) (RR rfl rfl rfl rfl) (fun z i15 => ?_)
  refine gB hC _ _ _ _ _ _ _ qX2_lengthen_18 rfl ?_
  refine g_icmp_eq hC 31 dX2_lengthen_21 rfl (by first | omega | exact cmpZ_in _ _ | exact bI_in _) (by first | omega | exact cmpZ_in _ _ | exact bI_in _) (fun c21 => ?_) (fun c21 => ?_)
  · have e9 : rfs N (sF N s9 1) (sF N s9 2 + sF N s9 3) q9 = -1 := by omega
    have hhd : ∀ i : Int, 0 ≤ i → i < q9 → cnt N (sF N s9 1) (sF N s9 2 + sF N s9 3 + i) < kF N (sF N s9 1) 0 + kF N (sF N s9 1) 2 := fun i i0 i1 => rfsT_had q9.toNat _ e9 (by omega) i i0 (by omega)
    have hli : ∀ i : Int, 0 ≤ i → i ≤ q9 → INV (loN N s9 i) := by
      intro i i0 i1
      by_cases hi : i = 0
      · subst hi; rw [loN_0]; exact hI0
      · exact loN_inv hI0 h0 h1 (by omega) (by omega) (by omega) (fun t t0 t1 => hhd t t0 (by omega))
    refine gB hC _ _ _ _ _ _ _ qX2_lengthen_31 rfl ?_
    refine g_cV1e hC dX2_lengthen_34 mX2_202 vX2_addNights (kX2_addNights (s9 := s9) (q9 := q9) hm hli (fun i i0 i1 => nPr_lo hI h0 (by omega) (by omega) (by omega) i0 (by omega) (by omega)) (fun i i0 i1 => by rw [← Int.add_assoc]; exact hhd i i0 i1) (hm.st h0 h1) h0 (by omega) (by omega) (by omega) (by omega) (by omega) (by omega) (by omega) (by unfold sPr; omega)) rfl hm.1.sH (by decide) rfl (Nat.le_of_ble_eq_true rfl) (RR rfl rfl rfl rfl) (fun z V34 e34 => ?_)
    refine g_ireturn hC dX2_lengthen_37 hr ⟨?_, rfl, ?_, ?_⟩ gs_rfl ⟨Nat.le_of_ble_eq_true rfl, Nat.le_of_ble_eq_true rfl⟩
    · rw [if_pos e9]
    · rw [if_pos e9]; exact e34.1
    · exact fun a ha => e34.2.2 a (by omega) (by omega)
  · refine gB hC _ _ _ _ _ _ _ qX2_lengthen_24 rfl ?_
    refine g_puti hC dX2_lengthen_26 fX2_17 hm.1.sH (by decide) rfl (fun _ h => by cases h; rfl) 1 rfl (by first | omega | exact cmpZ_in _ _ | exact bI_in _) (fun V26 e26 => ?_)
    refine gB hC _ _ _ _ _ _ _ qX2_lengthen_29 rfl ?_
    refine g_ireturn hC dX2_lengthen_30 hr ⟨?_, rfl, ?_, ?_⟩ gs_rfl ⟨Nat.le_of_ble_eq_true rfl, Nat.le_of_ble_eq_true rfl⟩
    · rw [if_neg (by omega)]
    · rw [if_neg (by omega)]
      exact RH_r8 hm hI0.szO (by omega) (by omega) e26
    · rw [e26]; exact (OUT.rfl' _ _).up (by omega)

theorem kX2_place {E l Sh V z} {h9 w9 k9 f9 n9 ad ch tl gp : Int} {N : gN0} (hm : RH h9 N Sh V) (hI0 : INV N) (w1 : Sh w9 = some (9, 0)) (e0 : V w9 0 = k9) (e1 : V w9 1 = f9) (e2 : V w9 2 = n9) (e3 : V w9 3 = ad) (e4 : V w9 4 = ch) (ho : mkOk N k9 f9 n9 ad ch tl gp) : gM E l yX2_place (.code yX2_place cX2_place 5 (some .int)) (rmk 5 0 0 160) [(2, h9), (2, w9), (0, tl), (0, gp)] Sh V z (gRe (some (0, if rfd N k9 f9 n9 = -1 then N 5 else -1)) (fun V' => RH h9 (if rfd N k9 f9 n9 = -1 then mkN N k9 f9 n9 ad ch tl gp else upN N 8 (dateZ (rfd N k9 f9 n9))) Sh V' ∧ OUT h9 V V') Sh) := by
  refine gM_at (L0 := [(2, h9), (2, w9), (0, tl), (0, gp), (9, 0)]) rfl rfl rfl ?_
  intro p e s m args below meth c hC hr hex hnm hz
  have hI := hI0.1
  have hsc := hI.1
  unfold iScal at hsc
  have ho2 := ho
  unfold mkOk at ho2
  have hri := rfd_in N (k := k9) (first := f9) (nights := n9) (by omega) (by omega)
  refine gB hC _ _ _ _ _ _ _ qX2_place_0 rfl ?_
  refine g_cV1i hC dX2_place_2 mX2_179 vX2_refusalOf (kX2_refusalOf hm hI w1 e0 e1 e2 (by omega) (by omega) (by omega) (by omega) (by omega)) rfl hm.1.sH (by decide) rfl (Nat.le_of_ble_eq_true rfl) (RR rfl rfl rfl rfl) (fun z i2 => ?_)
  refine gB hC _ _ _ _ _ _ _ qX2_place_5 rfl ?_
  refine g_icmp_eq hC 21 dX2_place_10 rfl (by first | omega | exact cmpZ_in _ _ | exact bI_in _) (by first | omega | exact cmpZ_in _ _ | exact bI_in _) (fun c10 => ?_) (fun c10 => ?_)
  · refine gB hC _ _ _ _ _ _ _ qX2_place_21 rfl ?_
    refine g_cV1e hC dX2_place_25 mX2_183 vX2_takeIn (kX2_takeIn hm hI0 w1 e0 e1 e2 e3 e4 ho (rfd_had (show rfd N k9 f9 n9 = -1 by omega) (by omega) (by omega)).1) rfl hm.1.sH (by decide) rfl (Nat.le_of_ble_eq_true rfl) (RR rfl rfl rfl rfl) (fun z V25 e25 => ?_)
    refine g_ireturn hC dX2_place_28 hr ⟨?_, rfl, ?_, ?_⟩ gs_rfl ⟨Nat.le_of_ble_eq_true rfl, Nat.le_of_ble_eq_true rfl⟩
    · rw [if_pos (by omega)]
    · rw [if_pos (by omega)]; exact e25.1
    · exact fun a ha => e25.2 a (by omega) (by omega) (by omega)
  · refine gB hC _ _ _ _ _ _ _ qX2_place_13 rfl ?_
    refine g_puti hC dX2_place_16 fX2_17 hm.1.sH (by decide) rfl (fun _ h => by cases h; rfl) 1 rfl (by first | omega | exact cmpZ_in _ _ | exact bI_in _) (fun V16 e16 => ?_)
    refine gB hC _ _ _ _ _ _ _ qX2_place_19 rfl ?_
    refine g_ireturn hC dX2_place_20 hr ⟨?_, rfl, ?_, ?_⟩ gs_rfl ⟨Nat.le_of_ble_eq_true rfl, Nat.le_of_ble_eq_true rfl⟩
    · rw [if_neg (by omega)]
    · rw [if_neg (by omega)]
      exact RH_r8 hm hI0.szO (by omega) (by omega) e16
    · rw [e16]; exact (OUT.rfl' _ _).up (by omega)

