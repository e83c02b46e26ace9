/-! what stays holds behind each change (laid by wip/whole/gen9e.py) -/
theorem nv_addKind {r9 p9 : Int} {N : gN0} (hI : INV N) (kz : KZ N) (h : fitC (bI ((1 ≤ r9 ∧ r9 ≤ 6) ∧ 100 ≤ p9 ∧ p9 ≤ 100000)) (bI (N 1 < 3)) 1 = 0) : INV (upN (upN (upN N (31 + N 1 * 3 + 0) r9) (31 + N 1 * 3 + 1) p9) 1 (N 1 + 1)) ∧ KZ (upN (upN (upN N (31 + N 1 * 3 + 0) r9) (31 + N 1 * 3 + 1) p9) 1 (N 1 + 1)) := by
  have hs := hI.1.1
  unfold iScal at hs
  exact ak_inv hI kz (fit_p1 h).1 (fit_p1 h).2 (fit_p2 h)
theorem nv_closeNight {k9 d9 cl : Int} {N : gN0} (hI : INV N) (kz : KZ N) (h : fitC (bI (0 ≤ k9 ∧ k9 ≤ N 1 - 1)) (bI (dayZ d9 ≠ -1)) 1 = 0) : INV (if cl = 0 then (lk (clN N k9 (dayZ d9) cl)).1 else clN N k9 (dayZ d9) cl) ∧ KZ (if cl = 0 then (lk (clN N k9 (dayZ d9) cl)).1 else clN N k9 (dayZ d9) cl) := by
  have hs := hI.1.1
  unfold iScal at hs
  have h1 := fit_p1 h
  have h2 := fit_p2 h
  have h3 := dayZ_in d9
  have i1 := clN_inv (cl := cl) hI h1.1 (show 0 ≤ dayZ d9 by omega)
  have z1 := KZ_cl (cl := cl) (d := dayZ d9) kz hI h1.1 (by omega) (by omega)
  split
  · exact ⟨lk_inv i1, KZ_lk z1 i1⟩
  · exact ⟨i1, z1⟩
theorem nv_setExtra {k9 e9 : Int} {N : gN0} (hI : INV N) (kz : KZ N) (h : fitC (bI (0 ≤ k9 ∧ k9 ≤ N 1 - 1)) (bI (0 ≤ e9 ∧ e9 ≤ 3)) 1 = 0) : INV ((lk (upN N (31 + k9 * 3 + 2) e9)).1) ∧ KZ ((lk (upN N (31 + k9 * 3 + 2) e9)).1) := by
  have hs := hI.1.1
  unfold iScal at hs
  have h1 := fit_p1 h
  have h2 := fit_p2 h
  have i1 := InvC_x (k := k9) (x := e9) hI.1 h1.1 (by omega) h2.1 h2.2 hI
  exact ⟨lk_inv i1, KZ_lk (KZ_x kz hI h1.1 (by omega)) i1⟩
theorem nv_addSeason {fa fb pe le9 : Int} {N : gN0} (hI : INV N) (kz : KZ N) (h : fitC (bI ((0 < fa ∧ fa < 10000 ∧ dayZ (20000000 + fa) ≠ -1) ∧ (0 < fb ∧ fb < 10000 ∧ dayZ (20000000 + fb) ≠ -1) ∧ (-50 ≤ pe ∧ pe ≤ 100) ∧ 1 ≤ le9 ∧ le9 ≤ 7)) (bI (N 2 < 4)) 1 = 0) : INV (upN (upN (upN (upN (upN N (40 + N 2 * 4) fa) (40 + N 2 * 4 + 1) fb) (40 + N 2 * 4 + 2) pe) (40 + N 2 * 4 + 3) le9) 2 (N 2 + 1)) ∧ KZ (upN (upN (upN (upN (upN N (40 + N 2 * 4) fa) (40 + N 2 * 4 + 1) fb) (40 + N 2 * 4 + 2) pe) (40 + N 2 * 4 + 3) le9) 2 (N 2 + 1)) := by
  have hs := hI.1.1
  unfold iScal at hs
  have h1 := fit_p1 h
  have h2 := fit_p2 h
  refine ⟨as_inv hI (doy_in h1.1) (doy_in h1.2.1) h1.2.2.1 h1.2.2.2 h2, ?_⟩
  have e : ∀ j, (j ≠ 2 ∧ (j < 40 ∨ 56 ≤ j)) → upN (upN (upN (upN (upN N (40 + N 2 * 4) fa) (40 + N 2 * 4 + 1) fb) (40 + N 2 * 4 + 2) pe) (40 + N 2 * 4 + 3) le9) 2 (N 2 + 1) j = N j := fun j hj => by rw [upN_ne (by omega), upN_ne (by omega), upN_ne (by omega), upN_ne (by omega), upN_ne (by omega)]
  exact KZ_lo kz (e 1 (by omega)) (by omega) (fun j hj => e j (by omega))
theorem nv_setWeekend {a9 b9 : Int} {N : gN0} (hI : INV N) (kz : KZ N) (h : fitC (bI ((0 ≤ a9 ∧ a9 ≤ 100) ∧ 0 ≤ b9 ∧ b9 ≤ 1000)) 1 1 = 0) : INV (upN (upN N 3 a9) 4 b9) ∧ KZ (upN (upN N 3 a9) 4 b9) := by
  have hs := hI.1.1
  unfold iScal at hs
  have h1 := fit_p1 h
  refine ⟨sw_inv hI h1.1 h1.2, KZ_lo kz ?_ (by omega) (fun j hj => ?_)⟩
  · rw [upN_ne (by omega), upN_ne (by omega)]
  · rw [upN_ne (by omega), upN_ne (by omega)]
theorem nv_ask {k9 f9 n9 ad ch tl : Int} {N : gN0} (hI : INV N) (kz : KZ N) (h : fitC (bI (0 ≤ k9 ∧ k9 ≤ N 1 - 1)) (bI (askC N f9 n9 ad ch ∧ tilC N tl f9)) (bI (N 5 < 60)) = 0) : INV (if rfd N k9 (dayZ f9) n9 = -1 then mkN N k9 (dayZ f9) n9 ad ch (dayZ tl) (-1) else upN N 8 (dateZ (rfd N k9 (dayZ f9) n9))) ∧ KZ (if rfd N k9 (dayZ f9) n9 = -1 then mkN N k9 (dayZ f9) n9 ad ch (dayZ tl) (-1) else upN N 8 (dateZ (rfd N k9 (dayZ f9) n9))) := by
  have hs := hI.1.1
  unfold iScal at hs
  have h1 := fit_p1 h
  have h2 := fit_p2 h
  have h3 := fit_p3 h
  unfold askC tilC at h2
  have g1 := dayZ_in f9
  have g2 := dayZ_in tl
  split
  · rename_i hr
    have hO : mkOk N k9 (dayZ f9) n9 ad ch (dayZ tl) (-1) := by unfold mkOk; omega
    exact ⟨INV_mk hI hO (rfd_had hr (by omega) (by omega)).1, KZ_mk kz hI hO⟩
  · refine ⟨rn_inv hI _, KZ_lo kz (upN_ne (by omega)) (by omega) (fun j hj => upN_ne (by omega))⟩
theorem nv_group {k9 t9 f9 n9 tl : Int} {N : gN0} (hI : INV N) (kz : KZ N) (h : fitC (bI (0 ≤ k9 ∧ k9 ≤ N 1 - 1)) (bI ((1 ≤ t9 ∧ t9 ≤ 6) ∧ askC N f9 n9 1 0 ∧ tilC N tl f9)) (bI (N 6 < 10 ∧ N 5 + t9 ≤ 60)) = 0) : INV (if (grT N k9 (dayZ f9) n9 (dayZ tl) (N 6) t9.toNat).2 = -1 then upN (grT N k9 (dayZ f9) n9 (dayZ tl) (N 6) t9.toNat).1 6 (N 6 + 1) else upN N 8 (dateZ (grT N k9 (dayZ f9) n9 (dayZ tl) (N 6) t9.toNat).2)) ∧ KZ (if (grT N k9 (dayZ f9) n9 (dayZ tl) (N 6) t9.toNat).2 = -1 then upN (grT N k9 (dayZ f9) n9 (dayZ tl) (N 6) t9.toNat).1 6 (N 6 + 1) else upN N 8 (dateZ (grT N k9 (dayZ f9) n9 (dayZ tl) (N 6) t9.toNat).2)) := by
  have hs := hI.1.1
  unfold iScal at hs
  have h1 := fit_p1 h
  have h2 := fit_p2 h
  have h3 := fit_p3 h
  unfold askC tilC at h2
  have g1 := dayZ_in f9
  have g2 := dayZ_in tl
  obtain ⟨a1, -, -, a4, -, -⟩ := grT_inv (k := k9) (first := dayZ f9) (nights := n9) (till := dayZ tl) (g := N 6) hI (by omega) t9.toNat (by omega)
  split
  · generalize (grT N k9 (dayZ f9) n9 (dayZ tl) (N 6) t9.toNat).1 = M at *
    have z1 : KZ M := KZ_lo kz (a4 1 (by decide) (by omega)) (by omega) (fun j hj => a4 j (by omega) (by omega))
    have e1 := a4 1 (by decide) (by omega)
    refine ⟨gc_inv a1 (by omega), KZ_lo z1 (upN_ne (by omega)) (by omega) (fun j hj => upN_ne (by omega))⟩
  · refine ⟨rn_inv hI _, KZ_lo kz (upN_ne (by omega)) (by omega) (fun j hj => upN_ne (by omega))⟩
theorem lgS_lo {N : gN0} {g : Int} : ∀ n : Nat, ∀ j, (j < 56 ∨ 56 + (n : Int) * 24 ≤ j) → (lgS N g n).1 j = N j := by
  intro n
  induction n with
  | zero => intro j _; rfl
  | succ n ih =>
    intro j hj
    unfold lgS
    split
    · show upN _ _ _ _ = _
      rw [upN_ne (by omega)]
      exact ih j (by omega)
    · exact ih j (by omega)
theorem caN_ag (N : gN0) (s : Int) : AgT N (caN N s) s := by
  intro j q1 q2
  unfold caN
  rw [upN_ne (by omega)]
  split
  · rw [mvN_far _ (by decide) (by decide) q2, mvN_far _ (by decide) (by decide) q2]
  · rfl
theorem payN_ag (N : gN0) (s : Int) : AgT N (payN N s) s := by
  intro j q1 q2
  unfold payN
  rw [mvN_far _ (by decide) (by decide) q2, upN_ne (by omega), upN_ne (by omega)]
theorem shN_ag (N : gN0) (s n : Int) : AgT N (shN N s n) s := by
  intro j q1 q2
  unfold shN
  rw [upN_ne (by omega)]
theorem nv_letGo {g9 : Int} {N : gN0} (hI : INV N) (kz : KZ N) (h : fitC (bI (0 ≤ g9 ∧ g9 ≤ N 6 - 1)) 1 1 = 0) : INV ((lk (lgS N g9 (N 5).toNat).1).1) ∧ KZ ((lk (lgS N g9 (N 5).toNat).1).1) := by
  have hs := hI.1.1
  unfold iScal at hs
  have i1 := (lgS_inv (g := g9) hI (N 5).toNat (by omega)).1
  have z1 : KZ (lgS N g9 (N 5).toNat).1 := KZ_lo kz (lgS_lo _ 1 (by omega)) (by omega) (fun j hj => lgS_lo _ j (by omega))
  exact ⟨lk_inv i1, KZ_lk z1 i1⟩
theorem nv_waitFor {k9 f9 n9 ad ch : Int} {N : gN0} (hI : INV N) (kz : KZ N) (h : fitC (bI (0 ≤ k9 ∧ k9 ≤ N 1 - 1)) (bI (askC N f9 n9 ad ch)) (bI (N 7 < 20)) = 0) : INV (waN N k9 (dayZ f9) n9 ad ch) ∧ KZ (waN N k9 (dayZ f9) n9 ad ch) := by
  have hs := hI.1.1
  unfold iScal at hs
  have h1 := fit_p1 h
  have h2 := fit_p2 h
  have h3 := fit_p3 h
  unfold askC at h2
  have g1 := dayZ_in f9
  refine ⟨wa_inv hI (by omega) (by omega) (by omega) (by omega) (by omega) h3, KZ_lo kz ?_ (by omega) (fun j hj => ?_)⟩
  · unfold waN; rw [upN_ne (by omega), upN_ne (by omega), upN_ne (by omega), upN_ne (by omega), upN_ne (by omega), upN_ne (by omega)]
  · unfold waN; rw [upN_ne (by omega), upN_ne (by omega), upN_ne (by omega), upN_ne (by omega), upN_ne (by omega), upN_ne (by omega)]
theorem nv_pay {s9 : Int} {N : gN0} (hI : INV N) (kz : KZ N) (h : fitC (bI (0 ≤ s9 ∧ s9 ≤ N 5 - 1)) (bI ((0 ≤ s9 ∧ s9 ≤ N 5 - 1) ∧ sF N s9 0 = 0)) 1 = 0) : INV (payN N s9) ∧ KZ (payN N s9) := by
  have hs := hI.1.1
  unfold iScal at hs
  have h2 := fit_p2 h
  exact ⟨pay_inv hI (by omega) (by omega) h2.2, KZ_T kz hI (payN_ag N s9) (by omega) (by omega)⟩
theorem nv_cancel {s9 : Int} {N : gN0} (hI : INV N) (kz : KZ N) (h : fitC (bI (0 ≤ s9 ∧ s9 ≤ N 5 - 1)) (bI ((0 ≤ s9 ∧ s9 ≤ N 5 - 1) ∧ (sF N s9 0 = 0 ∨ sF N s9 0 = 1) ∧ N 0 < sF N s9 2)) 1 = 0) : INV ((lk (caN N s9)).1) ∧ KZ ((lk (caN N s9)).1) := by
  have hs := hI.1.1
  unfold iScal at hs
  have h2 := fit_p2 h
  have i1 := caN_inv (s := s9) hI (by omega) (by omega) h2.2.1
  exact ⟨lk_inv i1, KZ_lk (KZ_T kz hI (caN_ag N s9) (by omega) (by omega)) i1⟩
theorem nv_longer {s9 n9 : Int} {N : gN0} (hI : INV N) (kz : KZ N) (h : fitC (bI (0 ≤ s9 ∧ s9 ≤ N 5 - 1)) (bI ((0 ≤ s9 ∧ s9 ≤ N 5 - 1) ∧ (1 ≤ n9 ∧ n9 ≤ 13) ∧ sF N s9 3 + n9 ≤ 14 ∧ sF N s9 2 + sF N s9 3 - 1 + n9 ≤ N 0 + 365 ∧ sF N s9 2 + sF N s9 3 - 1 + n9 < 36525)) (bI ((0 ≤ s9 ∧ s9 ≤ N 5 - 1) ∧ (sF N s9 0 = 0 ∨ sF N s9 0 = 1))) = 0) : INV (if rfs N (sF N s9 1) (sF N s9 2 + sF N s9 3) n9 = -1 then loN N s9 n9 else upN N 8 (dateZ (rfs N (sF N s9 1) (sF N s9 2 + sF N s9 3) n9))) ∧ KZ (if rfs N (sF N s9 1) (sF N s9 2 + sF N s9 3) n9 = -1 then loN N s9 n9 else upN N 8 (dateZ (rfs N (sF N s9 1) (sF N s9 2 + sF N s9 3) n9))) := by
  have hs := hI.1.1
  unfold iScal at hs
  have h2 := fit_p2 h
  have hk := (hI.1.2.2.2.1 s9 (by omega) (by omega)).1
  split
  · rename_i hr
    have hh : ∀ i : Int, 0 ≤ i → i < n9 → cnt N (sF N s9 1) (sF N s9 2 + sF N s9 3 + i) < kF N (sF N s9 1) 0 + kF N (sF N s9 1) 2 := fun i a c => rfsT_had _ _ hr (by omega) i a (by omega)
    refine ⟨loN_inv hI (by omega) (by omega) (by omega) (by omega) (by omega) hh, KZ_T (s := s9) kz hI (fun j q1 q2 => ?_) (by omega) (by omega)⟩
    unfold loN
    rw [upN_ne (by omega)]
    exact prP_s (by omega) (by omega) (by omega) j q1 q2
  · refine ⟨rn_inv hI _, KZ_lo kz (upN_ne (by omega)) (by omega) (fun j hj => upN_ne (by omega))⟩
theorem nv_shorter {s9 n9 : Int} {N : gN0} (hI : INV N) (kz : KZ N) (h : fitC (bI (0 ≤ s9 ∧ s9 ≤ N 5 - 1)) (bI ((0 ≤ s9 ∧ s9 ≤ N 5 - 1) ∧ (1 ≤ n9 ∧ n9 ≤ 13) ∧ n9 < sF N s9 3 ∧ N 0 ≤ sF N s9 2 + sF N s9 3 - 1 - n9 + 1)) (bI ((0 ≤ s9 ∧ s9 ≤ N 5 - 1) ∧ (sF N s9 0 = 0 ∨ sF N s9 0 = 1))) = 0) : INV ((lk (shN N s9 n9)).1) ∧ KZ ((lk (shN N s9 n9)).1) := by
  have hs := hI.1.1
  unfold iScal at hs
  have h2 := fit_p2 h
  have i1 := shN_inv (s := s9) (n := n9) hI (by omega) (by omega) (by omega) (by omega)
  exact ⟨lk_inv i1, KZ_lk (KZ_T kz hI (shN_ag N s9 n9) (by omega) (by omega)) i1⟩
theorem nv_passes {d9 : Int} {N : gN0} (hI : INV N) (kz : KZ N) (h : fitC (bI ((1 ≤ d9 ∧ d9 ≤ 31) ∧ N 0 + d9 < 36525)) 1 1 = 0) : INV (psT N d9.toNat) ∧ KZ (psT N d9.toNat) := by
  have hs := hI.1.1
  unfold iScal at hs
  have h1 := fit_p1 h
  exact ⟨(psT_inv hI d9.toNat (by omega)).1, KZ_ps kz hI d9.toNat (by omega)⟩
theorem nv_setOdds {so p9 o9 : Int} {N : gN0} (hI : INV N) (kz : KZ N) (h : fitC (bI (0 ≤ so ∧ so ≤ 3)) (bI ((0 ≤ p9 ∧ p9 ≤ 100000) ∧ (0 ≤ o9 ∧ o9 ≤ 1000) ∧ otT N so 4 + o9 ≤ 1000)) 1 = 0) : INV (upN (upN N (17 + so) p9) (13 + so) o9) ∧ KZ (upN (upN N (17 + so) p9) (13 + so) o9) := by
  have hs := hI.1.1
  unfold iScal at hs
  have h1 := fit_p1 h
  have h2 := fit_p2 h
  refine ⟨so_inv hI h1 h2.1 h2.2.1.1 h2.2.2, KZ_lo kz ?_ (by omega) (fun j hj => ?_)⟩
  · rw [upN_ne (by omega), upN_ne (by omega)]
  · rw [upN_ne (by omega), upN_ne (by omega)]
theorem nv_sell {d9 r9 : Int} {N : gN0} (hI : INV N) (kz : KZ N) (h : fitC (bI ((1 ≤ d9 ∧ d9 ≤ 4) ∧ 1 ≤ r9 ∧ r9 ≤ 4)) 1 1 = 0) : INV (selN N d9 r9) ∧ KZ (selN N d9 r9) := by
  have hs := hI.1.1
  unfold iScal at hs
  have h1 := fit_p1 h
  have e : ∀ j, (j < 21 ∨ 26 < j) → selN N d9 r9 j = N j := fun j hj => by unfold selN; rw [upN_ne (by omega), upN_ne (by omega), upN_ne (by omega), upN_ne (by omega), upN_ne (by omega), upN_ne (by omega)]
  exact ⟨sell_inv hI h1.1 h1.2, KZ_lo kz (e 1 (by omega)) (by omega) (fun j hj => e j (by omega))⟩
theorem nv_offer {p9 : Int} {N : gN0} (hI : INV N) (kz : KZ N) (h : fitC (bI (0 ≤ p9 ∧ p9 ≤ 100000)) (bI (N 21 = 1 ∧ 0 < N 22)) 1 = 0) : INV (if offC N p9 then offT N p9 else offN N p9) ∧ KZ (if offC N p9 then offT N p9 else offN N p9) := by
  have hs := hI.1.1
  unfold iScal at hs
  have h1 := fit_p1 h
  have h2 := fit_p2 h
  have ho := hI.2.2
  unfold oOk at ho
  have e : ∀ j, (j < 22 ∨ 30 < j) → offN N p9 j = N j := fun j hj => by unfold offN; rw [upN_ne (by omega), upN_ne (by omega), upN_ne (by omega)]
  have e2 : ∀ j, (j < 22 ∨ 30 < j) → offT N p9 j = N j := fun j hj => by unfold offT; rw [upN_ne (by omega), upN_ne (by omega)]; exact e j hj
  split
  · rename_i hc
    exact ⟨offT_inv hI h1 h2.2 hc.1, KZ_lo kz (e2 1 (by omega)) (by omega) (fun j hj => e2 j (by omega))⟩
  · exact ⟨off_inv hI h1 h2.2, KZ_lo kz (e 1 (by omega)) (by omega) (fun j hj => e j (by omega))⟩
