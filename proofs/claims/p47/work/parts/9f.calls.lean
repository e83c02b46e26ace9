/-! the class's changes where nothing is thrown, by days (laid by wip/p47/g9f.py) -/
theorem dayZ_dateZ {d : Int} (h0 : 0 ≤ d) (h1 : d ≤ 36524) : dayZ (dateZ d) = d := by
  obtain ⟨e1, e2, e3⟩ := day_date h0 h1
  obtain ⟨i1, i2, i3, i4, i5, i6⟩ := dateZ_in h0 h1
  obtain ⟨y1, y2, y3⟩ := yr_in h0
  have hy : yr d ≤ 2099 := by unfold yr; omega
  have hm := mZ_ch (y := yr d) (k := d - yB (yr d)) (by omega)
  have hdi : d - yB (yr d) - bM (yr d) (mZ (yr d) (d - yB (yr d))) + 1 ≤ dIM (yr d) (mZ (yr d) (d - yB (yr d))) := by
    rcases hm.2 with h | h
    · have h13 := bM_13 (yr d)
      have hn := yB_next (yr d) y3
      rw [h]
      omega
    · by_cases h12 : mZ (yr d) (d - yB (yr d)) = 12
      · have h13 := bM_13 (yr d)
        have hn := yB_next (yr d) y3
        rw [h12]
        omega
      · rw [bM_next _ _ i3 (by omega)] at h
        omega
  unfold dayZ
  rw [e1, e2, e3, if_pos ⟨by omega, by omega, by omega, by omega, by omega, by omega, hdi⟩]
  omega
theorem xask {E : gE} {l : Launch} {Sh : gSh} {V : gV} {z : Int} {x9 cc9 : Int} {N : gN0} {P9 : Int → gN0} {k9 f9 n9 ad ch tl : Int} (hx : XR x9 N P9 cc9 Sh V) (hI0 : INV N) (k0 : 0 ≤ k9 ∧ k9 < N 1) (h0 : N 0 ≤ 8822 + f9) (h1 : f9 ≤ 80) (h2 : 1 ≤ n9 ∧ n9 ≤ 14) (h3 : 1 ≤ ad ∧ ad ≤ 4) (h4 : 0 ≤ ch ∧ ch ≤ 4) (h5 : N 0 ≤ 8822 + tl ∧ tl ≤ f9) (h6 : N 5 < 60) : gM E l yX11_ask (.code yX11_ask cX11_ask 9 (some .int)) (rmk 11 60 600 420) [(2, x9), (0, k9), (0, dateZ (8822 + f9)), (0, n9), (0, ad), (0, ch), (0, dateZ (8822 + tl))] Sh V z (gRe (some (0, if rfd N k9 (8822 + f9) n9 = -1 then N 5 else -1)) (fun V' => XR x9 (if rfd N k9 (8822 + f9) n9 = -1 then mkN N k9 (8822 + f9) n9 ad ch (8822 + tl) (-1) else upN N 8 (dateZ (rfd N k9 (8822 + f9) n9))) (kpP P9 cc9 N) (min (cc9 + 1) 6) Sh V' ∧ OUX x9 Sh V V') Sh) := by
  have hsc := hI0.1.1
  unfold iScal at hsc
  have hdf9 := dayZ_dateZ (d := 8822 + f9) (by omega) (by omega)
  have hif9 := dateZ_in (d := 8822 + f9) (by omega) (by omega)
  have hdtl := dayZ_dateZ (d := 8822 + tl) (by omega) (by omega)
  have hitl := dateZ_in (d := 8822 + tl) (by omega) (by omega)
  have h := gM_k0 (kX11_ask (E := E) (l := l) (z := z) (k9 := k9) (f9 := dateZ (8822 + f9)) (n9 := n9) (ad := ad) (ch := ch) (tl := dateZ (8822 + tl)) hx hI0 (by omega) (by omega) (by omega) (by omega) (by omega) (by omega)) (fk3 (by omega) (by unfold askC tilC; omega) h6)
  rw [hdf9, hdtl] at h
  exact h
theorem xgroup {E : gE} {l : Launch} {Sh : gSh} {V : gV} {z : Int} {x9 cc9 : Int} {N : gN0} {P9 : Int → gN0} {k9 st9 f9 n9 : Int} (hx : XR x9 N P9 cc9 Sh V) (hI0 : INV N) (k0 : 0 ≤ k9 ∧ k9 < N 1) (h0 : N 0 ≤ 8822 + f9) (h1 : f9 ≤ 80) (h2 : 1 ≤ n9 ∧ n9 ≤ 14) (h3 : 1 ≤ st9 ∧ st9 ≤ 6) (h6 : N 6 < 10 ∧ N 5 + st9 ≤ 60) : gM E l yX11_group (.code yX11_group cX11_group 8 (some .int)) (rmk 11 60 600 420) [(2, x9), (0, k9), (0, st9), (0, dateZ (8822 + f9)), (0, n9), (0, dateZ (8822 + f9))] Sh V z (gRe (some (0, if (grT N k9 (8822 + f9) n9 (8822 + f9) (N 6) st9.toNat).2 = -1 then N 6 else -1)) (fun V' => XR x9 (if (grT N k9 (8822 + f9) n9 (8822 + f9) (N 6) st9.toNat).2 = -1 then upN (grT N k9 (8822 + f9) n9 (8822 + f9) (N 6) st9.toNat).1 6 (N 6 + 1) else upN N 8 (dateZ (grT N k9 (8822 + f9) n9 (8822 + f9) (N 6) st9.toNat).2)) (kpP P9 cc9 N) (min (cc9 + 1) 6) Sh V' ∧ OUX x9 Sh V V') Sh) := by
  have hsc := hI0.1.1
  unfold iScal at hsc
  have hdf9 := dayZ_dateZ (d := 8822 + f9) (by omega) (by omega)
  have hif9 := dateZ_in (d := 8822 + f9) (by omega) (by omega)
  have h := gM_k0 (kX11_group (E := E) (l := l) (z := z) (k9 := k9) (st9 := st9) (f9 := dateZ (8822 + f9)) (n9 := n9) (tl := dateZ (8822 + f9)) hx hI0 (by omega) (by omega) (by omega) (by omega) (by omega)) (fk3 (by omega) (by unfold askC tilC; omega) h6)
  rw [hdf9] at h
  exact h
theorem xwaitFor {E : gE} {l : Launch} {Sh : gSh} {V : gV} {z : Int} {x9 cc9 : Int} {N : gN0} {P9 : Int → gN0} {k9 f9 n9 ad ch : Int} (hx : XR x9 N P9 cc9 Sh V) (hI0 : INV N) (k0 : 0 ≤ k9 ∧ k9 < N 1) (h0 : N 0 ≤ 8822 + f9) (h1 : f9 ≤ 80) (h2 : 1 ≤ n9 ∧ n9 ≤ 14) (h3 : 1 ≤ ad ∧ ad ≤ 4) (h4 : 0 ≤ ch ∧ ch ≤ 4) (h6 : N 7 < 20) : gM E l yX11_waitFor (.code yX11_waitFor cX11_waitFor 7 (some .int)) (rmk 11 60 600 420) [(2, x9), (0, k9), (0, dateZ (8822 + f9)), (0, n9), (0, ad), (0, ch)] Sh V z (gRe (some (0, N 7 + 1)) (fun V' => XR x9 (waN N k9 (8822 + f9) n9 ad ch) (kpP P9 cc9 N) (min (cc9 + 1) 6) Sh V' ∧ OUX x9 Sh V V') Sh) := by
  have hsc := hI0.1.1
  unfold iScal at hsc
  have hdf9 := dayZ_dateZ (d := 8822 + f9) (by omega) (by omega)
  have hif9 := dateZ_in (d := 8822 + f9) (by omega) (by omega)
  have h := gM_k0 (kX11_waitFor (E := E) (l := l) (z := z) (k9 := k9) (f9 := dateZ (8822 + f9)) (n9 := n9) (ad := ad) (ch := ch) hx hI0 (by omega) (by omega) (by omega) (by omega) (by omega)) (fk3 (by omega) (by unfold askC; omega) h6)
  rw [hdf9] at h
  exact h
theorem xcloseNight {E : gE} {l : Launch} {Sh : gSh} {V : gV} {z : Int} {x9 cc9 : Int} {N : gN0} {P9 : Int → gN0} {k9 d9 cl : Int} (hx : XR x9 N P9 cc9 Sh V) (hI0 : INV N) (hNi : ∀ j, 1596 ≤ j → j < 5022 → inI (N j)) (k0 : 0 ≤ k9 ∧ k9 < N 1) (h0 : 0 ≤ d9) (h1 : d9 ≤ 99) (h3 : cl = 0 ∨ cl = 1) : gM E l yX11_closeNight (.code yX11_closeNight cX11_closeNight 5 (some .int)) (rmk 11 60 600 420) [(2, x9), (0, k9), (0, dateZ (8822 + d9)), (0, cl)] Sh V z (gRe (some (0, if cl = 0 then (lk (clN N k9 (8822 + d9) cl)).2 else 0)) (fun V' => XR x9 (if cl = 0 then (lk (clN N k9 (8822 + d9) cl)).1 else clN N k9 (8822 + d9) cl) (kpP P9 cc9 N) (min (cc9 + 1) 6) Sh V' ∧ OUX x9 Sh V V') Sh) := by
  have hsc := hI0.1.1
  unfold iScal at hsc
  have hdd9 := dayZ_dateZ (d := 8822 + d9) (by omega) (by omega)
  have hid9 := dateZ_in (d := 8822 + d9) (by omega) (by omega)
  have h := gM_k0 (kX11_closeNight (E := E) (l := l) (z := z) (k9 := k9) (d9 := dateZ (8822 + d9)) (cl := cl) hx hI0 hNi (by omega) (by omega) h3) (fk2 (by omega) (by omega))
  rw [hdd9] at h
  exact h
theorem xsetExtra {E : gE} {l : Launch} {Sh : gSh} {V : gV} {z : Int} {x9 cc9 : Int} {N : gN0} {P9 : Int → gN0} {k9 e9 : Int} (hx : XR x9 N P9 cc9 Sh V) (hI0 : INV N) (k0 : 0 ≤ k9 ∧ k9 < N 1) (h0 : 0 ≤ e9 ∧ e9 ≤ 3) : gM E l yX11_setExtra (.code yX11_setExtra cX11_setExtra 3 (some .int)) (rmk 11 60 600 420) [(2, x9), (0, k9), (0, e9)] Sh V z (gRe (some (0, (lk (upN N (31 + k9 * 3 + 2) e9)).2)) (fun V' => XR x9 ((lk (upN N (31 + k9 * 3 + 2) e9)).1) (kpP P9 cc9 N) (min (cc9 + 1) 6) Sh V' ∧ OUX x9 Sh V V') Sh) := by
  have hsc := hI0.1.1
  unfold iScal at hsc
  exact gM_k0 (kX11_setExtra hx hI0 (by omega) (by omega)) (fk2 (by omega) (by omega))
theorem xletGo {E : gE} {l : Launch} {Sh : gSh} {V : gV} {z : Int} {x9 cc9 : Int} {N : gN0} {P9 : Int → gN0} {g9 : Int} (hx : XR x9 N P9 cc9 Sh V) (hI0 : INV N) (h0 : 0 ≤ g9 ∧ g9 < N 6) : gM E l yX11_letGo (.code yX11_letGo cX11_letGo 3 (some .int)) (rmk 11 60 600 420) [(2, x9), (0, g9)] Sh V z (gRe (some (0, (lgS N g9 (N 5).toNat).2)) (fun V' => XR x9 ((lk (lgS N g9 (N 5).toNat).1).1) (kpP P9 cc9 N) (min (cc9 + 1) 6) Sh V' ∧ OUX x9 Sh V V') Sh) := by
  have hsc := hI0.1.1
  unfold iScal at hsc
  exact gM_k0 (kX11_letGo hx hI0 (by omega)) (fk1 (by omega))
theorem xpay {E : gE} {l : Launch} {Sh : gSh} {V : gV} {z : Int} {x9 cc9 : Int} {N : gN0} {P9 : Int → gN0} {s9 : Int} (hx : XR x9 N P9 cc9 Sh V) (hI0 : INV N) (h0 : 0 ≤ s9 ∧ s9 < N 5) (h1 : sF N s9 0 = 0) : gM E l yX11_pay (.code yX11_pay cX11_pay 3 (some .int)) (rmk 11 60 600 420) [(2, x9), (0, s9)] Sh V z (gRe (some (0, dpO N s9)) (fun V' => XR x9 (payN N s9) (kpP P9 cc9 N) (min (cc9 + 1) 6) Sh V' ∧ OUX x9 Sh V V') Sh) := by
  have hsc := hI0.1.1
  unfold iScal at hsc
  exact gM_k0 (kX11_pay hx hI0 (by omega)) (fk2 (by omega) (by omega))
theorem xcancel {E : gE} {l : Launch} {Sh : gSh} {V : gV} {z : Int} {x9 cc9 : Int} {N : gN0} {P9 : Int → gN0} {s9 : Int} (hx : XR x9 N P9 cc9 Sh V) (hI0 : INV N) (h0 : 0 ≤ s9 ∧ s9 < N 5) (h1 : sF N s9 0 = 0 ∨ sF N s9 0 = 1) (h2 : N 0 < sF N s9 2) : gM E l yX11_cancel (.code yX11_cancel cX11_cancel 4 (some .int)) (rmk 11 60 600 420) [(2, x9), (0, s9)] Sh V z (gRe (some (0, rfO N s9)) (fun V' => XR x9 ((lk (caN N s9)).1) (kpP P9 cc9 N) (min (cc9 + 1) 6) Sh V' ∧ OUX x9 Sh V V') Sh) := by
  have hsc := hI0.1.1
  unfold iScal at hsc
  exact gM_k0 (kX11_cancel hx hI0 (by omega)) (fk2 (by omega) (by omega))
theorem xlonger {E : gE} {l : Launch} {Sh : gSh} {V : gV} {z : Int} {x9 cc9 : Int} {N : gN0} {P9 : Int → gN0} {s9 n9 : Int} (hx : XR x9 N P9 cc9 Sh V) (hI0 : INV N) (h0 : 0 ≤ s9 ∧ s9 < N 5) (h1 : sF N s9 0 = 0 ∨ sF N s9 0 = 1) (h2 : 1 ≤ n9 ∧ sF N s9 3 + n9 ≤ 14) (h3 : sF N s9 2 + sF N s9 3 - 1 + n9 ≤ 8922) : gM E l yX11_longer (.code yX11_longer cX11_longer 4 (some .int)) (rmk 11 60 600 420) [(2, x9), (0, s9), (0, n9)] Sh V z (gRe (some (0, if rfs N (sF N s9 1) (sF N s9 2 + sF N s9 3) n9 = -1 then snT N (sF N s9 1) (sF N s9 2 + sF N s9 3) n9.toNat else -1)) (fun V' => XR x9 (if rfs N (sF N s9 1) (sF N s9 2 + sF N s9 3) n9 = -1 then loN N s9 n9 else upN N 8 (dateZ (rfs N (sF N s9 1) (sF N s9 2 + sF N s9 3) n9))) (kpP P9 cc9 N) (min (cc9 + 1) 6) Sh V' ∧ OUX x9 Sh V V') Sh) := by
  have hsc := hI0.1.1
  unfold iScal at hsc
  have hso := (hI0.1.2.2.2.1 s9 h0.1 h0.2).1
  exact gM_k0 (kX11_longer hx hI0 (by omega) (by omega)) (fk3 (by omega) (by omega) (by omega))
theorem xshorter {E : gE} {l : Launch} {Sh : gSh} {V : gV} {z : Int} {x9 cc9 : Int} {N : gN0} {P9 : Int → gN0} {s9 n9 : Int} (hx : XR x9 N P9 cc9 Sh V) (hI0 : INV N) (h0 : 0 ≤ s9 ∧ s9 < N 5) (h1 : sF N s9 0 = 0 ∨ sF N s9 0 = 1) (h2 : 1 ≤ n9 ∧ n9 < sF N s9 3) (h3 : N 0 ≤ sF N s9 2 + sF N s9 3 - 1 - n9 + 1) : gM E l yX11_shorter (.code yX11_shorter cX11_shorter 5 (some .int)) (rmk 11 60 600 420) [(2, x9), (0, s9), (0, n9)] Sh V z (gRe (some (0, sPr N s9 - sPr (shN N s9 n9) s9)) (fun V' => XR x9 ((lk (shN N s9 n9)).1) (kpP P9 cc9 N) (min (cc9 + 1) 6) Sh V' ∧ OUX x9 Sh V V') Sh) := by
  have hsc := hI0.1.1
  unfold iScal at hsc
  have hso := (hI0.1.2.2.2.1 s9 h0.1 h0.2).1
  exact gM_k0 (kX11_shorter hx hI0 (by omega) (by omega)) (fk3 (by omega) (by omega) (by omega))
theorem xpasses {E : gE} {l : Launch} {Sh : gSh} {V : gV} {z : Int} {x9 cc9 : Int} {N : gN0} {P9 : Int → gN0}  (hx : XR x9 N P9 cc9 Sh V) (hI0 : INV N) (h1 : N 0 ≤ 8922) : gM E l yX11_passes (.code yX11_passes cX11_passes 3 (some .int)) (rmk 11 60 600 420) [(2, x9), (0, 1)] Sh V z (gRe (some (0, dateZ (N 0 + 1))) (fun V' => XR x9 (odN N) (kpP P9 cc9 N) (min (cc9 + 1) 6) Sh V' ∧ OUX x9 Sh V V') Sh) := by
  have hsc := hI0.1.1
  unfold iScal at hsc
  exact gM_k0 (kX11_passes (d9 := 1) hx hI0 (by omega)) (fk1 (by omega))
theorem xsetWeekend {E : gE} {l : Launch} {Sh : gSh} {V : gV} {z : Int} {x9 cc9 : Int} {N : gN0} {P9 : Int → gN0} {a9 b9 : Int} (hx : XR x9 N P9 cc9 Sh V) (hI0 : INV N) (h0 : 0 ≤ a9 ∧ a9 ≤ 100) (h1 : 0 ≤ b9 ∧ b9 ≤ 1000) : gM E l yX11_setWeekend (.code yX11_setWeekend cX11_setWeekend 4 (some .int)) (rmk 11 60 600 420) [(2, x9), (0, a9), (0, b9)] Sh V z (gRe (some (0, N 4)) (fun V' => XR x9 (upN (upN N 3 a9) 4 b9) (kpP P9 cc9 N) (min (cc9 + 1) 6) Sh V' ∧ OUX x9 Sh V V') Sh) := by
  have hsc := hI0.1.1
  unfold iScal at hsc
  exact gM_k0 (kX11_setWeekend hx hI0 (by omega) (by omega)) (fk1 (by omega))
theorem xaddSeason {E : gE} {l : Launch} {Sh : gSh} {V : gV} {z : Int} {x9 cc9 : Int} {N : gN0} {P9 : Int → gN0} {fa fb pe le9 : Int} (hx : XR x9 N P9 cc9 Sh V) (hI0 : INV N) (h0 : 0 < fa ∧ fa < 10000 ∧ dayZ (20000000 + fa) ≠ -1) (h1 : 0 < fb ∧ fb < 10000 ∧ dayZ (20000000 + fb) ≠ -1) (h2 : -50 ≤ pe ∧ pe ≤ 100) (h3 : 1 ≤ le9 ∧ le9 ≤ 7) (h4 : N 2 < 4) : gM E l yX11_addSeason (.code yX11_addSeason cX11_addSeason 5 (some .int)) (rmk 11 60 600 420) [(2, x9), (0, fa), (0, fb), (0, pe), (0, le9)] Sh V z (gRe (some (0, N 2)) (fun V' => XR x9 (upN (upN (upN (upN (upN N (40 + N 2 * 4) fa) (40 + N 2 * 4 + 1) fb) (40 + N 2 * 4 + 2) pe) (40 + N 2 * 4 + 3) le9) 2 (N 2 + 1)) (kpP P9 cc9 N) (min (cc9 + 1) 6) Sh V' ∧ OUX x9 Sh V V') Sh) := by
  have hsc := hI0.1.1
  unfold iScal at hsc
  exact gM_k0 (kX11_addSeason hx hI0 (by omega) (by omega) (by omega) (by omega)) (fk2 ⟨h0, h1, h2, h3⟩ h4)
theorem xsetOdds {E : gE} {l : Launch} {Sh : gSh} {V : gV} {z : Int} {x9 cc9 : Int} {N : gN0} {P9 : Int → gN0} {so p9 o9 : Int} (hx : XR x9 N P9 cc9 Sh V) (hI0 : INV N) (h0 : 0 ≤ so ∧ so ≤ 3) (h1 : 0 ≤ p9 ∧ p9 ≤ 100000) (h2 : 0 ≤ o9 ∧ o9 ≤ 1000) (h3 : otT N so 4 + o9 ≤ 1000) : gM E l yX11_setOdds (.code yX11_setOdds cX11_setOdds 5 (some .int)) (rmk 11 60 600 420) [(2, x9), (0, so), (0, p9), (0, o9)] Sh V z (gRe (some (0, otT N so 4 + o9)) (fun V' => XR x9 (upN (upN N (17 + so) p9) (13 + so) o9) (kpP P9 cc9 N) (min (cc9 + 1) 6) Sh V' ∧ OUX x9 Sh V V') Sh) := by
  have hsc := hI0.1.1
  unfold iScal at hsc
  exact gM_k0 (kX11_setOdds hx hI0 (by omega) (by omega) (by omega)) (fk2 h0 ⟨h1, h2, h3⟩)
theorem xsell {E : gE} {l : Launch} {Sh : gSh} {V : gV} {z : Int} {x9 cc9 : Int} {N : gN0} {P9 : Int → gN0} {d9 r9 : Int} (hx : XR x9 N P9 cc9 Sh V) (hI0 : INV N) (h0 : 1 ≤ d9 ∧ d9 ≤ 4) (h1 : 1 ≤ r9 ∧ r9 ≤ 4) : gM E l yX11_sell (.code yX11_sell cX11_sell 3 (some .int)) (rmk 11 60 600 420) [(2, x9), (0, d9), (0, r9)] Sh V z (gRe (some (0, limZ (selN N d9 r9) d9 r9)) (fun V' => XR x9 (selN N d9 r9) (kpP P9 cc9 N) (min (cc9 + 1) 6) Sh V' ∧ OUX x9 Sh V V') Sh) := by
  have hsc := hI0.1.1
  unfold iScal at hsc
  exact gM_k0 (kX11_sell hx hI0 (by omega) (by omega)) (fk1 ⟨h0, h1⟩)
theorem xoffer {E : gE} {l : Launch} {Sh : gSh} {V : gV} {z : Int} {x9 cc9 : Int} {N : gN0} {P9 : Int → gN0} {p9 : Int} (hx : XR x9 N P9 cc9 Sh V) (hI0 : INV N) (h0 : 0 ≤ p9 ∧ p9 ≤ 100000) (h1 : N 21 = 1 ∧ 0 < N 22) : gM E l yX11_offer (.code yX11_offer cX11_offer 2 (some .int)) (rmk 11 60 600 420) [(2, x9), (0, p9)] Sh V z (gRe (some (0, if offC N p9 then N 24 + p9 else -1)) (fun V' => XR x9 (if offC N p9 then offT N p9 else offN N p9) (kpP P9 cc9 N) (min (cc9 + 1) 6) Sh V' ∧ OUX x9 Sh V V') Sh) := by
  have hsc := hI0.1.1
  unfold iScal at hsc
  exact gM_k0 (kX11_offer hx hI0 (by omega)) (fk2 h0 h1)
