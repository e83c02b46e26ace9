/-! the class is made: a hotel (rows laid by wip/whole/n93.py) -/
/-- a hotel's cells below t are made -/
def MKH (h t : Int) (Sh : gSh) (V : gV) (S : gSh) (W : gV) : Prop :=
  (∀ c, (c < h ∨ h + t ≤ c) → S c = Sh c) ∧ (∀ j, 0 ≤ j → j < t → S (h + j) = some (hsh j)) ∧ (∀ c, c < h → W c = V c) ∧
  (W h 8 = h + 1 ∧ W h 9 = h + 2 ∧ W h 10 = h + 3 ∧ W h 11 = h + 4 ∧ W h 12 = h + 126 ∧ W h 13 = h + 127 ∧ W h 14 = h + 130 ∧ W (h + 4) 0 = h + 5 ∧ W (h + 127) 0 = h + 128 ∧ W (h + 127) 1 = h + 129 ∧ W (h + 130) 6 = h + 131) ∧
  (∀ s, 0 ≤ s → s < 60 → W (h + 5) s = h + 6 + 2 * s ∧ W (h + 6 + 2 * s) 11 = h + 6 + 2 * s + 1) ∧
  (∀ k, 0 ≤ k → 132 + 2 * k + 1 < t → k < 3 → W (h + 1) k = h + 132 + 2 * k ∧ W (h + 132 + 2 * k) 3 = h + 132 + 2 * k + 1) ∧
  (∀ i, 0 ≤ i → 138 + i < t → i < 4 → W (h + 2) i = h + 138 + i) ∧ (∀ g, 0 ≤ g → 142 + g < t → g < 20 → W (h + 3) g = h + 142 + g) ∧
  (W h 0 = 8822 ∧ W h 1 = -1 ∧ (∀ j, 2 ≤ j → j ≤ 7 → W h j = 0) ∧ W (h + 4) 1 = 0) ∧ (∀ j, W (h + 126) j = 0) ∧ (∀ j, W (h + 128) j = 0 ∧ W (h + 129) j = 0) ∧ ∀ j, 0 ≤ j → j < 6 → W (h + 130) j = 0
section MKH
variable {h t n : Int} {Sh S S' : gSh} {V W W' : gV}
theorem MKH_st (H : MKH h t Sh V S W) (ht : 132 ≤ t) (hn : 0 ≤ n) (a1 : ∀ c, (c < h + t ∨ h + (t + n) ≤ c) → S' c = S c) (a2 : ∀ j, t ≤ j → j < t + n → S' (h + j) = some (hsh j)) (a3 : ∀ c, c < h + t → c ≠ h + 1 → c ≠ h + 2 → c ≠ h + 3 → W' c = W c)
    (ek : ∀ k, 0 ≤ k → 132 + 2 * k + 1 < t + n → k < 3 → W' (h + 1) k = h + 132 + 2 * k ∧ W' (h + 132 + 2 * k) 3 = h + 132 + 2 * k + 1) (ei : ∀ i, 0 ≤ i → 138 + i < t + n → i < 4 → W' (h + 2) i = h + 138 + i) (eg : ∀ g, 0 ≤ g → 142 + g < t + n → g < 20 → W' (h + 3) g = h + 142 + g) : MKH h (t + n) Sh V S' W' := by
  obtain ⟨b1, b2, b3, ⟨p1, p2, p3, p4, p5, p6, p7, p8, p9, p10, p11⟩, b5, b6, b7, b8, ⟨q1, q2, q3, q4⟩, b10, b11, b12⟩ := H
  have er : ∀ c, (c = h ∨ h + 4 ≤ c) → c < h + t → W' c = W c := fun c hc hlt => a3 c hlt (by omega) (by omega) (by omega)
  refine ⟨fun c hc => (a1 c (by omega)).trans (b1 c (by omega)), fun j j0 j1 => ?_, fun c hc => (a3 c (by omega) (by omega) (by omega) (by omega)).trans (b3 c hc), ?_, fun s s0 s1 => ?_, ek, ei, eg, ?_, fun j => ?_, fun j => ?_, fun j j0 j1 => ?_⟩
  · by_cases hj : j < t
    · rw [a1 _ (by omega)]; exact b2 j j0 hj
    · exact a2 j (by omega) j1
  · rw [er h (by omega) (by omega), er (h + 4) (by omega) (by omega), er (h + 127) (by omega) (by omega), er (h + 130) (by omega) (by omega)]
    exact ⟨p1, p2, p3, p4, p5, p6, p7, p8, p9, p10, p11⟩
  · rw [er (h + 5) (by omega) (by omega), er (h + 6 + 2 * s) (by omega) (by omega)]; exact b5 s s0 s1
  · rw [er h (by omega) (by omega), er (h + 4) (by omega) (by omega)]; exact ⟨q1, q2, q3, q4⟩
  · rw [er _ (by omega) (by omega)]; exact b10 j
  · rw [er (h + 128) (by omega) (by omega), er (h + 129) (by omega) (by omega)]; exact b11 j
  · rw [er _ (by omega) (by omega)]; exact b12 j j0 j1
theorem hshS : shH 0 (fun j => some (hsh j)) := fun j _ _ => by show some (hsh (0 + j)) = _; rw [Int.zero_add]
theorem hsh_k {k : Int} (h0 : 0 ≤ k) (h1 : k < 3) : hsh (132 + 2 * k) = (2, 0) ∧ hsh (132 + 2 * k + 1) = (101, 571) := by
  have a := hshS.sk h0 h1
  have b := hshS.sc h0 h1
  rw [Int.zero_add] at a b
  exact ⟨Option.some.inj a, Option.some.inj b⟩
theorem hsh_e {i : Int} (h0 : 0 ≤ i) (h1 : i < 4) : hsh (138 + i) = (6, 0) := by
  have a := hshS.se h0 h1
  rw [Int.zero_add] at a
  exact Option.some.inj a
theorem hsh_g {g : Int} (h0 : 0 ≤ g) (h1 : g < 20) : hsh (142 + g) = (9, 0) := by
  have a := hshS.sg h0 h1
  rw [Int.zero_add] at a
  exact Option.some.inj a
theorem hsh_s {s : Int} (h0 : 0 ≤ s) (h1 : s < 60) : hsh (6 + 2 * s) = (7, 0) ∧ hsh (6 + 2 * s + 1) = (100, 14) := by
  have a := hshS.ss h0 h1
  have b := hshS.sn h0 h1
  rw [Int.zero_add] at a b
  exact ⟨Option.some.inj a, Option.some.inj b⟩
/-- no kinds, seasons, stays, nobody waits, nothing paid -/
def iniH : gN0 := upN (fun _ => 0) 0 8822
theorem MKH_end (H : MKH h 162 Sh V S W) : RH h iniH S W := by
  obtain ⟨b1, b2, b3, b4, b5, b6, b7, b8, ⟨q1, q2, q3, q4⟩, b10, b11, b12⟩ := H
  have z : ∀ j, j ≠ 0 → iniH j = 0 := fun j hj => upN_ne hj
  have z1 : iniH 1 = 0 := z 1 (by decide)
  have z2 : iniH 2 = 0 := z 2 (by decide)
  have z5 : iniH 5 = 0 := z 5 (by decide)
  have z7 : iniH 7 = 0 := z 7 (by decide)
  have z26 : iniH 26 = 0 := z 26 (by decide)
  refine ⟨b2, ⟨b4, b5, fun k k0 k1 => b6 k k0 (by omega) k1, fun i i0 i1 => b7 i i0 (by omega) i1, fun g g0 g1 => b8 g g0 (by omega) g1⟩, ⟨q1.trans (upN_eq _ _ _).symm, Or.inl ⟨q2, z 8 (by decide)⟩, (q3 2 (by decide) (by decide)).trans z1.symm, (q3 3 (by decide) (by decide)).trans z2.symm, (q3 4 (by decide) (by decide)).trans z7.symm, (q3 5 (by decide) (by decide)).trans (z 6 (by decide)).symm, (q3 6 (by decide) (by decide)).trans (z 3 (by decide)).symm, (q3 7 (by decide) (by decide)).trans (z 4 (by decide)).symm, q4.trans z5.symm⟩,
    fun k k0 k1 => by omega, fun i i0 i1 => by omega, fun s s0 s1 => by omega, fun g g0 g1 => by omega, fun i i0 i1 => (b10 i).trans (z _ (by omega)).symm, fun i i0 i1 => ⟨(b11 i).1.trans (z _ (by omega)).symm, (b11 i).2.trans (z _ (by omega)).symm⟩,
    ⟨(b12 0 (by decide) (by decide)).trans (z _ (by decide)).symm, (b12 1 (by decide) (by decide)).trans (z _ (by decide)).symm, (b12 2 (by decide) (by decide)).trans (z _ (by decide)).symm, (b12 3 (by decide) (by decide)).trans (z _ (by decide)).symm, (b12 4 (by decide) (by decide)).trans (z _ (by decide)).symm, (b12 5 (by decide) (by decide)).trans (z _ (by decide)).symm⟩, fun i i0 i1 => by omega⟩
theorem MKH_out (H : MKH h 162 Sh V S W) (h1 : Sh h = some (1, 0)) : ∀ c, (c ≤ h ∨ h + 162 ≤ c) → S c = Sh c := by
  intro c hc
  by_cases q : c = h
  · rw [q, h1]
    have := H.2.1 0 (by decide) (by decide)
    rwa [Int.add_zero] at this
  · exact H.1 c (by omega)
end MKH
theorem MKH_0 {h9 : Int} {Sh S46 S64 S75 : gSh} {V V8 V13 V21 V29 V38 V46 V49 V56 V64 V67 V75 V78 : gV} (hs : Sh h9 = some (1, 0)) (hv : ∀ j, 2 ≤ j → j ≤ 7 → V h9 j = 0) (e8 : V8 = up V h9 0 8822) (e13 : V13 = up V8 h9 1 (-1)) (e21 : V21 = up (vnew V13 (h9 + 1) (fun _ => -1)) h9 8 (h9 + 1)) (e29 : V29 = up (vnew V21 (h9 + 2) (fun _ => -1)) h9 9 (h9 + 2)) (e38 : V38 = up (vnew V29 (h9 + 3) (fun _ => -1)) h9 10 (h9 + 3))
    (hS46 : ∀ c, (c ≤ h9 + 4 ∨ h9 + 4 + 122 ≤ c) → S46 c = shp (shp (shp (shp Sh (h9 + 1) (104, 3)) (h9 + 2) (105, 4)) (h9 + 3) (107, 20)) (h9 + 4) (8, 0) c) (hV46 : ∀ c, c < h9 + 4 → V46 c = vnew V38 (h9 + 4) (vdf 8) c) (hG46 : S46 (h9 + 4 + 1) = some (106, 60) ∧ (∀ s : Int, 0 ≤ s → s < 60 → S46 (h9 + 4 + 2 + 2 * s) = some (7, 0) ∧ S46 (h9 + 4 + 2 + 2 * s + 1) = some (100, 14) ∧ V46 (h9 + 4 + 1) s = h9 + 4 + 2 + 2 * s ∧ V46 (h9 + 4 + 2 + 2 * s) 11 = h9 + 4 + 2 + 2 * s + 1) ∧ V46 (h9 + 4) 0 = h9 + 4 + 1 ∧ V46 (h9 + 4) 1 = vnew V38 (h9 + 4) (vdf 8) (h9 + 4) 1) (e49 : V49 = up V46 h9 11 (h9 + 4)) (e56 : V56 = up (vnew V49 (h9 + 126) (fun _ => 0)) h9 12 (h9 + 126))
    (hS64 : ∀ c, (c ≤ h9 + 127 ∨ h9 + 127 + 3 ≤ c) → S64 c = shp (shp S46 (h9 + 126) (101, 4)) (h9 + 127) (3, 0) c) (hV64 : ∀ c, c < h9 + 127 → V64 c = vnew V56 (h9 + 127) (vdf 3) c) (hG64 : S64 (h9 + 127 + 1) = some (100, 4) ∧ S64 (h9 + 127 + 2) = some (100, 4) ∧ V64 (h9 + 127) 0 = h9 + 127 + 1 ∧ V64 (h9 + 127) 1 = h9 + 127 + 2 ∧ (∀ j, V64 (h9 + 127 + 1) j = 0) ∧ ∀ j, V64 (h9 + 127 + 2) j = 0) (e67 : V67 = up V64 h9 13 (h9 + 127))
    (hS75 : ∀ c, (c ≤ h9 + 130 ∨ h9 + 130 + 2 ≤ c) → S75 c = shp S64 (h9 + 130) (5, 0) c) (hV75 : ∀ c, c < h9 + 130 → V75 c = vnew V67 (h9 + 130) (vdf 5) c) (hG75 : S75 (h9 + 130 + 1) = some (100, 4) ∧ V75 (h9 + 130) 6 = h9 + 130 + 1 ∧ ∀ j, j ≠ 6 → V75 (h9 + 130) j = vnew V67 (h9 + 130) (vdf 5) (h9 + 130) j) (e78 : V78 = up V75 h9 14 (h9 + 130)) : MKH h9 132 Sh V S75 V78 := by
  have hs46 : S46 h9 = some (1, 0) := (hS46 _ (by omega)).trans ((shp_ne _ _ (by omega)).trans ((shp_ne _ _ (by omega)).trans ((shp_ne _ _ (by omega)).trans ((shp_ne _ _ (by omega)).trans hs))))
  have hs64 : S64 h9 = some (1, 0) := (hS64 _ (by omega)).trans ((shp_ne _ _ (by omega)).trans ((shp_ne _ _ (by omega)).trans hs46))
  have hs75 : S75 h9 = some (1, 0) := (hS75 _ (by omega)).trans ((shp_ne _ _ (by omega)).trans hs64)
  have hrow : ∀ j, V78 h9 j = if j = 14 then h9 + 130 else if j = 13 then h9 + 127 else if j = 12 then h9 + 126 else if j = 11 then h9 + 4 else if j = 10 then h9 + 3 else if j = 9 then h9 + 2 else if j = 8 then h9 + 1 else if j = 1 then -1 else if j = 0 then 8822 else V h9 j := by
    intro j
    rw [e78]; unfold up
    rw [hV75 _ (by omega), vn_ne _ _ (by omega), e67]; unfold up
    rw [hV64 _ (by omega), vn_ne _ _ (by omega), e56]; unfold up
    rw [vn_ne _ _ (by omega), e49]; unfold up
    rw [hV46 _ (by omega), vn_ne _ _ (by omega), e38]; unfold up
    rw [vn_ne _ _ (by omega), e29]; unfold up
    rw [vn_ne _ _ (by omega), e21]; unfold up
    rw [vn_ne _ _ (by omega), e13]; unfold up
    rw [e8]; unfold up
    simp
  have r1 : ∀ c, c < h9 + 130 → c ≠ h9 → V78 c = V64 c := fun c hc hn => by rw [e78, up_row _ _ _ hn, hV75 _ hc, vn_ne _ _ (by omega), e67, up_row _ _ _ hn]
  have r2 : ∀ c, c < h9 + 127 → c ≠ h9 → c ≠ h9 + 126 → V64 c = V46 c := fun c hc hn hm => by rw [hV64 _ hc, vn_ne _ _ (by omega), e56, up_row _ _ _ hn, vn_ne _ _ hm, e49, up_row _ _ _ hn]
  have r3 : ∀ c, c < h9 → V78 c = V c := fun c hc => by
    rw [r1 c (by omega) (by omega), r2 c (by omega) (by omega) (by omega), hV46 _ (by omega), vn_ne _ _ (by omega), e38, up_row _ _ _ (by omega), vn_ne _ _ (by omega), e29, up_row _ _ _ (by omega), vn_ne _ _ (by omega), e21, up_row _ _ _ (by omega), vn_ne _ _ (by omega), e13, up_row _ _ _ (by omega), e8, up_row _ _ _ (by omega)]
  have s1 : ∀ c, c < h9 + 130 → S75 c = S64 c := fun c hc => by rw [hS75 _ (by omega), shp_ne _ _ (by omega)]
  have s2 : ∀ c, c < h9 + 126 → S64 c = S46 c := fun c hc => by rw [hS64 _ (by omega), shp_ne _ _ (by omega), shp_ne _ _ (by omega)]
  obtain ⟨x1, x2, x3, x4⟩ := hG46
  obtain ⟨y1, y2, y3, y4, y5, y6⟩ := hG64
  obtain ⟨w1, w2, w3⟩ := hG75
  refine ⟨fun c hc => ?_, fun j j0 j1 => ?_, r3, ?_, fun s t0 t1 => ?_, fun k k0 k1 _ => by omega, fun i i0 i1 _ => by omega, fun g g0 g1 _ => by omega, ⟨?_, ?_, fun j j0 j1 => ?_, ?_⟩, fun j => ?_, fun j => ⟨?_, ?_⟩, fun j j0 j1 => ?_⟩
  · rw [hS75 _ (by omega), shp_ne _ _ (by omega), hS64 _ (by omega), shp_ne _ _ (by omega), shp_ne _ _ (by omega), hS46 _ (by omega), shp_ne _ _ (by omega), shp_ne _ _ (by omega), shp_ne _ _ (by omega), shp_ne _ _ (by omega)]
  · by_cases c0 : 6 ≤ j ∧ j < 126
    · have hs9 := hsh_s (s := (j - 6) / 2) (by omega) (by omega)
      have hx := x2 ((j - 6) / 2) (by omega) (by omega)
      rw [s1 _ (by omega), s2 _ (by omega)]
      by_cases c1 : (j - 6) % 2 = 0
      · rw [show j = 6 + 2 * ((j - 6) / 2) by omega, hs9.1, show h9 + (6 + 2 * ((j - 6) / 2)) = h9 + 4 + 2 + 2 * ((j - 6) / 2) by omega]; exact hx.1
      · rw [show j = 6 + 2 * ((j - 6) / 2) + 1 by omega, hs9.2, show h9 + (6 + 2 * ((j - 6) / 2) + 1) = h9 + 4 + 2 + 2 * ((j - 6) / 2) + 1 by omega]; exact hx.2.1
    · have hj : j = 0 ∨ j = 1 ∨ j = 2 ∨ j = 3 ∨ j = 4 ∨ j = 5 ∨ j = 126 ∨ j = 127 ∨ j = 128 ∨ j = 129 ∨ j = 130 ∨ j = 131 := by omega
      rcases hj with rfl | rfl | rfl | rfl | rfl | rfl | rfl | rfl | rfl | rfl | rfl | rfl
      · rw [Int.add_zero]; exact hs75
      · rw [s1 _ (by omega), s2 _ (by omega), hS46 _ (by omega), shp_ne _ _ (by omega), shp_ne _ _ (by omega), shp_ne _ _ (by omega), shp_eq]; rfl
      · rw [s1 _ (by omega), s2 _ (by omega), hS46 _ (by omega), shp_ne _ _ (by omega), shp_ne _ _ (by omega), shp_eq]; rfl
      · rw [s1 _ (by omega), s2 _ (by omega), hS46 _ (by omega), shp_ne _ _ (by omega), shp_eq]; rfl
      · rw [s1 _ (by omega), s2 _ (by omega), hS46 _ (by omega), shp_eq]; rfl
      · rw [s1 _ (by omega), s2 _ (by omega), show h9 + 5 = h9 + 4 + 1 by omega]; exact x1
      · rw [s1 _ (by omega), hS64 _ (by omega), shp_ne _ _ (by omega), shp_eq]; rfl
      · rw [s1 _ (by omega), hS64 _ (by omega), shp_eq]; rfl
      · rw [s1 _ (by omega), show h9 + 128 = h9 + 127 + 1 by omega]; exact y1
      · rw [s1 _ (by omega), show h9 + 129 = h9 + 127 + 2 by omega]; exact y2
      · rw [hS75 _ (by omega), shp_eq]; rfl
      · rw [show h9 + 131 = h9 + 130 + 1 by omega]; exact w1
  · rw [r1 (h9 + 4) (by omega) (by omega), r2 (h9 + 4) (by omega) (by omega) (by omega), r1 (h9 + 127) (by omega) (by omega)]
    refine ⟨(hrow 8).trans (by simp), (hrow 9).trans (by simp), (hrow 10).trans (by simp), (hrow 11).trans (by simp), (hrow 12).trans (by simp), (hrow 13).trans (by simp), (hrow 14).trans (by simp), by rw [x3]; omega, by rw [y3]; omega, by rw [y4]; omega, ?_⟩
    rw [e78, up_row _ _ _ (by omega), w2]; omega
  · obtain ⟨_, _, g3, g4⟩ := x2 s t0 t1
    rw [r1 (h9 + 5) (by omega) (by omega), r2 (h9 + 5) (by omega) (by omega) (by omega), r1 (h9 + 6 + 2 * s) (by omega) (by omega), r2 (h9 + 6 + 2 * s) (by omega) (by omega) (by omega)]
    rw [show h9 + 5 = h9 + 4 + 1 by omega, show h9 + 6 + 2 * s = h9 + 4 + 2 + 2 * s by omega]
    exact ⟨g3, g4⟩
  · exact (hrow 0).trans (by simp)
  · exact (hrow 1).trans (by simp)
  · rw [hrow, if_neg (by omega), if_neg (by omega), if_neg (by omega), if_neg (by omega), if_neg (by omega), if_neg (by omega), if_neg (by omega), if_neg (by omega), if_neg (by omega)]; exact hv j j0 j1
  · rw [r1 (h9 + 4) (by omega) (by omega), r2 (h9 + 4) (by omega) (by omega) (by omega), x4, vn_eq]; rfl
  · rw [r1 (h9 + 126) (by omega) (by omega), hV64 _ (by omega), vn_ne _ _ (by omega), e56, up_row _ _ _ (by omega), vn_eq]
  · rw [r1 (h9 + 128) (by omega) (by omega), show h9 + 128 = h9 + 127 + 1 by omega]; exact y5 j
  · rw [r1 (h9 + 129) (by omega) (by omega), show h9 + 129 = h9 + 127 + 2 by omega]; exact y6 j
  · rw [e78, up_row _ _ _ (by omega), w3 j (by omega), vn_eq]
    have hj : j = 0 ∨ j = 1 ∨ j = 2 ∨ j = 3 ∨ j = 4 ∨ j = 5 := by omega
    rcases hj with rfl | rfl | rfl | rfl | rfl | rfl <;> rfl

theorem kX7_initN {E l Sh V} {a9 : Int} (hs : Sh a9 = some (6, 0)) (ha : 0 ≤ a9) : gM E l yX7_init (.code yX7_init cX7_init 1 none) (rmk 1 0 0 30) [(2, a9)] Sh V (a9 + 1) (gNw a9 1 (fun S W => S = Sh ∧ W = V) Sh V) := by
  refine gM_at (L0 := [(2, a9)]) rfl rfl rfl ?_
  intro p e s m args below meth c hC hr hex hnm hz
  refine gB hC _ _ _ _ _ _ _ qX7_init_0 rfl ?_
  refine g_objInit hC dX7_init_1 mX7_1 gObjI gObjC (by omega) ⟨by decide, by decide⟩ ?_
  refine g_return hC dX7_init_4 hr ⟨rfl, rfl, fun _ _ => rfl, fun _ _ => rfl, rfl, rfl⟩ gs_rfl ⟨Nat.le_of_ble_eq_true rfl, Nat.le_of_ble_eq_true rfl⟩
theorem kX10_initN {E l Sh V} {a9 x0 x1 x2 x3 x4 : Int} (z1 : Sh a9 = some (9, 0)) (ha : 0 ≤ a9) (h0 : inI x0) (h1 : inI x1) (h2 : inI x2) (h3 : inI x3) (h4 : inI x4) : gM E l yX10_init (.code yX10_init cX10_init 6 none) (rmk 1 0 0 30) [(2, a9), (0, x0), (0, x1), (0, x2), (0, x3), (0, x4)] Sh V (a9 + 1) (gNw a9 1 (fun S W => S = Sh ∧ W = (rwV V a9 (rowL [x0, x1, x2, x3, x4]) 5)) Sh V) := by
  refine gM_at (L0 := [(2, a9), (0, x0), (0, x1), (0, x2), (0, x3), (0, x4)]) rfl rfl rfl ?_
  intro p e s m args below meth c hC hr hex hnm hz
  refine gB hC _ _ _ _ _ _ _ qX10_init_0 rfl ?_
  refine g_objInit hC dX10_init_1 mX10_1 gObjI gObjC (by omega) ⟨by decide, by decide⟩ ?_
  refine gB hC _ _ _ _ _ _ _ qX10_init_4 rfl ?_
  refine g_puti hC dX10_init_6 fX10_7 z1 (by decide) rfl (fun _ h => by cases h; rfl) 0 rfl (by first | omega | exact cmpZ_in _ _ | exact bI_in _) (fun V6 e6 => ?_)
  refine gB hC _ _ _ _ _ _ _ qX10_init_9 rfl ?_
  refine g_puti hC dX10_init_11 fX10_13 z1 (by decide) rfl (fun _ h => by cases h; rfl) 1 rfl (by first | omega | exact cmpZ_in _ _ | exact bI_in _) (fun V11 e11 => ?_)
  refine gB hC _ _ _ _ _ _ _ qX10_init_14 rfl ?_
  refine g_puti hC dX10_init_16 fX10_16 z1 (by decide) rfl (fun _ h => by cases h; rfl) 2 rfl (by first | omega | exact cmpZ_in _ _ | exact bI_in _) (fun V16 e16 => ?_)
  refine gB hC _ _ _ _ _ _ _ qX10_init_19 rfl ?_
  refine g_puti hC dX10_init_22 fX10_19 z1 (by decide) rfl (fun _ h => by cases h; rfl) 3 rfl (by first | omega | exact cmpZ_in _ _ | exact bI_in _) (fun V22 e22 => ?_)
  refine gB hC _ _ _ _ _ _ _ qX10_init_25 rfl ?_
  refine g_puti hC dX10_init_28 fX10_22 z1 (by decide) rfl (fun _ h => by cases h; rfl) 4 rfl (by first | omega | exact cmpZ_in _ _ | exact bI_in _) (fun V28 e28 => ?_)
  refine g_return hC dX10_init_31 hr ⟨rfl, rfl, fun _ _ => rfl, fun c hc => ?_, rfl, ?_⟩ gs_rfl ⟨Nat.le_of_ble_eq_true rfl, Nat.le_of_ble_eq_true rfl⟩
  · have e9 : V28 = rwV V a9 (rowL [x0, x1, x2, x3, x4]) 5 := by
      rw [e28, e22, e16, e11, e6]; exact upS_rw V a9 [x0, x1, x2, x3, x4] rfl
    rw [e9]; exact rwV_ne (by omega)
  · have e9 : V28 = rwV V a9 (rowL [x0, x1, x2, x3, x4]) 5 := by
      rw [e28, e22, e16, e11, e6]; exact upS_rw V a9 [x0, x1, x2, x3, x4] rfl
    exact e9
theorem kX2_init {E l Sh V} {h9 : Int} (hs : Sh h9 = some (1, 0)) (hv : ∀ j, 2 ≤ j → j ≤ 7 → V h9 j = 0) (ha : 0 ≤ h9) : gM E l yX2_init (.code yX2_init cX2_init 2 none) (rmk 3 161 3515 100) [(2, h9)] Sh V (h9 + 1) (gNw h9 162 (fun S W => RH h9 iniH S W) Sh V) := by
  refine gM_at (L0 := [(2, h9), (9, 0)]) rfl rfl rfl ?_
  intro p e s m args below meth c hC hr hex hnm hz
  refine gB hC _ _ _ _ _ _ _ qX2_init_0 rfl ?_
  refine g_objInit hC dX2_init_1 mX2_3 gObjI gObjC (by omega) ⟨by decide, by decide⟩ ?_
  refine gB hC _ _ _ _ _ _ _ qX2_init_4 rfl ?_
  refine g_puti hC dX2_init_8 fX2_11 hs (by decide) rfl (fun _ h => by cases h; rfl) 0 rfl (by first | omega | exact cmpZ_in _ _ | exact bI_in _) (fun V8 e8 => ?_)
  refine gB hC _ _ _ _ _ _ _ qX2_init_11 rfl ?_
  refine g_puti hC dX2_init_13 fX2_17 hs (by decide) rfl (fun _ h => by cases h; rfl) 1 rfl (by first | omega | exact cmpZ_in _ _ | exact bI_in _) (fun V13 e13 => ?_)
  refine gB hC _ _ _ _ _ _ _ qX2_init_16 rfl ?_
  refine g_anew (j := 4) hC dX2_init_18 lX2_20 (by decide) rfl rfl (by decide) ⟨Nat.le_of_ble_eq_true rfl, Nat.le_of_ble_eq_true rfl⟩ (fun hz18 => ?_)
  refine g_putr hC dX2_init_21 fX2_22 ((shp_ne _ _ (by omega)).trans hs) (by decide) rfl (fun _ h => by cases h; exact ⟨rfl, rfl⟩) hnm 8 rfl (fun V21 e21 => ?_)
  refine g_kn (show h9 + 1 + 1 = h9 + 2 by omega) rfl rfl ?_
  refine gB hC _ _ _ _ _ _ _ qX2_init_24 rfl ?_
  refine g_anew (j := 5) hC dX2_init_26 lX2_26 (by decide) rfl rfl (by decide) ⟨Nat.le_of_ble_eq_true rfl, Nat.le_of_ble_eq_true rfl⟩ (fun hz26 => ?_)
  refine g_putr hC dX2_init_29 fX2_28 ((shp_ne _ _ (by omega)).trans ((shp_ne _ _ (by omega)).trans hs)) (by decide) rfl (fun _ h => by cases h; exact ⟨rfl, rfl⟩) hnm 9 rfl (fun V29 e29 => ?_)
  refine g_kn (show h9 + 2 + 1 = h9 + 3 by omega) rfl rfl ?_
  refine gB hC _ _ _ _ _ _ _ qX2_init_32 rfl ?_
  refine g_anew (j := 7) hC dX2_init_35 lX2_32 (by decide) rfl rfl (by decide) ⟨Nat.le_of_ble_eq_true rfl, Nat.le_of_ble_eq_true rfl⟩ (fun hz35 => ?_)
  refine g_putr hC dX2_init_38 fX2_34 ((shp_ne _ _ (by omega)).trans ((shp_ne _ _ (by omega)).trans ((shp_ne _ _ (by omega)).trans hs))) (by decide) rfl (fun _ h => by cases h; exact ⟨rfl, rfl⟩) hnm 10 rfl (fun V38 e38 => ?_)
  refine g_kn (show h9 + 3 + 1 = h9 + 4 by omega) rfl rfl ?_
  refine gB hC _ _ _ _ _ _ _ qX2_init_41 rfl ?_
  refine g_new (ci := 8) hC dX2_init_42 lX2_38 nX9 zX9 (by decide) ⟨_, rfl, rfl, rfl⟩ ⟨Nat.le_of_ble_eq_true rfl, Nat.le_of_ble_eq_true rfl⟩ (fun hz42 => ?_)
  refine gB hC _ _ _ _ _ _ _ qX2_init_45 rfl ?_
  refine g_callI hC _ dX2_init_46 mX2_40 iX9_init (kX9_init (shp_eq _ _ _) (by omega)) rfl (by omega) rfl (Nat.le_of_ble_eq_true rfl) ⟨⟨Nat.le_of_ble_eq_true rfl, Nat.le_of_ble_eq_true rfl⟩, ⟨Nat.le_of_ble_eq_true rfl, Nat.le_of_ble_eq_true rfl⟩⟩ (fun r0 S46 V46 z46 h46 => ?_) (fun X S1 V1 z1 h => nomatch h.1)
  obtain ⟨h0, rfl, hS46, hV46, hG46⟩ := h46
  cases h0
  have hs46 : S46 h9 = some (1, 0) := (hS46 _ (by omega)).trans ((shp_ne _ _ (by omega)).trans ((shp_ne _ _ (by omega)).trans ((shp_ne _ _ (by omega)).trans ((shp_ne _ _ (by omega)).trans hs))))
  refine g_putr hC dX2_init_49 fX2_41 hs46 (by decide) rfl (fun _ h => by cases h; exact ⟨rfl, rfl⟩) hnm 11 rfl (fun V49 e49 => ?_)
  refine g_kn (show h9 + 4 + 122 = h9 + 126 by omega) rfl rfl ?_
  refine gB hC _ _ _ _ _ _ _ qX2_init_52 rfl ?_
  refine g_new_longs hC dX2_init_54 gArr_long rfl (by decide) ⟨by decide, by decide⟩ (fun hz54 => ?_)
  refine g_putr hC dX2_init_56 fX2_45 ((shp_ne _ _ (by omega)).trans hs46) (by decide) rfl (fun _ h => by cases h; exact ⟨rfl, rfl⟩) hnm 12 rfl (fun V56 e56 => ?_)
  refine g_kn (show h9 + 126 + 1 = h9 + 127 by omega) rfl rfl ?_
  refine gB hC _ _ _ _ _ _ _ qX2_init_59 rfl ?_
  refine g_new (ci := 3) hC dX2_init_60 lX2_49 nX4 zX4 (by decide) ⟨_, rfl, rfl, rfl⟩ ⟨Nat.le_of_ble_eq_true rfl, Nat.le_of_ble_eq_true rfl⟩ (fun hz60 => ?_)
  refine gB hC _ _ _ _ _ _ _ qX2_init_63 rfl ?_
  refine g_callIN (host := "HotelNights") hC _ dX2_init_64 (by decide) iX4_init (kX4_init (shp_eq _ _ _) (by omega)) rfl (by omega) rfl (Nat.le_of_ble_eq_true rfl) ⟨⟨Nat.le_of_ble_eq_true rfl, Nat.le_of_ble_eq_true rfl⟩, ⟨Nat.le_of_ble_eq_true rfl, Nat.le_of_ble_eq_true rfl⟩⟩ (fun r0 S64 V64 z64 h64 => ?_) (fun X S1 V1 z1 h => nomatch h.1)
  obtain ⟨h0, rfl, hS64, hV64, hG64⟩ := h64
  cases h0
  have hs64 : S64 h9 = some (1, 0) := (hS64 _ (by omega)).trans ((shp_ne _ _ (by omega)).trans ((shp_ne _ _ (by omega)).trans hs46))
  refine g_putr hC dX2_init_67 fX2_52 hs64 (by decide) rfl (fun _ h => by cases h; exact ⟨rfl, rfl⟩) hnm 13 rfl (fun V67 e67 => ?_)
  refine g_kn (show h9 + 127 + 3 = h9 + 130 by omega) rfl rfl ?_
  refine gB hC _ _ _ _ _ _ _ qX2_init_70 rfl ?_
  refine g_new (ci := 5) hC dX2_init_71 lX2_56 nX6 zX6 (by decide) ⟨_, rfl, rfl, rfl⟩ ⟨Nat.le_of_ble_eq_true rfl, Nat.le_of_ble_eq_true rfl⟩ (fun hz71 => ?_)
  refine gB hC _ _ _ _ _ _ _ qX2_init_74 rfl ?_
  refine g_callIN (host := "HotelNights") hC _ dX2_init_75 (by decide) iX6_init (kX6_init (shp_eq _ _ _) (by omega)) rfl (by omega) rfl (Nat.le_of_ble_eq_true rfl) ⟨⟨Nat.le_of_ble_eq_true rfl, Nat.le_of_ble_eq_true rfl⟩, ⟨Nat.le_of_ble_eq_true rfl, Nat.le_of_ble_eq_true rfl⟩⟩ (fun r0 S75 V75 z75 h75 => ?_) (fun X S1 V1 z1 h => nomatch h.1)
  obtain ⟨h0, rfl, hS75, hV75, hG75⟩ := h75
  cases h0
  have hs75 : S75 h9 = some (1, 0) := (hS75 _ (by omega)).trans ((shp_ne _ _ (by omega)).trans hs64)
  refine g_putr hC dX2_init_78 fX2_59 hs75 (by decide) rfl (fun _ h => by cases h; exact ⟨rfl, rfl⟩) hnm 14 rfl (fun V78 e78 => ?_)
  refine g_kn (show h9 + 130 + 2 = h9 + 132 by omega) rfl rfl ?_
  have hM : MKH h9 132 Sh V S75 V78 := MKH_0 hs hv e8 e13 e21 e29 e38 hS46 hV46 hG46 e49 e56 hS64 hV64 hG64 e67 hS75 hV75 hG75 e78
  clear hG46 hG64 hG75 hS46 hS64 hS75 hV46 hV64 hV75 e8 e13 e21 e29 e38 e49 e56 e67 e78 hs46 hs64
  refine gB hC _ _ _ _ _ _ _ qX2_init_81 rfl ?_
  refine g_kn (show h9 + 132 = h9 + 132 + 2 * ((0 : Nat) : Int) by omega) (show _ = 131 + 2 * 0 from rfl) (show _ = 1674 + 575 * 0 from rfl) ?_
  refine g_loopA (fun x : gSh × gV × Nat => x.2.2 ≤ 3 ∧ MKH h9 (132 + 2 * (x.2.2 : Int)) Sh V x.1 x.2.1) (fun x => 3 - x.2.2) 83 (fun x => [(2, h9), (0, (x.2.2 : Int))]) (fun x => x.1) (fun x => x.2.1) (fun x => h9 + 132 + 2 * (x.2.2 : Int)) (fun x => 131 + 2 * x.2.2) (fun x => 1674 + 575 * x.2.2) (S75, V78, 0) ⟨Nat.zero_le _, by show MKH h9 (132 + 2 * ((0 : Nat) : Int)) Sh V S75 V78; rw [show 132 + 2 * ((0 : Nat) : Int) = 132 by omega]; exact hM⟩ ?_
  clear hM
  rintro ⟨S1, V1, i⟩ ⟨hi, hM⟩ ih
  dsimp only at hi hM ih ⊢
  have hMs := hM.2.1
  have hMq := hM.2.2.2.1.1
  obtain ⟨-, -, -, -, -, hMk, hMe, hMg, -, -, -, -⟩ := id hM
  have hsa : S1 h9 = some (1, 0) := by have := hMs 0 (by omega) (by omega); rwa [Int.add_zero] at this
  have hsA : S1 (h9 + 1) = some (hsh 1) := hMs 1 (by omega) (by omega)
  replace hsA : S1 (h9 + 1) = some (104, 3) := hsA
  refine gB hC _ _ _ _ _ _ _ qX2_init_83 rfl ?_
  refine g_icmp_ge hC 107 dX2_init_85 rfl (by first | omega | exact cmpZ_in _ _ | exact bI_in _) (by first | omega | exact cmpZ_in _ _ | exact bI_in _) (fun c85 => ?_) (fun c85 => ?_)
  · obtain rfl : i = 3 := by omega
    replace hM : MKH h9 138 Sh V S1 V1 := hM
    refine gB hC _ _ _ _ _ _ _ qX2_init_107 rfl ?_
    refine g_kn (show h9 + 132 + 2 * ((3 : Nat) : Int) = h9 + 138 + 1 * ((0 : Nat) : Int) by omega) (show _ = 137 + 1 * 0 from rfl) (show _ = 3399 + 4 * 0 from rfl) ?_
    refine g_loopA (fun x : gSh × gV × Nat => x.2.2 ≤ 4 ∧ MKH h9 (138 + 1 * (x.2.2 : Int)) Sh V x.1 x.2.1) (fun x => 4 - x.2.2) 109 (fun x => [(2, h9), (0, (x.2.2 : Int))]) (fun x => x.1) (fun x => x.2.1) (fun x => h9 + 138 + 1 * (x.2.2 : Int)) (fun x => 137 + 1 * x.2.2) (fun x => 3399 + 4 * x.2.2) (S1, V1, 0) ⟨Nat.zero_le _, by show MKH h9 (138 + 1 * ((0 : Nat) : Int)) Sh V S1 V1; rw [show 138 + 1 * ((0 : Nat) : Int) = 138 by omega]; exact hM⟩ ?_
    clear hM
    rintro ⟨S1, V1, i⟩ ⟨hi, hM⟩ ih
    dsimp only at hi hM ih ⊢
    have hMs := hM.2.1
    have hMq := hM.2.2.2.1.2.1
    obtain ⟨-, -, -, -, -, hMk, hMe, hMg, -, -, -, -⟩ := id hM
    have hsa : S1 h9 = some (1, 0) := by have := hMs 0 (by omega) (by omega); rwa [Int.add_zero] at this
    have hsA : S1 (h9 + 2) = some (hsh 2) := hMs 2 (by omega) (by omega)
    replace hsA : S1 (h9 + 2) = some (105, 4) := hsA
    refine gB hC _ _ _ _ _ _ _ qX2_init_109 rfl ?_
    refine g_icmp_ge hC 133 dX2_init_111 rfl (by first | omega | exact cmpZ_in _ _ | exact bI_in _) (by first | omega | exact cmpZ_in _ _ | exact bI_in _) (fun c111 => ?_) (fun c111 => ?_)
    · obtain rfl : i = 4 := by omega
      replace hM : MKH h9 142 Sh V S1 V1 := hM
      refine gB hC _ _ _ _ _ _ _ qX2_init_133 rfl ?_
      refine g_kn (show h9 + 138 + 1 * ((4 : Nat) : Int) = h9 + 142 + 1 * ((0 : Nat) : Int) by omega) (show _ = 141 + 1 * 0 from rfl) (show _ = 3415 + 5 * 0 from rfl) ?_
      refine g_loopA (fun x : gSh × gV × Nat => x.2.2 ≤ 20 ∧ MKH h9 (142 + 1 * (x.2.2 : Int)) Sh V x.1 x.2.1) (fun x => 20 - x.2.2) 135 (fun x => [(2, h9), (0, (x.2.2 : Int))]) (fun x => x.1) (fun x => x.2.1) (fun x => h9 + 142 + 1 * (x.2.2 : Int)) (fun x => 141 + 1 * x.2.2) (fun x => 3415 + 5 * x.2.2) (S1, V1, 0) ⟨Nat.zero_le _, by show MKH h9 (142 + 1 * ((0 : Nat) : Int)) Sh V S1 V1; rw [show 142 + 1 * ((0 : Nat) : Int) = 142 by omega]; exact hM⟩ ?_
      clear hM
      rintro ⟨S1, V1, i⟩ ⟨hi, hM⟩ ih
      dsimp only at hi hM ih ⊢
      have hMs := hM.2.1
      have hMq := hM.2.2.2.1.2.2.1
      obtain ⟨-, -, -, -, -, hMk, hMe, hMg, -, -, -, -⟩ := id hM
      have hsa : S1 h9 = some (1, 0) := by have := hMs 0 (by omega) (by omega); rwa [Int.add_zero] at this
      have hsA : S1 (h9 + 3) = some (hsh 3) := hMs 3 (by omega) (by omega)
      replace hsA : S1 (h9 + 3) = some (107, 20) := hsA
      refine gB hC _ _ _ _ _ _ _ qX2_init_135 rfl ?_
      refine g_icmp_ge hC 165 dX2_init_138 rfl (by first | omega | exact cmpZ_in _ _ | exact bI_in _) (by first | omega | exact cmpZ_in _ _ | exact bI_in _) (fun c138 => ?_) (fun c138 => ?_)
      · obtain rfl : i = 20 := by omega
        replace hM : MKH h9 162 Sh V S1 V1 := hM
        have hm0 := MKH_out hM hs
        have hm3 : ∀ c, c < h9 → V1 c = V c := hM.2.2.1
        have hm9 := MKH_end hM
        refine g_return hC dX2_init_165 hr ⟨rfl, by show h9 + 142 + 1 * ((20 : Nat) : Int) = h9 + 162; omega, hm0, hm3, hm9⟩ gs_rfl ⟨Nat.le_of_ble_eq_true rfl, Nat.le_of_ble_eq_true rfl⟩
      · refine gB hC _ _ _ _ _ _ _ qX2_init_141 rfl ?_
        refine g_getr hC dX2_init_142 fX2_34 hsa (by decide) rfl 10 rfl hMq ?_
        refine gB hC _ _ _ _ _ _ _ qX2_init_145 rfl ?_
        refine g_new (ci := 9) hC dX2_init_146 lX2_32 nX10 zX10 (by decide) ⟨_, rfl, rfl, rfl⟩ ⟨by show 141 + 1 * i + 1 ≤ 161; omega, by show 3415 + 5 * i + 5 ≤ 3515; omega⟩ (fun hz146 => ?_)
        refine gB hC _ _ _ _ _ _ _ qX2_init_149 rfl ?_
        refine g_callI hC _ dX2_init_155 mX2_65 iX10_init (kX10_initN (shp_eq _ _ _) (by omega) (by omega) (by omega) (by omega) (by omega) (by omega)) rfl (by omega) rfl (Nat.le_of_ble_eq_true rfl) ⟨⟨Nat.le_of_ble_eq_true rfl, Nat.le_of_ble_eq_true rfl⟩, ⟨by show 141 + 1 * i + 1 + 0 ≤ 161; omega, by show 3415 + 5 * i + 5 + 0 ≤ 3515; omega⟩⟩ (fun r0 S9 V155 z9 h => ?_) (fun X S9 V9 z9 h => nomatch h.1)
        obtain ⟨h0, rfl, -, -, rfl, e155⟩ := h
        cases h0
        refine g_aastore (j := 7) hC dX2_init_158 ((shp_ne _ _ (by omega)).trans hsA) (by decide) (shp_eq _ _ _) (by decide) ⟨_, rfl, rfl⟩ (by omega) (by omega) (by decide) ?_
        refine gB hC _ _ _ _ _ _ _ qX2_init_159 rfl ?_
        refine g_kn (show h9 + 142 + 1 * (i : Int) + 1 = h9 + 142 + 1 * ((i + 1 : Nat) : Int) by omega) (show 141 + 1 * i + 1 + 0 = 141 + 1 * (i + 1) by omega) (show 3415 + 5 * i + 5 + 0 = 3415 + 5 * (i + 1) by omega) ?_
        refine ih (shp S1 (h9 + 142 + 1 * (i : Int)) (9, 0), up V155 (h9 + 3) (i : Int) (h9 + 142 + 1 * (i : Int)), i + 1) ⟨by show i + 1 ≤ 20; omega, ?_⟩ (by show 20 - (i + 1) < 20 - i; omega)
        show MKH h9 (142 + 1 * ((i + 1 : Nat) : Int)) Sh V (shp S1 (h9 + 142 + 1 * (i : Int)) (9, 0)) (up V155 (h9 + 3) (i : Int) (h9 + 142 + 1 * (i : Int)))
        rw [show 142 + 1 * ((i + 1 : Nat) : Int) = 142 + 1 * (i : Int) + 1 by omega]
        have hk9 := hsh_g (g := (i : Int)) (by omega) (by omega)
        refine MKH_st hM (by omega) (by decide) (fun c hc => by rw [shp_ne _ _ (by omega)]) (fun j j0 j1 => ?_) (fun c hc _ _ n1 => by rw [up_row _ _ _ n1, e155, rwV_ne (by omega), vn_ne _ _ (by omega)]) (fun k k0 k1 k3 => ?_) (fun e e0 e1 e2 => ?_) (fun g g0 g1 g2 => ?_)
        · rw [show j = 142 + (i : Int) by omega, hk9, show h9 + (142 + (i : Int)) = h9 + 142 + 1 * (i : Int) by omega, shp_eq]
        · have h := hMk k k0 (by omega) k3
          rw [up_row _ _ _ (by omega), up_row _ _ _ (by omega), e155, rwV_ne (by omega), rwV_ne (by omega), vn_ne _ _ (by omega), vn_ne _ _ (by omega)]; exact h
        · rw [up_row _ _ _ (by omega), e155, rwV_ne (by omega), vn_ne _ _ (by omega)]; exact hMe e e0 (by omega) e2
        · by_cases q : g = (i : Int)
          · subst q; rw [up_eq]; omega
          · rw [up_ne _ _ (Or.inr q), e155, rwV_ne (by omega), vn_ne _ _ (by omega)]; exact hMg g g0 (by omega) g2
    · refine gB hC _ _ _ _ _ _ _ qX2_init_114 rfl ?_
      refine g_getr hC dX2_init_115 fX2_28 hsa (by decide) rfl 9 rfl hMq ?_
      refine gB hC _ _ _ _ _ _ _ qX2_init_118 rfl ?_
      refine g_new (ci := 6) hC dX2_init_119 lX2_26 nX7 zX7 (by decide) ⟨_, rfl, rfl, rfl⟩ ⟨by show 137 + 1 * i + 1 ≤ 161; omega, by show 3399 + 4 * i + 4 ≤ 3515; omega⟩ (fun hz119 => ?_)
      refine gB hC _ _ _ _ _ _ _ qX2_init_122 rfl ?_
      refine g_callIN (host := "HotelNights") hC _ dX2_init_123 (by decide) iX7_init (kX7_initN (shp_eq _ _ _) (by omega)) rfl (by omega) rfl (Nat.le_of_ble_eq_true rfl) ⟨⟨Nat.le_of_ble_eq_true rfl, Nat.le_of_ble_eq_true rfl⟩, ⟨by show 137 + 1 * i + 1 + 0 ≤ 161; omega, by show 3399 + 4 * i + 4 + 0 ≤ 3515; omega⟩⟩ (fun r0 S9 V9 z9 h => ?_) (fun X S9 V9 z9 h => nomatch h.1)
      obtain ⟨h0, rfl, -, -, rfl, rfl⟩ := h
      cases h0
      refine g_aastore (j := 5) hC dX2_init_126 ((shp_ne _ _ (by omega)).trans hsA) (by decide) (shp_eq _ _ _) (by decide) ⟨_, rfl, rfl⟩ (by omega) (by omega) (by decide) ?_
      refine gB hC _ _ _ _ _ _ _ qX2_init_127 rfl ?_
      refine g_kn (show h9 + 138 + 1 * (i : Int) + 1 = h9 + 138 + 1 * ((i + 1 : Nat) : Int) by omega) (show 137 + 1 * i + 1 + 0 = 137 + 1 * (i + 1) by omega) (show 3399 + 4 * i + 4 + 0 = 3399 + 4 * (i + 1) by omega) ?_
      refine ih (shp S1 (h9 + 138 + 1 * (i : Int)) (6, 0), up (vnew V1 (h9 + 138 + 1 * (i : Int)) (vdf 6)) (h9 + 2) (i : Int) (h9 + 138 + 1 * (i : Int)), i + 1) ⟨by show i + 1 ≤ 4; omega, ?_⟩ (by show 4 - (i + 1) < 4 - i; omega)
      show MKH h9 (138 + 1 * ((i + 1 : Nat) : Int)) Sh V (shp S1 (h9 + 138 + 1 * (i : Int)) (6, 0)) (up (vnew V1 (h9 + 138 + 1 * (i : Int)) (vdf 6)) (h9 + 2) (i : Int) (h9 + 138 + 1 * (i : Int)))
      rw [show 138 + 1 * ((i + 1 : Nat) : Int) = 138 + 1 * (i : Int) + 1 by omega]
      have hk9 := hsh_e (i := (i : Int)) (by omega) (by omega)
      refine MKH_st hM (by omega) (by decide) (fun c hc => by rw [shp_ne _ _ (by omega)]) (fun j j0 j1 => ?_) (fun c hc _ n1 _ => by rw [up_row _ _ _ n1, vn_ne _ _ (by omega)]) (fun k k0 k1 k3 => ?_) (fun e e0 e1 e2 => ?_) (fun g g0 g1 _ => by omega)
      · rw [show j = 138 + (i : Int) by omega, hk9, show h9 + (138 + (i : Int)) = h9 + 138 + 1 * (i : Int) by omega, shp_eq]
      · have h := hMk k k0 (by omega) k3
        rw [up_row _ _ _ (by omega), up_row _ _ _ (by omega), vn_ne _ _ (by omega), vn_ne _ _ (by omega)]; exact h
      · by_cases q : e = (i : Int)
        · subst q; rw [up_eq]; omega
        · rw [up_ne _ _ (Or.inr q), vn_ne _ _ (by omega)]; exact hMe e e0 (by omega) e2
  · refine gB hC _ _ _ _ _ _ _ qX2_init_88 rfl ?_
    refine g_getr hC dX2_init_89 fX2_22 hsa (by decide) rfl 8 rfl hMq ?_
    refine gB hC _ _ _ _ _ _ _ qX2_init_92 rfl ?_
    refine g_new (ci := 2) hC dX2_init_93 lX2_20 nX3 zX3 (by decide) ⟨_, rfl, rfl, rfl⟩ ⟨by show 131 + 2 * i + 1 ≤ 161; omega, by show 1674 + 575 * i + 4 ≤ 3515; omega⟩ (fun hz93 => ?_)
    refine gB hC _ _ _ _ _ _ _ qX2_init_96 rfl ?_
    refine g_callIN (host := "HotelNights") hC _ dX2_init_97 (by decide) iX3_init (kX3_init (shp_eq _ _ _) (by omega)) rfl (by omega) rfl (Nat.le_of_ble_eq_true rfl) ⟨⟨Nat.le_of_ble_eq_true rfl, Nat.le_of_ble_eq_true rfl⟩, ⟨by show 131 + 2 * i + 1 + 1 ≤ 161; omega, by show 1674 + 575 * i + 4 + 571 ≤ 3515; omega⟩⟩ (fun r0 S97 V97 z97 h97 => ?_) (fun X S1 V1 z1 h => nomatch h.1)
    obtain ⟨h0, rfl, hS97, hV97, hG97⟩ := h97
    cases h0
    have hA97 : S97 (h9 + 1) = some (104, 3) := by rw [hS97 _ (by omega), shp_ne _ _ (by omega)]; exact hsA
    have hN97 : S97 (h9 + 132 + 2 * (i : Int)) = some (2, 0) := by rw [hS97 _ (by omega)]; exact shp_eq _ _ _
    refine g_aastore (j := 4) hC dX2_init_100 hA97 (by decide) hN97 (by decide) ⟨_, rfl, rfl⟩ (by omega) (by omega) (by decide) ?_
    refine gB hC _ _ _ _ _ _ _ qX2_init_101 rfl ?_
    refine g_kn (show h9 + 132 + 2 * (i : Int) + 2 = h9 + 132 + 2 * ((i + 1 : Nat) : Int) by omega) (show 131 + 2 * i + 1 + 1 = 131 + 2 * (i + 1) by omega) (show 1674 + 575 * i + 4 + 571 = 1674 + 575 * (i + 1) by omega) ?_
    refine ih (S97, up V97 (h9 + 1) (i : Int) (h9 + 132 + 2 * (i : Int)), i + 1) ⟨by show i + 1 ≤ 3; omega, ?_⟩ (by show 3 - (i + 1) < 3 - i; omega)
    show MKH h9 (132 + 2 * ((i + 1 : Nat) : Int)) Sh V S97 (up V97 (h9 + 1) (i : Int) (h9 + 132 + 2 * (i : Int)))
    rw [show 132 + 2 * ((i + 1 : Nat) : Int) = 132 + 2 * (i : Int) + 2 by omega]
    have hk9 := hsh_k (k := (i : Int)) (by omega) (by omega)
    refine MKH_st hM (by omega) (by decide) (fun c hc => by rw [hS97 _ (by omega), shp_ne _ _ (by omega)]) (fun j j0 j1 => ?_) (fun c hc n1 _ _ => by rw [up_row _ _ _ n1, hV97 _ (by omega), vn_ne _ _ (by omega)]) (fun k k0 k1 k3 => ?_) (fun e e0 e1 _ => by omega) (fun g g0 g1 _ => by omega)
    · by_cases q : j = 132 + 2 * (i : Int)
      · rw [q, hk9.1, show h9 + (132 + 2 * (i : Int)) = h9 + 132 + 2 * (i : Int) by omega]; exact hN97
      · rw [show j = 132 + 2 * (i : Int) + 1 by omega, hk9.2, show h9 + (132 + 2 * (i : Int) + 1) = h9 + 132 + 2 * (i : Int) + 1 by omega]; exact hG97.1
    · by_cases q : k = (i : Int)
      · subst q
        refine ⟨by rw [up_eq], ?_⟩
        rw [up_ne _ _ (Or.inl (by omega))]; exact hG97.2
      · have h := hMk k k0 (by omega) k3
        refine ⟨?_, ?_⟩
        · rw [up_ne _ _ (Or.inr q), hV97 _ (by omega), vn_ne _ _ (by omega)]; exact h.1
        · rw [up_ne _ _ (Or.inl (by omega)), hV97 _ (by omega), vn_ne _ _ (by omega)]; exact h.2

