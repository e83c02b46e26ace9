/-! the class is made: what can be taken back (rows laid by wip/whole/n94.py) -/
theorem vdf_1 (V : gV) (z : Int) : ∀ j, 2 ≤ j → j ≤ 7 → vnew V z (vdf 1) z j = 0 := by
  intro j j0 j1
  rw [vn_eq]
  have hj : j = 2 ∨ j = 3 ∨ j = 4 ∨ j = 5 ∨ j = 6 ∨ j = 7 := by omega
  rcases hj with rfl | rfl | rfl | rfl | rfl | rfl <;> rfl
theorem shH_ag {h : Int} {S S' : gSh} (H : shH h S) (e : ∀ c, h ≤ c → c < h + 162 → S' c = S c) : shH h S' := fun j j0 j1 => (e _ (by omega) (by omega)).trans (H j j0 j1)
theorem ptH_out {h : Int} {V V' : gV} (H : ptH h V) (e : ∀ c, h ≤ c → c < h + 162 → V' c = V c) : ptH h V' := ptH_ag H (fun c j hc => by
  unfold isPt at hc
  rw [e _ (by omega) (by omega)])

theorem kX1_init {E l Sh V} {y9 : Int} (hs : Sh y9 = some (0, 0)) (ha : 0 ≤ y9) : gM E l yX1_init (.code yX1_init cX1_init 2 none) (rmk 4 973 21186 130) [(2, y9)] Sh V (y9 + 1) (gNw y9 974 (fun S W => S (y9 + 1) = some (103, 6) ∧ (∀ i : Int, 0 ≤ i → i < 6 → shH (y9 + 2 + 162 * i) S ∧ W (y9 + 1) i = y9 + 2 + 162 * i ∧ ptH (y9 + 2 + 162 * i) W) ∧ W y9 0 = y9 + 1 ∧ W y9 1 = V y9 1 ∧ W y9 2 = V y9 2) Sh V) := by
  refine gM_at (L0 := [(2, y9), (9, 0)]) rfl rfl rfl ?_
  intro p e s m args below meth c hC hr hex hnm hz
  refine gB hC _ _ _ _ _ _ _ qX1_init_0 rfl ?_
  refine g_objInit hC dX1_init_1 mX1_3 gObjI gObjC (by omega) ⟨by decide, by decide⟩ ?_
  refine gB hC _ _ _ _ _ _ _ qX1_init_4 rfl ?_
  refine g_anew (j := 3) hC dX1_init_7 lX1_9 (by decide) rfl rfl (by decide) ⟨Nat.le_of_ble_eq_true rfl, Nat.le_of_ble_eq_true rfl⟩ (fun hz7 => ?_)
  refine g_putr hC dX1_init_10 fX1_11 ((shp_ne _ _ (by omega)).trans hs) (by decide) rfl (fun _ h => by cases h; exact ⟨rfl, rfl⟩) hnm 0 rfl (fun V10 e10 => ?_)
  refine gB hC _ _ _ _ _ _ _ qX1_init_13 rfl ?_
  refine g_kn (show y9 + 1 + 1 = y9 + 2 + 162 * ((0 : Nat) : Int) by omega) rfl rfl ?_
  refine g_loopA (fun x : gSh × gV × Nat => x.2.2 ≤ 6 ∧ (∀ c, (c ≤ y9 ∨ y9 + 2 + 162 * (x.2.2 : Int) ≤ c) → x.1 c = Sh c) ∧ (∀ c, c < y9 → x.2.1 c = V c) ∧ x.1 (y9 + 1) = some (103, 6) ∧ (∀ i : Int, 0 ≤ i → i < x.2.2 → shH (y9 + 2 + 162 * i) x.1 ∧ x.2.1 (y9 + 1) i = y9 + 2 + 162 * i ∧ ptH (y9 + 2 + 162 * i) x.2.1) ∧ x.2.1 y9 0 = y9 + 1 ∧ x.2.1 y9 1 = V y9 1 ∧ x.2.1 y9 2 = V y9 2) (fun x => 6 - x.2.2) 15 (fun x => [(2, y9), (0, (x.2.2 : Int))]) (fun x => x.1) (fun x => x.2.1) (fun x => y9 + 2 + 162 * (x.2.2 : Int)) (fun x => 1 + 162 * x.2.2) (fun x => 6 + 3530 * x.2.2) (_, _, 0) ⟨Nat.zero_le _, fun c hc => ?_, fun c hc => ?_, shp_eq _ _ _, fun s s0 s1 => by have : s < 0 := s1; omega, by dsimp only; rw [e10, up_eq], by dsimp only; rw [e10, up_ne _ _ (Or.inr (by decide)), vn_ne _ _ (by omega)], by dsimp only; rw [e10, up_ne _ _ (Or.inr (by decide)), vn_ne _ _ (by omega)]⟩ ?_
  · have hc' : c ≤ y9 ∨ y9 + 2 + 162 * ((0 : Nat) : Int) ≤ c := hc
    exact shp_ne _ _ (by omega)
  · dsimp only; rw [e10, up_row _ _ _ (by omega), vn_ne _ _ (by omega)]
  rintro ⟨S1, V1, i⟩ ⟨hi, hSo, hVo, hA, hs9, hp0, hp1, hp2⟩ ih
  dsimp only at hi hSo hVo hA hs9 hp0 hp1 hp2 ih ⊢
  refine gB hC _ _ _ _ _ _ _ qX1_init_15 rfl ?_
  refine g_icmp_ge hC 40 dX1_init_18 rfl (by first | omega | exact cmpZ_in _ _ | exact bI_in _) (by first | omega | exact cmpZ_in _ _ | exact bI_in _) (fun c18 => ?_) (fun c18 => ?_)
  · obtain rfl : i = 6 := by omega
    refine g_return hC dX1_init_40 hr ⟨rfl, by show y9 + 2 + 162 * ((6 : Nat) : Int) = y9 + 974; omega, fun c hc => hSo c (by omega), hVo, hA, fun s s0 s1 => hs9 s s0 s1, hp0, hp1, hp2⟩ gs_rfl ⟨Nat.le_of_ble_eq_true rfl, Nat.le_of_ble_eq_true rfl⟩
  · refine gB hC _ _ _ _ _ _ _ qX1_init_21 rfl ?_
    refine g_getr hC dX1_init_22 fX1_11 ((hSo y9 (by omega)).trans hs) (by decide) rfl 0 rfl hp0 ?_
    refine gB hC _ _ _ _ _ _ _ qX1_init_25 rfl ?_
    refine g_new (ci := 1) hC dX1_init_26 lX1_9 nX2 zX2 (by decide) ⟨_, rfl, rfl, rfl⟩ ⟨by show 1 + 162 * i + 1 ≤ 973; omega, by show 6 + 3530 * i + 15 ≤ 21186; omega⟩ (fun hz26 => ?_)
    refine gB hC _ _ _ _ _ _ _ qX1_init_29 rfl ?_
    refine g_callI hC _ dX1_init_30 mX1_17 iX2_init (kX2_init (shp_eq _ _ _) (vdf_1 _ _) (by omega)) rfl (by omega) rfl (Nat.le_of_ble_eq_true rfl) ⟨⟨Nat.le_of_ble_eq_true rfl, Nat.le_of_ble_eq_true rfl⟩, ⟨by show 1 + 162 * i + 1 + 161 ≤ 973; omega, by show 6 + 3530 * i + 15 + 3515 ≤ 21186; omega⟩⟩ (fun r0 S30 V30 z30 h30 => ?_) (fun X S1 V1 z1 h => nomatch h.1)
    obtain ⟨h0, rfl, hS30, hV30, hG30⟩ := h30
    cases h0
    have hA30 : S30 (y9 + 1) = some (103, 6) := by rw [hS30 _ (by omega), shp_ne _ _ (by omega)]; exact hA
    have hN30 : S30 (y9 + 2 + 162 * (i : Int)) = some (1, 0) := by rw [hS30 _ (by omega)]; exact shp_eq _ _ _
    refine g_aastore (j := 3) hC dX1_init_33 hA30 (by decide) hN30 (by decide) ⟨_, rfl, rfl⟩ (by omega) (by omega) (by decide) ?_
    refine gB hC _ _ _ _ _ _ _ qX1_init_34 rfl ?_
    refine g_kn (show y9 + 2 + 162 * (i : Int) + 162 = y9 + 2 + 162 * ((i + 1 : Nat) : Int) by omega) (show 1 + 162 * i + 1 + 161 = 1 + 162 * (i + 1) by omega) (show 6 + 3530 * i + 15 + 3515 = 6 + 3530 * (i + 1) by omega) ?_
    have eW : ∀ c, c < y9 + 2 + 162 * (i : Int) → c ≠ y9 + 1 → up V30 (y9 + 1) (i : Int) (y9 + 2 + 162 * (i : Int)) c = V1 c := fun c hc hn => by rw [up_row _ _ _ hn, hV30 c hc, vn_ne _ _ (by omega)]
    have eS : ∀ c, c < y9 + 2 + 162 * (i : Int) → S30 c = S1 c := fun c hc => by rw [hS30 c (by omega), shp_ne _ _ (by omega)]
    refine ih (S30, up V30 (y9 + 1) (i : Int) (y9 + 2 + 162 * (i : Int)), i + 1) ⟨by show i + 1 ≤ 6; omega, fun c hc => ?_, fun c hc => ?_, ?_, fun s s0 s1 => ?_, ?_, ?_, ?_⟩ (by show 6 - (i + 1) < 6 - i; omega)
    · have hc' : c ≤ y9 ∨ y9 + 2 + 162 * ((i + 1 : Nat) : Int) ≤ c := hc
      show S30 c = Sh c
      rw [hS30 c (by omega), shp_ne _ _ (by omega)]; exact hSo c (by omega)
    · exact (eW c (by omega) (by omega)).trans (hVo c hc)
    · exact (eS _ (by omega)).trans hA
    · have s2 : s < ((i + 1 : Nat) : Int) := s1
      by_cases hsi : s = (i : Int)
      · subst hsi
        refine ⟨hG30.1, ?_, ?_⟩
        · show up V30 (y9 + 1) (i : Int) _ (y9 + 1) (i : Int) = _
          rw [up_eq]
        · exact ptH_out hG30.2.1 (fun c c0 c1 => by show up V30 (y9 + 1) (i : Int) _ c = _; rw [up_row _ _ _ (by omega)])
      · obtain ⟨q1, q2, q3⟩ := hs9 s s0 (by omega)
        refine ⟨shH_ag q1 (fun c c0 c1 => eS c (by omega)), ?_, ptH_out q3 (fun c c0 c1 => eW c (by omega) (by omega))⟩
        show up V30 (y9 + 1) (i : Int) _ (y9 + 1) s = _
        rw [up_ne _ _ (Or.inr hsi), hV30 _ (by omega), vn_ne _ _ (by omega)]; exact q2
    · show up V30 (y9 + 1) (i : Int) _ y9 0 = _
      rw [eW _ (by omega) (by omega)]; exact hp0
    · show up V30 (y9 + 1) (i : Int) _ y9 1 = _
      rw [eW _ (by omega) (by omega)]; exact hp1
    · show up V30 (y9 + 1) (i : Int) _ y9 2 = _
      rw [eW _ (by omega) (by omega)]; exact hp2

