section GKN
variable {E : gE} {nL : Nat} {p : Program} {l : Launch} {e : Env} {R : Room} {s : State} {m : MethodId} {args : Array Value} {below : List Frame} {meth : Method} {c : Code} {Q : State → Prop} {pc : Nat} {L st : List aV} {Sh : gSh} {V : gV}
theorem g_kn {z z' : Int} {k k' n n' : Nat} (hz : z = z') (hk : k = k') (hn : n = n') (h : gG E nL p l e R s m args below meth c Q pc L st Sh V z' k' n') : gG E nL p l e R s m args below meth c Q pc L st Sh V z k n := by subst hz; subst hk; subst hn; exact h
end GKN
theorem kX9_init {E l Sh V} {a9 : Int} (hs : Sh a9 = some (8, 0)) (ha : 0 ≤ a9) : gM E l yX9_init (.code yX9_init cX9_init 2 none) (rmk 2 121 1620 60) [(2, a9)] Sh V (a9 + 1) (gNw a9 122 (fun S W => S (a9 + 1) = some (106, 60) ∧ (∀ s : Int, 0 ≤ s → s < 60 → S (a9 + 2 + 2 * s) = some (7, 0) ∧ S (a9 + 2 + 2 * s + 1) = some (100, 14) ∧ W (a9 + 1) s = a9 + 2 + 2 * s ∧ W (a9 + 2 + 2 * s) 11 = a9 + 2 + 2 * s + 1) ∧ W a9 0 = a9 + 1 ∧ W a9 1 = V a9 1) Sh V) := by
  refine gM_at (L0 := [(2, a9), (9, 0)]) rfl rfl rfl ?_
  intro p e s m args below meth c hC hr hex hnm hz
  refine gB hC _ _ _ _ _ _ _ qX9_init_0 rfl ?_
  refine g_objInit hC dX9_init_1 mX9_3 gObjI gObjC (by omega) ⟨by decide, by decide⟩ ?_
  refine gB hC _ _ _ _ _ _ _ qX9_init_4 rfl ?_
  refine g_anew (j := 6) hC dX9_init_7 lX9_9 (by decide) rfl rfl (by decide) ⟨Nat.le_of_ble_eq_true rfl, Nat.le_of_ble_eq_true rfl⟩ (fun hz7 => ?_)
  refine g_putr hC dX9_init_10 fX9_11 ((shp_ne _ _ (by omega)).trans hs) (by decide) rfl (fun _ h => by cases h; exact ⟨rfl, rfl⟩) hnm 0 rfl (fun V10 e10 => ?_)
  refine gB hC _ _ _ _ _ _ _ qX9_init_13 rfl ?_
  refine g_kn (show a9 + 1 + 1 = a9 + 2 + 2 * ((0 : Nat) : Int) by omega) rfl rfl ?_
  refine g_loopA (fun x : gSh × gV × Nat => x.2.2 ≤ 60 ∧ (∀ c, (c ≤ a9 ∨ a9 + 2 + 2 * (x.2.2 : Int) ≤ c) → x.1 c = Sh c) ∧ (∀ c, c < a9 → x.2.1 c = V c) ∧ x.1 (a9 + 1) = some (106, 60) ∧ (∀ s : Int, 0 ≤ s → s < x.2.2 → x.1 (a9 + 2 + 2 * s) = some (7, 0) ∧ x.1 (a9 + 2 + 2 * s + 1) = some (100, 14) ∧ x.2.1 (a9 + 1) s = a9 + 2 + 2 * s ∧ x.2.1 (a9 + 2 + 2 * s) 11 = a9 + 2 + 2 * s + 1) ∧ x.2.1 a9 0 = a9 + 1 ∧ x.2.1 a9 1 = V a9 1) (fun x => 60 - x.2.2) 15 (fun x => [(2, a9), (0, (x.2.2 : Int))]) (fun x => x.1) (fun x => x.2.1) (fun x => a9 + 2 + 2 * (x.2.2 : Int)) (fun x => 1 + 2 * x.2.2) (fun x => 60 + 26 * x.2.2) (_, _, 0) ⟨Nat.zero_le _, fun c hc => ?_, fun c hc => ?_, shp_eq _ _ _, fun s s0 s1 => by have : s < 0 := s1; omega, by dsimp only; rw [e10, up_eq], by dsimp only; rw [e10, up_ne _ _ (Or.inr (by decide)), vn_ne _ _ (by omega)]⟩ ?_
  · have hc' : c ≤ a9 ∨ a9 + 2 + 2 * ((0 : Nat) : Int) ≤ c := hc
    exact shp_ne _ _ (by omega)
  · dsimp only; rw [e10, up_row _ _ _ (by omega), vn_ne _ _ (by omega)]
  rintro ⟨S1, V1, i⟩ ⟨hi, hSo, hVo, hA, hs9, hp0, hp1⟩ ih
  dsimp only at hi hSo hVo hA hs9 hp0 hp1 ih ⊢
  refine gB hC _ _ _ _ _ _ _ qX9_init_15 rfl ?_
  refine g_icmp_ge hC 40 dX9_init_18 rfl (by first | omega | exact cmpZ_in _ _ | exact bI_in _) (by first | omega | exact cmpZ_in _ _ | exact bI_in _) (fun c18 => ?_) (fun c18 => ?_)
  · obtain rfl : i = 60 := by omega
    refine g_return hC dX9_init_40 hr ⟨rfl, by show a9 + 2 + 2 * ((60 : Nat) : Int) = a9 + 122; omega, fun c hc => hSo c (by omega), hVo, hA, fun s s0 s1 => hs9 s s0 s1, hp0, hp1⟩ gs_rfl ⟨Nat.le_of_ble_eq_true rfl, Nat.le_of_ble_eq_true rfl⟩
  · refine gB hC _ _ _ _ _ _ _ qX9_init_21 rfl ?_
    refine g_getr hC dX9_init_22 fX9_11 ((hSo a9 (by omega)).trans hs) (by decide) rfl 0 rfl hp0 ?_
    refine gB hC _ _ _ _ _ _ _ qX9_init_25 rfl ?_
    refine g_new (ci := 7) hC dX9_init_26 lX9_9 nX8 zX8 (by decide) ⟨_, rfl, rfl, rfl⟩ ⟨by show 1 + 2 * i + 1 ≤ 121; omega, by show 60 + 26 * i + 12 ≤ 1620; omega⟩ (fun hz26 => ?_)
    refine gB hC _ _ _ _ _ _ _ qX9_init_29 rfl ?_
    refine g_callIN (host := "HotelNights") hC _ dX9_init_30 (by decide) iX8_init (kX8_init (shp_eq _ _ _) (by omega)) rfl (by omega) rfl (Nat.le_of_ble_eq_true rfl) ⟨⟨Nat.le_of_ble_eq_true rfl, Nat.le_of_ble_eq_true rfl⟩, ⟨by show 1 + 2 * i + 1 + 1 ≤ 121; omega, by show 60 + 26 * i + 12 + 14 ≤ 1620; omega⟩⟩ (fun r0 S30 V30 z30 h30 => ?_) (fun X S1 V1 z1 h => nomatch h.1)
    obtain ⟨h0, rfl, hS30, hV30, hG30⟩ := h30
    cases h0
    have hA30 : S30 (a9 + 1) = some (106, 60) := by rw [hS30 _ (by omega), shp_ne _ _ (by omega)]; exact hA
    have hN30 : S30 (a9 + 2 + 2 * (i : Int)) = some (7, 0) := by rw [hS30 _ (by omega)]; exact shp_eq _ _ _
    refine g_aastore (j := 6) hC dX9_init_33 hA30 (by decide) hN30 (by decide) ⟨_, rfl, rfl⟩ (by omega) (by omega) (by decide) ?_
    refine gB hC _ _ _ _ _ _ _ qX9_init_34 rfl ?_
    refine g_kn (show a9 + 2 + 2 * (i : Int) + 2 = a9 + 2 + 2 * ((i + 1 : Nat) : Int) by omega) (show 1 + 2 * i + 1 + 1 = 1 + 2 * (i + 1) by omega) (show 60 + 26 * i + 12 + 14 = 60 + 26 * (i + 1) by omega) ?_
    refine ih (S30, up V30 (a9 + 1) (i : Int) (a9 + 2 + 2 * (i : Int)), i + 1) ⟨by show i + 1 ≤ 60; omega, fun c hc => ?_, fun c hc => ?_, ?_, fun s s0 s1 => ?_, ?_, ?_⟩ (by show 60 - (i + 1) < 60 - i; omega)
    · have hc' : c ≤ a9 ∨ a9 + 2 + 2 * ((i + 1 : Nat) : Int) ≤ c := hc
      show S30 c = Sh c
      rw [hS30 c (by omega), shp_ne _ _ (by omega)]; exact hSo c (by omega)
    · show up V30 (a9 + 1) (i : Int) (a9 + 2 + 2 * (i : Int)) c = V c
      rw [up_row _ _ _ (by omega), hV30 c (by omega), vn_ne _ _ (by omega)]; exact hVo c hc
    · show S30 (a9 + 1) = some (106, 60)
      rw [hS30 _ (by omega), shp_ne _ _ (by omega)]; exact hA
    · have s2 : s < ((i + 1 : Nat) : Int) := s1
      by_cases hsi : s = (i : Int)
      · subst hsi
        refine ⟨?_, hG30.1, ?_, ?_⟩
        · show S30 _ = _
          rw [hS30 _ (by omega)]; exact shp_eq _ _ _
        · show up V30 (a9 + 1) (i : Int) _ (a9 + 1) (i : Int) = _
          rw [up_eq]
        · show up V30 (a9 + 1) (i : Int) _ (a9 + 2 + 2 * (i : Int)) 11 = _
          rw [up_ne _ _ (Or.inl (by omega))]; exact hG30.2
      · obtain ⟨q1, q2, q3, q4⟩ := hs9 s s0 (by omega)
        refine ⟨?_, ?_, ?_, ?_⟩
        · show S30 _ = _
          rw [hS30 _ (by omega), shp_ne _ _ (by omega)]; exact q1
        · show S30 _ = _
          rw [hS30 _ (by omega), shp_ne _ _ (by omega)]; exact q2
        · show up V30 (a9 + 1) (i : Int) _ (a9 + 1) s = _
          rw [up_ne _ _ (Or.inr hsi), hV30 _ (by omega), vn_ne _ _ (by omega)]; exact q3
        · show up V30 (a9 + 1) (i : Int) _ (a9 + 2 + 2 * s) 11 = _
          rw [up_ne _ _ (Or.inl (by omega)), hV30 _ (by omega), vn_ne _ _ (by omega)]; exact q4
    · show up V30 (a9 + 1) (i : Int) _ a9 0 = _
      rw [up_ne _ _ (Or.inl (by omega)), hV30 _ (by omega), vn_ne _ _ (by omega)]; exact hp0
    · show up V30 (a9 + 1) (i : Int) _ a9 1 = _
      rw [up_ne _ _ (Or.inl (by omega)), hV30 _ (by omega), vn_ne _ _ (by omega)]; exact hp1

