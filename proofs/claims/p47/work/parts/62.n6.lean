/-! the class: a sale (rows laid by wip/whole/n61.py) -/
theorem kX6_begin {E l Sh V z} {a9 x9 y9 : Int} (z1 : Sh a9 = some (5, 0)) (h0 : inI x9) (h1 : inI y9) : gM E l yX6_begin (.code yX6_begin cX6_begin 3 none) (rmk 0 0 0 0) [(2, a9), (0, x9), (0, y9)] Sh V z (gR none Sh (rwV V a9 (rowL [1, x9, y9, 0, y9, 0]) 6)) := by
  refine gM_at (L0 := [(2, a9), (0, x9), (0, y9)]) rfl rfl rfl ?_
  intro p e s m args below meth c hC hr hex hnm hz
  refine gB hC _ _ _ _ _ _ _ qX6_begin_0 rfl ?_
  refine g_putz hC dX6_begin_2 fX6_15 z1 (by decide) rfl (fun _ h => by cases h; rfl) 0 rfl (Or.inr rfl) (fun V2 e2 => ?_)
  refine gB hC _ _ _ _ _ _ _ qX6_begin_5 rfl ?_
  refine g_puti hC dX6_begin_7 fX6_19 z1 (by decide) rfl (fun _ h => by cases h; rfl) 1 rfl (by first | omega | exact cmpZ_in _ _ | exact bI_in _) (fun V7 e7 => ?_)
  refine gB hC _ _ _ _ _ _ _ qX6_begin_10 rfl ?_
  refine g_puti hC dX6_begin_12 fX6_23 z1 (by decide) rfl (fun _ h => by cases h; rfl) 2 rfl (by first | omega | exact cmpZ_in _ _ | exact bI_in _) (fun V12 e12 => ?_)
  refine gB hC _ _ _ _ _ _ _ qX6_begin_15 rfl ?_
  refine g_puti hC dX6_begin_17 fX6_26 z1 (by decide) rfl (fun _ h => by cases h; rfl) 3 rfl (by first | omega | exact cmpZ_in _ _ | exact bI_in _) (fun V17 e17 => ?_)
  refine gB hC _ _ _ _ _ _ _ qX6_begin_20 rfl ?_
  refine g_puti hC dX6_begin_22 fX6_29 z1 (by decide) rfl (fun _ h => by cases h; rfl) 4 rfl (by first | omega | exact cmpZ_in _ _ | exact bI_in _) (fun V22 e22 => ?_)
  refine gB hC _ _ _ _ _ _ _ qX6_begin_25 rfl ?_
  refine g_puti hC dX6_begin_27 fX6_32 z1 (by decide) rfl (fun _ h => by cases h; rfl) 5 rfl (by first | omega | exact cmpZ_in _ _ | exact bI_in _) (fun V27 e27 => ?_)
  refine g_return hC dX6_begin_30 hr ⟨rfl, rfl, ?_⟩ gs_rfl ⟨Nat.le_of_ble_eq_true rfl, Nat.le_of_ble_eq_true rfl⟩
  rw [e27, e22, e17, e12, e7, e2]; exact upS_rw V a9 [1, x9, y9, 0, y9, 0] rfl

theorem kX6_copyFrom {E l Sh V z} {a9 o9 : Int} (z1 : Sh a9 = some (5, 0)) (z2 : Sh (a9 + 1) = some (100, 4)) (z3 : V a9 6 = a9 + 1) (y1 : Sh o9 = some (5, 0)) (y2 : Sh (o9 + 1) = some (100, 4)) (y3 : V o9 6 = o9 + 1) (hne : o9 + 1 < a9 ∨ a9 + 1 < o9) : gM E l yX6_copyFrom (.code yX6_copyFrom cX6_copyFrom 2 none) (rmk 1 0 0 40) [(2, a9), (2, o9)] Sh V z (gR none Sh (rwV (rwV V a9 (V o9) 6) (a9 + 1) (V (o9 + 1)) 4)) := by
  refine gM_at (L0 := [(2, a9), (2, o9)]) rfl rfl rfl ?_
  intro p e s m args below meth c hC hr hex hnm hz
  refine gB hC _ _ _ _ _ _ _ qX6_copyFrom_0 rfl ?_
  refine g_getzv hC dX6_copyFrom_2 fX6_15 y1 (by decide) rfl 0 rfl rfl (fun i2 => ?_)
  refine g_putz hC dX6_copyFrom_5 fX6_15 z1 (by decide) rfl (fun _ h => by cases h; rfl) 0 rfl (i2) (fun V5 e5 => ?_)
  refine gB hC _ _ _ _ _ _ _ qX6_copyFrom_8 rfl ?_
  refine g_getiv hC dX6_copyFrom_10 fX6_19 y1 (by decide) rfl 1 rfl ((congrFun (congrFun e5 _) _).trans ((up_ne _ _ (by omega)).trans rfl)) (fun i10 => ?_)
  refine g_puti hC dX6_copyFrom_13 fX6_19 z1 (by decide) rfl (fun _ h => by cases h; rfl) 1 rfl (by first | omega | exact cmpZ_in _ _ | exact bI_in _) (fun V13 e13 => ?_)
  refine gB hC _ _ _ _ _ _ _ qX6_copyFrom_16 rfl ?_
  refine g_getiv hC dX6_copyFrom_18 fX6_23 y1 (by decide) rfl 2 rfl ((congrFun (congrFun e13 _) _).trans ((up_ne _ _ (by omega)).trans ((congrFun (congrFun e5 _) _).trans ((up_ne _ _ (by omega)).trans rfl)))) (fun i18 => ?_)
  refine g_puti hC dX6_copyFrom_21 fX6_23 z1 (by decide) rfl (fun _ h => by cases h; rfl) 2 rfl (by first | omega | exact cmpZ_in _ _ | exact bI_in _) (fun V21 e21 => ?_)
  refine gB hC _ _ _ _ _ _ _ qX6_copyFrom_24 rfl ?_
  refine g_getiv hC dX6_copyFrom_26 fX6_26 y1 (by decide) rfl 3 rfl ((congrFun (congrFun e21 _) _).trans ((up_ne _ _ (by omega)).trans ((congrFun (congrFun e13 _) _).trans ((up_ne _ _ (by omega)).trans ((congrFun (congrFun e5 _) _).trans ((up_ne _ _ (by omega)).trans rfl)))))) (fun i26 => ?_)
  refine g_puti hC dX6_copyFrom_29 fX6_26 z1 (by decide) rfl (fun _ h => by cases h; rfl) 3 rfl (by first | omega | exact cmpZ_in _ _ | exact bI_in _) (fun V29 e29 => ?_)
  refine gB hC _ _ _ _ _ _ _ qX6_copyFrom_32 rfl ?_
  refine g_getiv hC dX6_copyFrom_34 fX6_29 y1 (by decide) rfl 4 rfl ((congrFun (congrFun e29 _) _).trans ((up_ne _ _ (by omega)).trans ((congrFun (congrFun e21 _) _).trans ((up_ne _ _ (by omega)).trans ((congrFun (congrFun e13 _) _).trans ((up_ne _ _ (by omega)).trans ((congrFun (congrFun e5 _) _).trans ((up_ne _ _ (by omega)).trans rfl)))))))) (fun i34 => ?_)
  refine g_puti hC dX6_copyFrom_37 fX6_29 z1 (by decide) rfl (fun _ h => by cases h; rfl) 4 rfl (by first | omega | exact cmpZ_in _ _ | exact bI_in _) (fun V37 e37 => ?_)
  refine gB hC _ _ _ _ _ _ _ qX6_copyFrom_40 rfl ?_
  refine g_getiv hC dX6_copyFrom_42 fX6_32 y1 (by decide) rfl 5 rfl ((congrFun (congrFun e37 _) _).trans ((up_ne _ _ (by omega)).trans ((congrFun (congrFun e29 _) _).trans ((up_ne _ _ (by omega)).trans ((congrFun (congrFun e21 _) _).trans ((up_ne _ _ (by omega)).trans ((congrFun (congrFun e13 _) _).trans ((up_ne _ _ (by omega)).trans ((congrFun (congrFun e5 _) _).trans ((up_ne _ _ (by omega)).trans rfl)))))))))) (fun i42 => ?_)
  refine g_puti hC dX6_copyFrom_45 fX6_32 z1 (by decide) rfl (fun _ h => by cases h; rfl) 5 rfl (by first | omega | exact cmpZ_in _ _ | exact bI_in _) (fun V45 e45 => ?_)
  refine gB hC _ _ _ _ _ _ _ qX6_copyFrom_48 rfl ?_
  refine g_getr hC dX6_copyFrom_49 fX6_9 y1 (by decide) rfl 6 rfl ((congrFun (congrFun e45 _) _).trans ((up_ne _ _ (by omega)).trans ((congrFun (congrFun e37 _) _).trans ((up_ne _ _ (by omega)).trans ((congrFun (congrFun e29 _) _).trans ((up_ne _ _ (by omega)).trans ((congrFun (congrFun e21 _) _).trans ((up_ne _ _ (by omega)).trans ((congrFun (congrFun e13 _) _).trans ((up_ne _ _ (by omega)).trans ((congrFun (congrFun e5 _) _).trans ((up_ne _ _ (by omega)).trans y3)))))))))))) ?_
  refine gB hC _ _ _ _ _ _ _ qX6_copyFrom_52 rfl ?_
  refine g_getr hC dX6_copyFrom_54 fX6_9 z1 (by decide) rfl 6 rfl ((congrFun (congrFun e45 _) _).trans ((up_ne _ _ (by omega)).trans ((congrFun (congrFun e37 _) _).trans ((up_ne _ _ (by omega)).trans ((congrFun (congrFun e29 _) _).trans ((up_ne _ _ (by omega)).trans ((congrFun (congrFun e21 _) _).trans ((up_ne _ _ (by omega)).trans ((congrFun (congrFun e13 _) _).trans ((up_ne _ _ (by omega)).trans ((congrFun (congrFun e5 _) _).trans ((up_ne _ _ (by omega)).trans z3)))))))))))) ?_
  refine gB hC _ _ _ _ _ _ _ qX6_copyFrom_57 rfl ?_
  refine g_copy_int hC dX6_copyFrom_59 mX6_35 gCpN gCpS gCpI y2 z2 ⟨by decide, by decide⟩ (by decide) (by decide) (by decide) (by decide) (by decide) ⟨Nat.le_of_ble_eq_true rfl, Nat.le_of_ble_eq_true rfl⟩ ?_
  refine g_return hC dX6_copyFrom_62 hr ⟨rfl, rfl, ?_⟩ gs_rfl ⟨Nat.le_of_ble_eq_true rfl, Nat.le_of_ble_eq_true rfl⟩
  have e9 : V45 = rwV V a9 (V o9) 6 := by
    rw [e45, e37, e29, e21, e13, e5]
    refine (upS_rw V a9 [V o9 0, V o9 1, V o9 2, V o9 3, V o9 4, V o9 5] (n := 6) rfl).trans (rwV_congr (fun j j0 j1 => ?_))
    obtain rfl | rfl | rfl | rfl | rfl | rfl : j = 0 ∨ j = 1 ∨ j = 2 ∨ j = 3 ∨ j = 4 ∨ j = 5 := by omega
    all_goals rfl
  rw [cpV_rw, e9]
  have e8 : rwV V a9 (V o9) 6 (o9 + 1) = V (o9 + 1) := rwV_ne (by omega)
  rw [e8]

theorem kX6_remember {E l Sh V z} {a9 x9 : Int} {n9 : Nat} (z1 : Sh a9 = some (5, 0)) (z2 : Sh (a9 + 1) = some (100, 4)) (z3 : V a9 6 = a9 + 1) (h5 : V a9 5 = (n9 : Int)) (h0 : n9 < 4) (h1 : inI x9) : gM E l yX6_remember (.code yX6_remember cX6_remember 3 none) (rmk 0 0 0 0) [(2, a9), (0, x9)] Sh V z (gRe none (fun V' => (∀ i : Int, 0 ≤ i → i ≤ (n9 : Int) → V' (a9 + 1) i = isT (V (a9 + 1)) n9 x9 i) ∧ V' a9 = up V a9 5 (n9 + 1) a9 ∧ ∀ b, b ≠ a9 → b ≠ a9 + 1 → V' b = V b) Sh) := by
  refine gM_at (L0 := [(2, a9), (0, x9), (9, 0)]) rfl rfl rfl ?_
  intro p e s m args below meth c hC hr hex hnm hz
  refine gB hC _ _ _ _ _ _ _ qX6_remember_0 rfl ?_
  refine g_getiv hC dX6_remember_1 fX6_32 z1 (by decide) rfl 5 rfl h5 (fun i1 => ?_)
  refine gB hC _ _ _ _ _ _ _ qX6_remember_4 rfl ?_
  refine g_icmp_lt hC 9 dX6_remember_5 rfl (by first | omega | exact cmpZ_in _ _ | exact bI_in _) (by first | omega | exact cmpZ_in _ _ | exact bI_in _) (fun c5 => ?_) (fun c5 => ?_)
  · refine gB hC _ _ _ _ _ _ _ qX6_remember_9 rfl ?_
    refine g_getiv hC dX6_remember_10 fX6_32 z1 (by decide) rfl 5 rfl h5 (fun i10 => ?_)
    refine gB hC _ _ _ _ _ _ _ qX6_remember_13 rfl ?_
    refine g_loop (fun x : gV × Nat => x.1 = insV V (a9 + 1) n9 (x.2 : Int) ∧ x.2 ≤ n9 ∧ isP (V (a9 + 1)) x9 n9 = isP (V (a9 + 1)) x9 x.2) (fun x => x.2) 14 (fun x => [(2, a9), (0, x9), (0, (x.2 : Int))]) (fun x => x.1) (V, n9) ⟨insV_0 V (a9 + 1) n9, Nat.le_refl _, rfl⟩ ?_
    rintro ⟨V1, t⟩ z ⟨hV1, ht, hp9⟩ ih
    dsimp only at hV1 ht hp9 ih ⊢
    subst hV1
    have i3 : insV V (a9 + 1) n9 t a9 6 = a9 + 1 := by unfold insV; rw [if_neg (by omega)]; exact z3
    have i5 : insV V (a9 + 1) n9 t a9 5 = n9 := by unfold insV; rw [if_neg (by omega)]; exact h5
    have iat : insV V (a9 + 1) n9 t (a9 + 1) ((t : Int) - 1) = V (a9 + 1) ((t : Int) - 1) := by unfold insV; rw [if_neg (by omega)]
    refine gB hC _ _ _ _ _ _ _ qX6_remember_14 rfl ?_
    refine g_if_le hC 50 dX6_remember_15 rfl (by first | omega | exact cmpZ_in _ _ | exact bI_in _) (fun c15 => ?_) (fun c15 => ?_)
    · have hpt : isP (V (a9 + 1)) x9 n9 = t := by
        rw [hp9]
        cases t with
        | zero => rfl
        | succ t9 =>
          rw [isP, if_neg]
          rw [show ((t9 + 1 : Nat) : Int) - 1 = (t9 : Int) by omega] at *
          omega
      refine gB hC _ _ _ _ _ _ _ qX6_remember_50 rfl ?_
      refine g_getr hC dX6_remember_51 fX6_9 z1 (by decide) rfl 6 rfl i3 ?_
      refine gB hC _ _ _ _ _ _ _ qX6_remember_54 rfl ?_
      refine g_ast hC dX6_remember_56 z2 (by omega) (by omega) (by decide) (by first | omega | exact cmpZ_in _ _ | exact bI_in _) (fun V56 e56 => ?_)
      refine gB hC _ _ _ _ _ _ _ qX6_remember_57 rfl ?_
      refine g_getiv hC dX6_remember_59 fX6_32 z1 (by decide) rfl 5 rfl ((congrFun (congrFun e56 _) _).trans ((up_ne _ _ (by omega)).trans i5)) (fun i59 => ?_)
      refine gB hC _ _ _ _ _ _ _ qX6_remember_62 rfl ?_
      refine g_puti hC dX6_remember_64 fX6_32 z1 (by decide) rfl (fun _ h => by cases h; rfl) 5 rfl (by first | omega | exact cmpZ_in _ _ | exact bI_in _) (fun V64 e64 => ?_)
      refine g_return hC dX6_remember_67 hr ⟨rfl, rfl, ?_, ?_, ?_⟩ gs_rfl ⟨Nat.le_of_ble_eq_true rfl, Nat.le_of_ble_eq_true rfl⟩
      · intro i i0 i1
        rw [e64, up_ne _ _ (Or.inl (by omega)), e56]
        unfold isT
        rw [hpt]
        by_cases h7 : i < (t : Int)
        · rw [if_pos h7, up_ne _ _ (Or.inr (by omega))]; unfold insV; rw [if_neg (by omega)]
        · rw [if_neg h7]
          by_cases h8 : i = (t : Int)
          · rw [if_pos h8, h8, up_eq]
          · rw [if_neg h8, up_ne _ _ (Or.inr h8)]; unfold insV; rw [if_pos ⟨rfl, by omega, i1⟩]
      · rw [e64]
        funext j
        unfold up
        by_cases h7 : j = 5
        · rw [if_pos ⟨rfl, h7⟩, if_pos ⟨rfl, h7⟩]
        · rw [if_neg (fun q => h7 q.2), if_neg (fun q => h7 q.2), e56, up_ne _ _ (Or.inl (by omega))]; unfold insV; rw [if_neg (by omega)]
      · intro b hb1 hb2
        rw [e64, up_row _ _ _ hb1, e56, up_row _ _ _ hb2]
        funext j
        unfold insV
        rw [if_neg (fun q => hb2 q.1)]
    · refine gB hC _ _ _ _ _ _ _ qX6_remember_18 rfl ?_
      refine g_getr hC dX6_remember_19 fX6_9 z1 (by decide) rfl 6 rfl i3 ?_
      refine gB hC _ _ _ _ _ _ _ qX6_remember_22 rfl ?_
      refine g_iald hC dX6_remember_25 z2 iat (by omega) (by omega) (by decide) (fun i25 => ?_)
      refine gB hC _ _ _ _ _ _ _ qX6_remember_26 rfl ?_
      refine g_icmp_ge hC 50 dX6_remember_27 rfl (by first | omega | exact cmpZ_in _ _ | exact bI_in _) (by first | omega | exact cmpZ_in _ _ | exact bI_in _) (fun c27 => ?_) (fun c27 => ?_)
      · have hpt : isP (V (a9 + 1)) x9 n9 = t := by
          rw [hp9]
          cases t with
          | zero => rfl
          | succ t9 =>
            rw [isP, if_neg]
            rw [show ((t9 + 1 : Nat) : Int) - 1 = (t9 : Int) by omega] at *
            omega
        refine gB hC _ _ _ _ _ _ _ qX6_remember_50 rfl ?_
        refine g_getr hC dX6_remember_51 fX6_9 z1 (by decide) rfl 6 rfl i3 ?_
        refine gB hC _ _ _ _ _ _ _ qX6_remember_54 rfl ?_
        refine g_ast hC dX6_remember_56 z2 (by omega) (by omega) (by decide) (by first | omega | exact cmpZ_in _ _ | exact bI_in _) (fun V56 e56 => ?_)
        refine gB hC _ _ _ _ _ _ _ qX6_remember_57 rfl ?_
        refine g_getiv hC dX6_remember_59 fX6_32 z1 (by decide) rfl 5 rfl ((congrFun (congrFun e56 _) _).trans ((up_ne _ _ (by omega)).trans i5)) (fun i59 => ?_)
        refine gB hC _ _ _ _ _ _ _ qX6_remember_62 rfl ?_
        refine g_puti hC dX6_remember_64 fX6_32 z1 (by decide) rfl (fun _ h => by cases h; rfl) 5 rfl (by first | omega | exact cmpZ_in _ _ | exact bI_in _) (fun V64 e64 => ?_)
        refine g_return hC dX6_remember_67 hr ⟨rfl, rfl, ?_, ?_, ?_⟩ gs_rfl ⟨Nat.le_of_ble_eq_true rfl, Nat.le_of_ble_eq_true rfl⟩
        · intro i i0 i1
          rw [e64, up_ne _ _ (Or.inl (by omega)), e56]
          unfold isT
          rw [hpt]
          by_cases h7 : i < (t : Int)
          · rw [if_pos h7, up_ne _ _ (Or.inr (by omega))]; unfold insV; rw [if_neg (by omega)]
          · rw [if_neg h7]
            by_cases h8 : i = (t : Int)
            · rw [if_pos h8, h8, up_eq]
            · rw [if_neg h8, up_ne _ _ (Or.inr h8)]; unfold insV; rw [if_pos ⟨rfl, by omega, i1⟩]
        · rw [e64]
          funext j
          unfold up
          by_cases h7 : j = 5
          · rw [if_pos ⟨rfl, h7⟩, if_pos ⟨rfl, h7⟩]
          · rw [if_neg (fun q => h7 q.2), if_neg (fun q => h7 q.2), e56, up_ne _ _ (Or.inl (by omega))]; unfold insV; rw [if_neg (by omega)]
        · intro b hb1 hb2
          rw [e64, up_row _ _ _ hb1, e56, up_row _ _ _ hb2]
          funext j
          unfold insV
          rw [if_neg (fun q => hb2 q.1)]
      · refine gB hC _ _ _ _ _ _ _ qX6_remember_30 rfl ?_
        refine g_getr hC dX6_remember_31 fX6_9 z1 (by decide) rfl 6 rfl i3 ?_
        refine gB hC _ _ _ _ _ _ _ qX6_remember_34 rfl ?_
        refine g_getr hC dX6_remember_36 fX6_9 z1 (by decide) rfl 6 rfl i3 ?_
        refine gB hC _ _ _ _ _ _ _ qX6_remember_39 rfl ?_
        refine g_iald hC dX6_remember_42 z2 iat (by omega) (by omega) (by decide) (fun i42 => ?_)
        refine g_ast hC dX6_remember_43 z2 (by omega) (by omega) (by decide) (by first | omega | exact cmpZ_in _ _ | exact bI_in _) (fun V43 e43 => ?_)
        refine gB hC _ _ _ _ _ _ _ qX6_remember_44 rfl ?_
        rw [insV_up (by omega)] at e43
        obtain ⟨t9, rfl⟩ : ∃ t9, t = t9 + 1 := ⟨t - 1, by omega⟩
        rw [show ((t9 + 1 : Nat) : Int) - 1 = (t9 : Int) by omega] at c27 e43
        rw [show ((t9 + 1 : Nat) : Int) + -1 = (t9 : Int) by omega]
        refine ih (V43, t9) _ ⟨e43, by show t9 ≤ n9; omega, ?_⟩ (Nat.lt_succ_self _)
        rw [hp9]
        show isP _ _ (t9 + 1) = isP _ _ t9
        rw [isP, if_pos (by omega)]
  · exfalso; omega --stop

theorem kX6_bestInHindsight {E l Sh V z} {h9 : Int} {N : gN0} (hm : RH h9 N Sh V) (ho : oOk N) : gM E l yX6_bestInHindsight (.code yX6_bestInHindsight cX6_bestInHindsight 3 (some .int)) (rmk 0 0 0 0) [(2, h9 + 130)] Sh V z (gRi (wI (bsT N (min (N 26) (N 25)).toNat)) Sh V) := by
  refine gM_at (L0 := [(2, h9 + 130), (9, 0), (9, 0)]) rfl rfl rfl ?_
  intro p e s m args below meth c hC hr hex hnm hz
  have ho1 := ho.1
  have ho2 := ho.2.1
  have ho3 := ho.2.2.1
  have ho4 := ho.2.2.2
  refine gB hC _ _ _ _ _ _ _ qX6_bestInHindsight_0 rfl ?_
  refine g_loop (fun x : Int × Nat => x.1 = bsT N x.2 ∧ (x.2 : Int) ≤ N 26 ∧ (x.2 : Int) ≤ N 25) (fun x => (N 26 - x.2).toNat) 4 (fun x => [(2, h9 + 130), (0, x.1), (0, (x.2 : Int))]) (fun _ => V) (0, 0) ⟨rfl, by show (0 : Int) ≤ N 26; omega, by show (0 : Int) ≤ N 25; omega⟩ ?_
  rintro ⟨sum, t⟩ z ⟨hs9, ht, ht2⟩ ih
  dsimp only at hs9 ht ht2 ih ⊢
  refine gB hC _ _ _ _ _ _ _ qX6_bestInHindsight_4 rfl ?_
  refine g_getiv hC dX6_bestInHindsight_6 fX6_32 hm.1.sA (by decide) rfl 5 rfl hm.a5 (fun i6 => ?_)
  refine g_icmp_ge hC 40 dX6_bestInHindsight_9 rfl (by first | omega | exact cmpZ_in _ _ | exact bI_in _) (by first | omega | exact cmpZ_in _ _ | exact bI_in _) (fun c9 => ?_) (fun c9 => ?_)
  · refine gB hC _ _ _ _ _ _ _ qX6_bestInHindsight_40 rfl ?_
    have e9 : t = (min (N 26) (N 25)).toNat := by omega
    rw [hs9, e9]
    refine g_wrap1 ?_
    refine g_ireturn hC dX6_bestInHindsight_41 hr ⟨rfl, rfl, rfl, i32_in _⟩ gs_rfl ⟨Nat.le_of_ble_eq_true rfl, Nat.le_of_ble_eq_true rfl⟩
  · refine gB hC _ _ _ _ _ _ _ qX6_bestInHindsight_12 rfl ?_
    refine g_getiv hC dX6_bestInHindsight_14 fX6_29 hm.1.sA (by decide) rfl 4 rfl hm.a4 (fun i14 => ?_)
    refine g_icmp_ge hC 40 dX6_bestInHindsight_17 rfl (by first | omega | exact cmpZ_in _ _ | exact bI_in _) (by first | omega | exact cmpZ_in _ _ | exact bI_in _) (fun c17 => ?_) (fun c17 => ?_)
    · refine gB hC _ _ _ _ _ _ _ qX6_bestInHindsight_40 rfl ?_
      have e9 : t = (min (N 26) (N 25)).toNat := by omega
      rw [hs9, e9]
      refine g_wrap1 ?_
      refine g_ireturn hC dX6_bestInHindsight_41 hr ⟨rfl, rfl, rfl, i32_in _⟩ gs_rfl ⟨Nat.le_of_ble_eq_true rfl, Nat.le_of_ble_eq_true rfl⟩
    · refine gB hC _ _ _ _ _ _ _ qX6_bestInHindsight_20 rfl ?_
      refine g_icmp_ge hC 40 dX6_bestInHindsight_22 rfl (by first | omega | exact cmpZ_in _ _ | exact bI_in _) (by first | omega | exact cmpZ_in _ _ | exact bI_in _) (fun c22 => ?_) (fun c22 => ?_)
      · refine gB hC _ _ _ _ _ _ _ qX6_bestInHindsight_40 rfl ?_
        have e9 : t = (min (N 26) (N 25)).toNat := by omega
        rw [hs9, e9]
        refine g_wrap1 ?_
        refine g_ireturn hC dX6_bestInHindsight_41 hr ⟨rfl, rfl, rfl, i32_in _⟩ gs_rfl ⟨Nat.le_of_ble_eq_true rfl, Nat.le_of_ble_eq_true rfl⟩
      · refine gB hC _ _ _ _ _ _ _ qX6_bestInHindsight_25 rfl ?_
        refine g_getr hC dX6_bestInHindsight_27 fX6_9 hm.1.sA (by decide) rfl 6 rfl hm.2.1.pF ?_
        refine gB hC _ _ _ _ _ _ _ qX6_bestInHindsight_30 rfl ?_
        refine g_iald hC dX6_bestInHindsight_31 hm.1.sF (hm.of (by omega) (by omega)) (by omega) (by omega) (by decide) (fun i31 => ?_)
        refine gB hC _ _ _ _ _ _ _ qX6_bestInHindsight_32 rfl ?_
        refine ih (_, t + 1) _ ⟨?_, by show ((t + 1 : Nat) : Int) ≤ N 26; omega, by show ((t + 1 : Nat) : Int) ≤ N 25; omega⟩ (by show (N 26 - ((t + 1 : Nat) : Int)).toNat < (N 26 - t).toNat; omega)
        rw [hs9, bsT]

theorem kX6_tell {E l Sh V z} {h9 w9 : Int} {N : gN0} (hm : RH h9 N Sh V) (ho : oOk N) (h0 : 0 ≤ w9) (h1 : w9 ≤ 3) : gM E l yX6_tell (.code yX6_tell cX6_tell 2 (some .int)) (rmk 1 0 0 30) [(2, h9 + 130), (0, w9)] Sh V z (gRi (if w9 < 3 then N (22 + w9) else wI (bsT N (min (N 26) (N 25)).toNat)) Sh V) := by
  refine gM_at (L0 := [(2, h9 + 130), (0, w9)]) rfl rfl rfl ?_
  intro p e s m args below meth c hC hr hex hnm hz
  have ho1 := ho.1
  have ho2 := ho.2.1
  have ho3 := ho.2.2.1
  have ho4 := ho.2.2.2
  refine gB hC _ _ _ _ _ _ _ qX6_tell_0 rfl ?_
  have hsw : w9 = 0 ∨ w9 = 1 ∨ w9 = 2 ∨ w9 = 3 := by omega
  rcases hsw with rfl | rfl | rfl | rfl
  · refine g_tsIn hC 28 dX6_tell_1 (by decide) (by decide) (by decide) (off := 27) rfl rfl ?_
    refine gB hC _ _ _ _ _ _ _ qX6_tell_28 rfl ?_
    refine g_getiv hC dX6_tell_29 fX6_19 hm.1.sA (by decide) rfl 1 rfl hm.a1 (fun i29 => ?_)
    refine g_ireturn hC dX6_tell_32 hr ⟨rfl, rfl, rfl, by assumption⟩ gs_rfl ⟨Nat.le_of_ble_eq_true rfl, Nat.le_of_ble_eq_true rfl⟩
  · refine g_tsIn hC 33 dX6_tell_1 (by decide) (by decide) (by decide) (off := 32) rfl rfl ?_
    refine gB hC _ _ _ _ _ _ _ qX6_tell_33 rfl ?_
    refine g_getiv hC dX6_tell_34 fX6_23 hm.1.sA (by decide) rfl 2 rfl hm.a2 (fun i34 => ?_)
    refine g_ireturn hC dX6_tell_37 hr ⟨rfl, rfl, rfl, by assumption⟩ gs_rfl ⟨Nat.le_of_ble_eq_true rfl, Nat.le_of_ble_eq_true rfl⟩
  · refine g_tsIn hC 38 dX6_tell_1 (by decide) (by decide) (by decide) (off := 37) rfl rfl ?_
    refine gB hC _ _ _ _ _ _ _ qX6_tell_38 rfl ?_
    refine g_getiv hC dX6_tell_39 fX6_26 hm.1.sA (by decide) rfl 3 rfl hm.a3 (fun i39 => ?_)
    refine g_ireturn hC dX6_tell_42 hr ⟨rfl, rfl, rfl, by assumption⟩ gs_rfl ⟨Nat.le_of_ble_eq_true rfl, Nat.le_of_ble_eq_true rfl⟩
  · refine g_tsOut hC 43 dX6_tell_1 (by decide) (Or.inr (by decide)) rfl ?_
    refine gB hC _ _ _ _ _ _ _ qX6_tell_43 rfl ?_
    refine g_cV1i hC dX6_tell_44 mX6_51 vX6_bestInHindsight (kX6_bestInHindsight hm ho) rfl hm.1.sA (by decide) rfl (Nat.le_of_ble_eq_true rfl) (RR rfl rfl rfl rfl) (fun z i44 => ?_)
    refine g_ireturn hC dX6_tell_47 hr ⟨rfl, rfl, rfl, by assumption⟩ gs_rfl ⟨Nat.le_of_ble_eq_true rfl, Nat.le_of_ble_eq_true rfl⟩

