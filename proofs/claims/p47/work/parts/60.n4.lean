/-! the class: all stays (rows laid by wip/whole/n60.py) -/
/-- the greatest count on the first nights in a range, and on its first one -/
def moN (N : gN0) (k x y : Int) : Nat → Int
  | 0 => cnt N k x
  | n + 1 => if (sF N n 0 = 0 ∨ sF N n 0 = 1) ∧ sF N n 1 = k ∧ x < sF N n 2 ∧ sF N n 2 ≤ y then max (moN N k x y n) (cnt N k (sF N n 2)) else moN N k x y n
theorem moN_in {N : gN0} (h : InvC N) (k x y : Int) : ∀ n, 0 ≤ moN N k x y n ∧ moN N k x y n ≤ 60 := by
  intro n
  induction n with
  | zero => exact cnt_in h k x
  | succ n ih =>
    have := cnt_in h k (sF N n 2)
    unfold moN
    split <;> omega
/-- nights of stays that are paid or over, in a range; and what they bring -/
def pnT (N : gN0) (x y : Int) : Nat → Int
  | 0 => 0
  | n + 1 => pnT N x y n + (if sF N n 0 = 1 ∨ sF N n 0 = 4 then max 0 (min y (sF N n 2 + sF N n 3 - 1) - max x (sF N n 2) + 1) else 0)
theorem pnT_in {N : gN0} (h : InvC N) (x y : Int) : ∀ n : Nat, (n : Int) ≤ N 5 → 0 ≤ pnT N x y n ∧ pnT N x y n ≤ 14 * n := by
  intro n
  induction n with
  | zero => intro _; exact ⟨Int.le_refl _, by show (0 : Int) ≤ 14 * ((0 : Nat) : Int); omega⟩
  | succ n ih =>
    intro hn
    have h1 := ih (by omega)
    have hs := (h.2.2.2.1 n (by omega) (by omega)).1
    unfold pnT
    split <;> omega
def piT (N : gN0) (x y : Int) : Nat → Int
  | 0 => 0
  | n + 1 => piT N x y n + (if sF N n 0 = 1 ∨ sF N n 0 = 4 then iwT N n x y (sF N n 3).toNat else 0)
theorem piT_in {N : gN0} (h : InvC N) (x y : Int) : ∀ n : Nat, (n : Int) ≤ N 5 → 0 ≤ piT N x y n ∧ piT N x y n ≤ 10080000 * n := by
  intro n
  induction n with
  | zero => intro _; exact ⟨Int.le_refl _, by show (0 : Int) ≤ 10080000 * ((0 : Nat) : Int); omega⟩
  | succ n ih =>
    intro hn
    have h1 := ih (by omega)
    have hs := (h.2.2.2.1 n (by omega) (by omega)).1
    have h2 := iwT_in (x := x) (y := y) (h.2.2.2.1 n (by omega) (by omega)) (sF N n 3).toNat (by omega)
    unfold piT
    split <;> omega

theorem kX9_countOn {E l Sh V z} {h9 k9 d9 : Int} {N : gN0} (hm : RH h9 N Sh V) (hI : InvC N) (h1 : inI k9) (h2 : inI d9) : gM E l yX9_countOn (.code yX9_countOn cX9_countOn 6 (some .int)) (rmk 1 0 0 40) [(2, h9 + 4), (0, k9), (0, d9)] Sh V z (gRi (cnt N k9 d9) Sh V) := by
  refine gM_at (L0 := [(2, h9 + 4), (0, k9), (0, d9), (9, 0), (9, 0), (9, 0)]) rfl rfl rfl ?_
  intro p e s m args below meth c hC hr hex hnm hz
  have hsc := hI.1
  unfold iScal at hsc
  have hcn := cnt_in hI k9 d9
  refine gB hC _ _ _ _ _ _ _ qX9_countOn_0 rfl ?_
  refine g_loop (fun x : Int × Nat × aV => x.1 = cntT N k9 d9 x.2.1 ∧ (x.2.1 : Int) ≤ N 5) (fun x => (N 5 - x.2.1).toNat) 5 (fun x => [(2, h9 + 4), (0, k9), (0, d9), (0, x.1), (0, (x.2.1 : Int)), x.2.2]) (fun _ => V) (0, 0, (9, 0)) ⟨rfl, by show (0 : Int) ≤ N 5; omega⟩ ?_
  rintro ⟨many, t, a5⟩ z ⟨hmany, ht⟩ ih
  dsimp only at hmany ht ih ⊢
  have hct := cntT_in N k9 d9 t
  refine gB hC _ _ _ _ _ _ _ qX9_countOn_5 rfl ?_
  refine g_getiv hC dX9_countOn_8 fX9_18 hm.1.sT (by decide) rfl 1 rfl hm.tS (fun i8 => ?_)
  refine g_icmp_ge hC 58 dX9_countOn_11 rfl (by first | omega | exact cmpZ_in _ _ | exact bI_in _) (by first | omega | exact cmpZ_in _ _ | exact bI_in _) (fun c11 => ?_) (fun c11 => ?_)
  · refine gB hC _ _ _ _ _ _ _ qX9_countOn_58 rfl ?_
    refine g_ireturn hC dX9_countOn_59 hr ⟨?_, rfl, rfl, by omega⟩ gs_rfl ⟨Nat.le_of_ble_eq_true rfl, Nat.le_of_ble_eq_true rfl⟩
    have : t = (N 5).toNat := by omega
    subst this
    rw [hmany]; rfl
  · have hso := (hI.2.2.2.1 t (by omega) (by omega)).1
    refine gB hC _ _ _ _ _ _ _ qX9_countOn_14 rfl ?_
    refine g_getr hC dX9_countOn_15 fX9_11 hm.1.sT (by decide) rfl 0 rfl hm.2.1.pR ?_
    refine gB hC _ _ _ _ _ _ _ qX9_countOn_18 rfl ?_
    refine g_aald hC (j := 6) dX9_countOn_20 hm.1.sR (by decide) (hm.2.1.ps (by omega) (by omega)) (by omega) (by omega) (by decide) ?_
    refine gB hC _ _ _ _ _ _ _ qX9_countOn_21 rfl ?_
    refine g_getiv hC dX9_countOn_25 fX9_26 (hm.1.ss (by omega) (by omega)) (by decide) rfl 1 rfl (hm.st (by omega) (by omega)).f1 (fun i25 => ?_)
    refine gB hC _ _ _ _ _ _ _ qX9_countOn_28 rfl ?_
    refine g_icmp_ne hC 52 dX9_countOn_29 rfl (by first | omega | exact cmpZ_in _ _ | exact bI_in _) (by first | omega | exact cmpZ_in _ _ | exact bI_in _) (fun c29 => ?_) (fun c29 => ?_)
    · refine gB hC _ _ _ _ _ _ _ qX9_countOn_52 rfl ?_
      refine ih (_, t + 1, _) _ ⟨?_, by show ((t + 1 : Nat) : Int) ≤ N 5; omega⟩ (by show (N 5 - ((t + 1 : Nat) : Int)).toNat < (N 5 - t).toNat; omega)
      rw [hmany]
      first | rw [cntT, if_pos ⟨by omega, by omega, by omega, by omega⟩] | (rw [cntT, if_neg (by omega)]; omega)
    · refine gB hC _ _ _ _ _ _ _ qX9_countOn_32 rfl ?_
      refine g_cV1 hC dX9_countOn_34 mX9_29 vX8_isAlive (kX8_isAlive (hm.1.ss (by omega) (by omega)) (hm.st (by omega) (by omega))) rfl (hm.1.ss (by omega) (by omega)) (by decide) rfl (Nat.le_of_ble_eq_true rfl) (RR rfl rfl rfl rfl) (fun z => ?_)
      refine g_if_eq hC 52 dX9_countOn_37 rfl (by first | omega | exact cmpZ_in _ _ | exact bI_in _) (fun c37 => ?_) (fun c37 => ?_)
      · have c37 := bI_0.mp c37
        refine gB hC _ _ _ _ _ _ _ qX9_countOn_52 rfl ?_
        refine ih (_, t + 1, _) _ ⟨?_, by show ((t + 1 : Nat) : Int) ≤ N 5; omega⟩ (by show (N 5 - ((t + 1 : Nat) : Int)).toNat < (N 5 - t).toNat; omega)
        rw [hmany]
        first | rw [cntT, if_pos ⟨by omega, by omega, by omega, by omega⟩] | (rw [cntT, if_neg (by omega)]; omega)
      · have c37 := bI_n0.mp c37
        refine gB hC _ _ _ _ _ _ _ qX9_countOn_40 rfl ?_
        refine g_cV1 hC dX9_countOn_43 mX9_33 vX8_hasNight (kX8_hasNight (hm.1.ss (by omega) (by omega)) (hm.st (by omega) (by omega)) (hI.2.2.2.1 _ (by omega) (by omega)) (by omega)) rfl (hm.1.ss (by omega) (by omega)) (by decide) rfl (Nat.le_of_ble_eq_true rfl) (RR rfl rfl rfl rfl) (fun z => ?_)
        refine g_if_eq hC 52 dX9_countOn_46 rfl (by first | omega | exact cmpZ_in _ _ | exact bI_in _) (fun c46 => ?_) (fun c46 => ?_)
        · have c46 := bI_0.mp c46
          refine gB hC _ _ _ _ _ _ _ qX9_countOn_52 rfl ?_
          refine ih (_, t + 1, _) _ ⟨?_, by show ((t + 1 : Nat) : Int) ≤ N 5; omega⟩ (by show (N 5 - ((t + 1 : Nat) : Int)).toNat < (N 5 - t).toNat; omega)
          rw [hmany]
          first | rw [cntT, if_pos ⟨by omega, by omega, by omega, by omega⟩] | (rw [cntT, if_neg (by omega)]; omega)
        · have c46 := bI_n0.mp c46
          refine gB hC _ _ _ _ _ _ _ qX9_countOn_49 rfl ?_
          refine gB hC _ _ _ _ _ _ _ qX9_countOn_52 rfl ?_
          refine ih (_, t + 1, _) _ ⟨?_, by show ((t + 1 : Nat) : Int) ≤ N 5; omega⟩ (by show (N 5 - ((t + 1 : Nat) : Int)).toNat < (N 5 - t).toNat; omega)
          rw [hmany]
          first | rw [cntT, if_pos ⟨by omega, by omega, by omega, by omega⟩] | (rw [cntT, if_neg (by omega)]; omega)

theorem kX9_mostOn {E l Sh V z} {h9 k9 x9 y9 : Int} {N : gN0} (hm : RH h9 N Sh V) (hI : InvC N) (h1 : inI k9) (h2 : inI x9) (h3 : inI y9) : gM E l yX9_mostOn (.code yX9_mostOn cX9_mostOn 7 (some .int)) (rmk 2 0 0 70) [(2, h9 + 4), (0, k9), (0, x9), (0, y9)] Sh V z (gRi (moN N k9 x9 y9 (N 5).toNat) Sh V) := by
  refine gM_at (L0 := [(2, h9 + 4), (0, k9), (0, x9), (0, y9), (9, 0), (9, 0), (9, 0)]) rfl rfl rfl ?_
  intro p e s m args below meth c hC hr hex hnm hz
  have hsc := hI.1
  unfold iScal at hsc
  have hmo := moN_in hI k9 x9 y9 (N 5).toNat
  refine gB hC _ _ _ _ _ _ _ qX9_mostOn_0 rfl ?_
  refine g_cV1i hC dX9_mostOn_3 mX9_37 vX9_countOn (kX9_countOn hm hI (by omega) (by omega)) rfl hm.1.sT (by decide) rfl (Nat.le_of_ble_eq_true rfl) (RR rfl rfl rfl rfl) (fun z i3 => ?_)
  refine gB hC _ _ _ _ _ _ _ qX9_mostOn_6 rfl ?_
  refine g_loop (fun x : Int × Nat × aV => x.1 = moN N k9 x9 y9 x.2.1 ∧ (x.2.1 : Int) ≤ N 5) (fun x => (N 5 - x.2.1).toNat) 11 (fun x => [(2, h9 + 4), (0, k9), (0, x9), (0, y9), (0, x.1), (0, (x.2.1 : Int)), x.2.2]) (fun _ => V) (_, 0, (9, 0)) ⟨rfl, by show (0 : Int) ≤ N 5; omega⟩ ?_
  rintro ⟨most, t, a5⟩ z ⟨hmany, ht⟩ ih
  dsimp only at hmany ht ih ⊢
  have hct := moN_in hI k9 x9 y9 t
  refine gB hC _ _ _ _ _ _ _ qX9_mostOn_11 rfl ?_
  refine g_getiv hC dX9_mostOn_14 fX9_18 hm.1.sT (by decide) rfl 1 rfl hm.tS (fun i14 => ?_)
  refine g_icmp_ge hC 87 dX9_mostOn_17 rfl (by first | omega | exact cmpZ_in _ _ | exact bI_in _) (by first | omega | exact cmpZ_in _ _ | exact bI_in _) (fun c17 => ?_) (fun c17 => ?_)
  · refine gB hC _ _ _ _ _ _ _ qX9_mostOn_87 rfl ?_
    refine g_ireturn hC dX9_mostOn_89 hr ⟨?_, rfl, rfl, by omega⟩ gs_rfl ⟨Nat.le_of_ble_eq_true rfl, Nat.le_of_ble_eq_true rfl⟩
    have : t = (N 5).toNat := by omega
    subst this
    rw [hmany]
  · have hso := (hI.2.2.2.1 t (by omega) (by omega)).1
    refine gB hC _ _ _ _ _ _ _ qX9_mostOn_20 rfl ?_
    refine g_getr hC dX9_mostOn_21 fX9_11 hm.1.sT (by decide) rfl 0 rfl hm.2.1.pR ?_
    refine gB hC _ _ _ _ _ _ _ qX9_mostOn_24 rfl ?_
    refine g_aald hC (j := 6) dX9_mostOn_26 hm.1.sR (by decide) (hm.2.1.ps (by omega) (by omega)) (by omega) (by omega) (by decide) ?_
    refine gB hC _ _ _ _ _ _ _ qX9_mostOn_27 rfl ?_
    refine g_getiv hC dX9_mostOn_31 fX9_26 (hm.1.ss (by omega) (by omega)) (by decide) rfl 1 rfl (hm.st (by omega) (by omega)).f1 (fun i31 => ?_)
    refine gB hC _ _ _ _ _ _ _ qX9_mostOn_34 rfl ?_
    refine g_icmp_ne hC 81 dX9_mostOn_35 rfl (by first | omega | exact cmpZ_in _ _ | exact bI_in _) (by first | omega | exact cmpZ_in _ _ | exact bI_in _) (fun c35 => ?_) (fun c35 => ?_)
    · refine gB hC _ _ _ _ _ _ _ qX9_mostOn_81 rfl ?_
      refine ih (_, t + 1, _) _ ⟨?_, by show ((t + 1 : Nat) : Int) ≤ N 5; omega⟩ (by show (N 5 - ((t + 1 : Nat) : Int)).toNat < (N 5 - t).toNat; omega)
      rw [hmany]
      first | rw [moN, if_pos ⟨by omega, by omega, by omega, by omega⟩] | (rw [moN, if_neg (by omega)])
    · refine gB hC _ _ _ _ _ _ _ qX9_mostOn_38 rfl ?_
      refine g_cV1 hC dX9_mostOn_40 mX9_29 vX8_isAlive (kX8_isAlive (hm.1.ss (by omega) (by omega)) (hm.st (by omega) (by omega))) rfl (hm.1.ss (by omega) (by omega)) (by decide) rfl (Nat.le_of_ble_eq_true rfl) (RR rfl rfl rfl rfl) (fun z => ?_)
      refine g_if_eq hC 81 dX9_mostOn_43 rfl (by first | omega | exact cmpZ_in _ _ | exact bI_in _) (fun c43 => ?_) (fun c43 => ?_)
      · have c43 := bI_0.mp c43
        refine gB hC _ _ _ _ _ _ _ qX9_mostOn_81 rfl ?_
        refine ih (_, t + 1, _) _ ⟨?_, by show ((t + 1 : Nat) : Int) ≤ N 5; omega⟩ (by show (N 5 - ((t + 1 : Nat) : Int)).toNat < (N 5 - t).toNat; omega)
        rw [hmany]
        first | rw [moN, if_pos ⟨by omega, by omega, by omega, by omega⟩] | (rw [moN, if_neg (by omega)])
      · have c43 := bI_n0.mp c43
        refine gB hC _ _ _ _ _ _ _ qX9_mostOn_46 rfl ?_
        refine g_getiv hC dX9_mostOn_49 fX9_41 (hm.1.ss (by omega) (by omega)) (by decide) rfl 2 rfl (hm.st (by omega) (by omega)).f2 (fun i49 => ?_)
        refine g_icmp_ge hC 81 dX9_mostOn_52 rfl (by first | omega | exact cmpZ_in _ _ | exact bI_in _) (by first | omega | exact cmpZ_in _ _ | exact bI_in _) (fun c52 => ?_) (fun c52 => ?_)
        · refine gB hC _ _ _ _ _ _ _ qX9_mostOn_81 rfl ?_
          refine ih (_, t + 1, _) _ ⟨?_, by show ((t + 1 : Nat) : Int) ≤ N 5; omega⟩ (by show (N 5 - ((t + 1 : Nat) : Int)).toNat < (N 5 - t).toNat; omega)
          rw [hmany]
          first | rw [moN, if_pos ⟨by omega, by omega, by omega, by omega⟩] | (rw [moN, if_neg (by omega)])
        · refine gB hC _ _ _ _ _ _ _ qX9_mostOn_55 rfl ?_
          refine g_getiv hC dX9_mostOn_57 fX9_41 (hm.1.ss (by omega) (by omega)) (by decide) rfl 2 rfl (hm.st (by omega) (by omega)).f2 (fun i57 => ?_)
          refine gB hC _ _ _ _ _ _ _ qX9_mostOn_60 rfl ?_
          refine g_icmp_gt hC 81 dX9_mostOn_61 rfl (by first | omega | exact cmpZ_in _ _ | exact bI_in _) (by first | omega | exact cmpZ_in _ _ | exact bI_in _) (fun c61 => ?_) (fun c61 => ?_)
          · refine gB hC _ _ _ _ _ _ _ qX9_mostOn_81 rfl ?_
            refine ih (_, t + 1, _) _ ⟨?_, by show ((t + 1 : Nat) : Int) ≤ N 5; omega⟩ (by show (N 5 - ((t + 1 : Nat) : Int)).toNat < (N 5 - t).toNat; omega)
            rw [hmany]
            first | rw [moN, if_pos ⟨by omega, by omega, by omega, by omega⟩] | (rw [moN, if_neg (by omega)])
          · refine gB hC _ _ _ _ _ _ _ qX9_mostOn_64 rfl ?_
            refine g_getiv hC dX9_mostOn_70 fX9_41 (hm.1.ss (by omega) (by omega)) (by decide) rfl 2 rfl (hm.st (by omega) (by omega)).f2 (fun i70 => ?_)
            refine g_cV1i hC dX9_mostOn_73 mX9_37 vX9_countOn (kX9_countOn hm hI (by omega) (by omega)) rfl hm.1.sT (by decide) rfl (Nat.le_of_ble_eq_true rfl) (RR rfl rfl rfl rfl) (fun z i73 => ?_)
            refine g_max hC dX9_mostOn_76 mX9_44 (by first | omega | exact cmpZ_in _ _ | exact bI_in _) (by first | omega | exact cmpZ_in _ _ | exact bI_in _) ⟨Nat.le_of_ble_eq_true rfl, Nat.le_of_ble_eq_true rfl, Nat.le_of_ble_eq_true rfl, Nat.le_of_ble_eq_true rfl⟩ ?_
            refine gB hC _ _ _ _ _ _ _ qX9_mostOn_79 rfl ?_
            refine gB hC _ _ _ _ _ _ _ qX9_mostOn_81 rfl ?_
            refine ih (_, t + 1, _) _ ⟨?_, by show ((t + 1 : Nat) : Int) ≤ N 5; omega⟩ (by show (N 5 - ((t + 1 : Nat) : Int)).toNat < (N 5 - t).toNat; omega)
            rw [hmany]
            first | rw [moN, if_pos ⟨by omega, by omega, by omega, by omega⟩] | (rw [moN, if_neg (by omega)])

theorem kX9_mostOnAnyNight {E l Sh V z} {h9 k9 : Int} {N : gN0} (hm : RH h9 N Sh V) (hI : InvC N) (h1 : inI k9) : gM E l yX9_mostOnAnyNight (.code yX9_mostOnAnyNight cX9_mostOnAnyNight 2 (some .int)) (rmk 3 0 0 100) [(2, h9 + 4), (0, k9)] Sh V z (gRi (moN N k9 0 36524 (N 5).toNat) Sh V) := by
  refine gM_at (L0 := [(2, h9 + 4), (0, k9)]) rfl rfl rfl ?_
  intro p e s m args below meth c hC hr hex hnm hz
  refine gB hC _ _ _ _ _ _ _ qX9_mostOnAnyNight_0 rfl ?_
  refine g_ldc hC 36524 kX9_51 rfl dX9_mostOnAnyNight_3 ?_
  refine g_cV1i hC dX9_mostOnAnyNight_5 mX9_52 vX9_mostOn (kX9_mostOn hm hI (by omega) (by omega) (by omega)) rfl hm.1.sT (by decide) rfl (Nat.le_of_ble_eq_true rfl) (RR rfl rfl rfl rfl) (fun z i5 => ?_)
  refine g_ireturn hC dX9_mostOnAnyNight_8 hr ⟨rfl, rfl, rfl, by have hmo := moN_in hI k9 0 36524 (N 5).toNat; omega⟩ gs_rfl ⟨Nat.le_of_ble_eq_true rfl, Nat.le_of_ble_eq_true rfl⟩

theorem kX9_cancelHeldOf {E l Sh V z} {h9 g9 : Int} {N : gN0} (hm : RH h9 N Sh V) (hI0 : INV N) (h1 : inI g9) : gM E l yX9_cancelHeldOf (.code yX9_cancelHeldOf cX9_cancelHeldOf 4 (some .int)) (rmk 0 0 0 0) [(2, h9 + 4), (0, g9)] Sh V z (gRe (some (0, (lgS N g9 (N 5).toNat).2)) (fun V' => RH h9 (lgS N g9 (N 5).toNat).1 Sh V' ∧ OUT h9 V V') Sh) := by
  refine gM_at (L0 := [(2, h9 + 4), (0, g9), (9, 0), (9, 0)]) rfl rfl rfl ?_
  intro p e s m args below meth c hC hr hex hnm hz
  have hI := hI0.1
  have hsc := hI.1
  unfold iScal at hsc
  refine gB hC _ _ _ _ _ _ _ qX9_cancelHeldOf_0 rfl ?_
  refine g_loop (fun x : gV × Int × Nat => RH h9 (lgS N g9 x.2.2).1 Sh x.1 ∧ OUT h9 V x.1 ∧ x.2.1 = (lgS N g9 x.2.2).2 ∧ (x.2.2 : Int) ≤ N 5) (fun x => (N 5 - x.2.2).toNat) 4 (fun x => [(2, h9 + 4), (0, g9), (0, x.2.1), (0, (x.2.2 : Int))]) (fun x => x.1) (V, 0, 0) ⟨hm, OUT.rfl' _ _, rfl, by show (0 : Int) ≤ N 5; omega⟩ ?_
  rintro ⟨V1, many, t⟩ z ⟨hm1, ho1, hmany, ht⟩ ih
  dsimp only at hm1 ho1 hmany ht ih ⊢
  have hlg := lgS_inv (g := g9) hI0 t ht
  have hI1 := hlg.1.1
  refine gB hC _ _ _ _ _ _ _ qX9_cancelHeldOf_4 rfl ?_
  refine g_getiv hC dX9_cancelHeldOf_6 fX9_18 hm.1.sT (by decide) rfl 1 rfl hm1.tS (fun i6 => ?_)
  refine g_icmp_ge hC 56 dX9_cancelHeldOf_9 rfl (by first | omega | exact cmpZ_in _ _ | exact bI_in _) (by first | omega | exact cmpZ_in _ _ | exact bI_in _) (fun c9 => ?_) (fun c9 => ?_)
  · refine gB hC _ _ _ _ _ _ _ qX9_cancelHeldOf_56 rfl ?_
    refine g_ireturn hC dX9_cancelHeldOf_57 hr ⟨?_, rfl, ?_, ?_⟩ gs_rfl ⟨Nat.le_of_ble_eq_true rfl, Nat.le_of_ble_eq_true rfl⟩
    · have e : t = (N 5).toNat := by omega
      rw [hmany, e]
    · have e : t = (N 5).toNat := by omega
      rw [← e]; exact hm1
    · exact ho1
  · refine gB hC _ _ _ _ _ _ _ qX9_cancelHeldOf_12 rfl ?_
    refine g_getr hC dX9_cancelHeldOf_13 fX9_11 hm.1.sT (by decide) rfl 0 rfl hm1.2.1.pR ?_
    refine gB hC _ _ _ _ _ _ _ qX9_cancelHeldOf_16 rfl ?_
    refine g_aald hC (j := 6) dX9_cancelHeldOf_17 hm.1.sR (by decide) (hm1.2.1.ps (by omega) (by omega)) (by omega) (by omega) (by decide) ?_
    refine g_getiv hC dX9_cancelHeldOf_18 fX9_56 (hm.1.ss (by omega) (by omega)) (by decide) rfl 9 rfl (hm1.st (by omega) (by omega)).f9 (fun i18 => ?_)
    refine gB hC _ _ _ _ _ _ _ qX9_cancelHeldOf_21 rfl ?_
    refine g_icmp_ne hC 50 dX9_cancelHeldOf_22 rfl (by first | omega | exact cmpZ_in _ _ | exact bI_in _) (by first | omega | exact cmpZ_in _ _ | exact bI_in _) (fun c22 => ?_) (fun c22 => ?_)
    · refine gB hC _ _ _ _ _ _ _ qX9_cancelHeldOf_50 rfl ?_
      refine ih (_, _, t + 1) _ ⟨?_, ?_, ?_, by show ((t + 1 : Nat) : Int) ≤ N 5; omega⟩ (by show (N 5 - ((t + 1 : Nat) : Int)).toNat < (N 5 - t).toNat; omega)
      · rw [lgS, if_neg (by omega)]; exact hm1
      · exact ho1
      · rw [lgS, if_neg (by omega)]; exact hmany
    · refine gB hC _ _ _ _ _ _ _ qX9_cancelHeldOf_25 rfl ?_
      refine g_getr hC dX9_cancelHeldOf_26 fX9_11 hm.1.sT (by decide) rfl 0 rfl hm1.2.1.pR ?_
      refine gB hC _ _ _ _ _ _ _ qX9_cancelHeldOf_29 rfl ?_
      refine g_aald hC (j := 6) dX9_cancelHeldOf_30 hm.1.sR (by decide) (hm1.2.1.ps (by omega) (by omega)) (by omega) (by omega) (by decide) ?_
      refine g_getiv hC dX9_cancelHeldOf_31 fX9_59 (hm.1.ss (by omega) (by omega)) (by decide) rfl 0 rfl (hm1.st (by omega) (by omega)).f0 (fun i31 => ?_)
      refine g_if_ne hC 50 dX9_cancelHeldOf_34 rfl (by first | omega | exact cmpZ_in _ _ | exact bI_in _) (fun c34 => ?_) (fun c34 => ?_)
      · refine gB hC _ _ _ _ _ _ _ qX9_cancelHeldOf_50 rfl ?_
        refine ih (_, _, t + 1) _ ⟨?_, ?_, ?_, by show ((t + 1 : Nat) : Int) ≤ N 5; omega⟩ (by show (N 5 - ((t + 1 : Nat) : Int)).toNat < (N 5 - t).toNat; omega)
        · rw [lgS, if_neg (by omega)]; exact hm1
        · exact ho1
        · rw [lgS, if_neg (by omega)]; exact hmany
      · refine gB hC _ _ _ _ _ _ _ qX9_cancelHeldOf_37 rfl ?_
        refine g_getr hC dX9_cancelHeldOf_38 fX9_11 hm.1.sT (by decide) rfl 0 rfl hm1.2.1.pR ?_
        refine gB hC _ _ _ _ _ _ _ qX9_cancelHeldOf_41 rfl ?_
        refine g_aald hC (j := 6) dX9_cancelHeldOf_42 hm.1.sR (by decide) (hm1.2.1.ps (by omega) (by omega)) (by omega) (by omega) (by decide) ?_
        refine gB hC _ _ _ _ _ _ _ qX9_cancelHeldOf_43 rfl ?_
        refine g_puti hC dX9_cancelHeldOf_44 fX9_59 (hm.1.ss (by omega) (by omega)) (by decide) rfl (fun _ h => by cases h; rfl) 0 rfl (by first | omega | exact cmpZ_in _ _ | exact bI_in _) (fun V44 e44 => ?_)
        refine gB hC _ _ _ _ _ _ _ qX9_cancelHeldOf_47 rfl ?_
        refine gB hC _ _ _ _ _ _ _ qX9_cancelHeldOf_50 rfl ?_
        refine ih (_, _, t + 1) _ ⟨?_, ?_, ?_, by show ((t + 1 : Nat) : Int) ≤ N 5; omega⟩ (by show (N 5 - ((t + 1 : Nat) : Int)).toNat < (N 5 - t).toNat; omega)
        · rw [lgS, if_pos ⟨c22, c34⟩]; exact RH_st hm1 hlg.1.szO (by omega) (by omega) e44
        · rw [e44]; exact ho1.up (by omega)
        · rw [lgS, if_pos ⟨c22, c34⟩, hmany]

theorem kX9_cancelHeldLate {E l Sh V z} {h9 t9 : Int} {N : gN0} (hm : RH h9 N Sh V) (hI0 : INV N) (h1 : t9 = N 0) : gM E l yX9_cancelHeldLate (.code yX9_cancelHeldLate cX9_cancelHeldLate 4 none) (rmk 0 0 0 0) [(2, h9 + 4), (0, t9)] Sh V z (gRe none (fun V' => RH h9 (odH N (N 5).toNat) Sh V' ∧ OUT h9 V V') Sh) := by
  refine gM_at (L0 := [(2, h9 + 4), (0, t9), (9, 0), (9, 0)]) rfl rfl rfl ?_
  intro p e s m args below meth c hC hr hex hnm hz
  have hI := hI0.1
  have hsc := hI.1
  unfold iScal at hsc
  refine gB hC _ _ _ _ _ _ _ qX9_cancelHeldLate_0 rfl ?_
  refine g_loop (fun x : gV × Nat × aV => RH h9 (odH N x.2.1) Sh x.1 ∧ OUT h9 V x.1 ∧ (x.2.1 : Int) ≤ N 5) (fun x => (N 5 - x.2.1).toNat) 2 (fun x => [(2, h9 + 4), (0, t9), (0, (x.2.1 : Int)), x.2.2]) (fun x => x.1) (V, 0, (9, 0)) ⟨hm, OUT.rfl' _ _, by show (0 : Int) ≤ N 5; omega⟩ ?_
  rintro ⟨V1, t, a3⟩ z ⟨hm1, ho1, ht⟩ ih
  dsimp only at hm1 ho1 ht ih ⊢
  have hlg := odH_inv hI0 t ht
  have hI1 := hlg.1.1
  have e5 : odH N t 5 = N 5 := hlg.2 5 (by omega)
  have e0 : odH N t 0 = N 0 := hlg.2 0 (by omega)
  refine gB hC _ _ _ _ _ _ _ qX9_cancelHeldLate_2 rfl ?_
  refine g_getiv hC dX9_cancelHeldLate_4 fX9_18 hm.1.sT (by decide) rfl 1 rfl hm1.tS (fun i4 => ?_)
  refine g_icmp_ge hC 51 dX9_cancelHeldLate_7 rfl (by first | omega | exact cmpZ_in _ _ | exact bI_in _) (by first | omega | exact cmpZ_in _ _ | exact bI_in _) (fun c7 => ?_) (fun c7 => ?_)
  · refine g_return hC dX9_cancelHeldLate_51 hr ⟨rfl, rfl, ?_, ?_⟩ gs_rfl ⟨Nat.le_of_ble_eq_true rfl, Nat.le_of_ble_eq_true rfl⟩
    · have e : t = (N 5).toNat := by omega
      rw [← e]; exact hm1
    · exact ho1
  · refine gB hC _ _ _ _ _ _ _ qX9_cancelHeldLate_10 rfl ?_
    refine g_getr hC dX9_cancelHeldLate_11 fX9_11 hm.1.sT (by decide) rfl 0 rfl hm1.2.1.pR ?_
    refine gB hC _ _ _ _ _ _ _ qX9_cancelHeldLate_14 rfl ?_
    refine g_aald hC (j := 6) dX9_cancelHeldLate_15 hm.1.sR (by decide) (hm1.2.1.ps (by omega) (by omega)) (by omega) (by omega) (by decide) ?_
    refine gB hC _ _ _ _ _ _ _ qX9_cancelHeldLate_16 rfl ?_
    refine g_getiv hC dX9_cancelHeldLate_18 fX9_59 (hm.1.ss (by omega) (by omega)) (by decide) rfl 0 rfl (hm1.st (by omega) (by omega)).f0 (fun i18 => ?_)
    refine g_if_ne hC 45 dX9_cancelHeldLate_21 rfl (by first | omega | exact cmpZ_in _ _ | exact bI_in _) (fun c21 => ?_) (fun c21 => ?_)
    · refine gB hC _ _ _ _ _ _ _ qX9_cancelHeldLate_45 rfl ?_
      refine ih (_, t + 1, _) _ ⟨?_, ?_, by show ((t + 1 : Nat) : Int) ≤ N 5; omega⟩ (by show (N 5 - ((t + 1 : Nat) : Int)).toNat < (N 5 - t).toNat; omega)
      · rw [odH, if_neg (by omega)]; exact hm1
      · exact ho1
    · refine gB hC _ _ _ _ _ _ _ qX9_cancelHeldLate_24 rfl ?_
      refine g_getiv hC dX9_cancelHeldLate_25 fX9_62 (hm.1.ss (by omega) (by omega)) (by decide) rfl 10 rfl (hm1.st (by omega) (by omega)).f10 (fun i25 => ?_)
      refine gB hC _ _ _ _ _ _ _ qX9_cancelHeldLate_28 rfl ?_
      refine g_icmp_lt hC 40 dX9_cancelHeldLate_29 rfl (by first | omega | exact cmpZ_in _ _ | exact bI_in _) (by first | omega | exact cmpZ_in _ _ | exact bI_in _) (fun c29 => ?_) (fun c29 => ?_)
      · refine gB hC _ _ _ _ _ _ _ qX9_cancelHeldLate_40 rfl ?_
        refine g_puti hC dX9_cancelHeldLate_42 fX9_59 (hm.1.ss (by omega) (by omega)) (by decide) rfl (fun _ h => by cases h; rfl) 0 rfl (by first | omega | exact cmpZ_in _ _ | exact bI_in _) (fun V42 e42 => ?_)
        refine gB hC _ _ _ _ _ _ _ qX9_cancelHeldLate_45 rfl ?_
        refine ih (_, t + 1, _) _ ⟨?_, ?_, by show ((t + 1 : Nat) : Int) ≤ N 5; omega⟩ (by show (N 5 - ((t + 1 : Nat) : Int)).toNat < (N 5 - t).toNat; omega)
        · rw [odH, if_pos ⟨by omega, by omega⟩]; exact RH_st hm1 hlg.1.szO (by omega) (by omega) e42
        · rw [e42]; exact ho1.up (by omega)
      · refine gB hC _ _ _ _ _ _ _ qX9_cancelHeldLate_32 rfl ?_
        refine g_getiv hC dX9_cancelHeldLate_33 fX9_41 (hm.1.ss (by omega) (by omega)) (by decide) rfl 2 rfl (hm1.st (by omega) (by omega)).f2 (fun i33 => ?_)
        refine gB hC _ _ _ _ _ _ _ qX9_cancelHeldLate_36 rfl ?_
        refine g_icmp_gt hC 45 dX9_cancelHeldLate_37 rfl (by first | omega | exact cmpZ_in _ _ | exact bI_in _) (by first | omega | exact cmpZ_in _ _ | exact bI_in _) (fun c37 => ?_) (fun c37 => ?_)
        · refine gB hC _ _ _ _ _ _ _ qX9_cancelHeldLate_45 rfl ?_
          refine ih (_, t + 1, _) _ ⟨?_, ?_, by show ((t + 1 : Nat) : Int) ≤ N 5; omega⟩ (by show (N 5 - ((t + 1 : Nat) : Int)).toNat < (N 5 - t).toNat; omega)
          · rw [odH, if_neg (by omega)]; exact hm1
          · exact ho1
        · refine gB hC _ _ _ _ _ _ _ qX9_cancelHeldLate_40 rfl ?_
          refine g_puti hC dX9_cancelHeldLate_42 fX9_59 (hm.1.ss (by omega) (by omega)) (by decide) rfl (fun _ h => by cases h; rfl) 0 rfl (by first | omega | exact cmpZ_in _ _ | exact bI_in _) (fun V42 e42 => ?_)
          refine gB hC _ _ _ _ _ _ _ qX9_cancelHeldLate_45 rfl ?_
          refine ih (_, t + 1, _) _ ⟨?_, ?_, by show ((t + 1 : Nat) : Int) ≤ N 5; omega⟩ (by show (N 5 - ((t + 1 : Nat) : Int)).toNat < (N 5 - t).toNat; omega)
          · rw [odH, if_pos ⟨by omega, by omega⟩]; exact RH_st hm1 hlg.1.szO (by omega) (by omega) e42
          · rw [e42]; exact ho1.up (by omega)

theorem kX9_latestComer {E l Sh V z} {h9 k9 d9 : Int} {N : gN0} (hm : RH h9 N Sh V) (hI : InvC N) (h1 : inI k9) (h2 : inI d9) : gM E l yX9_latestComer (.code yX9_latestComer cX9_latestComer 6 (some .int)) (rmk 1 0 0 40) [(2, h9 + 4), (0, k9), (0, d9)] Sh V z (gRi (snS N k9 d9 (N 5).toNat) Sh V) := by
  refine gM_at (L0 := [(2, h9 + 4), (0, k9), (0, d9), (9, 0), (9, 0), (9, 0)]) rfl rfl rfl ?_
  intro p e s m args below meth c hC hr hex hnm hz
  have hsc := hI.1
  unfold iScal at hsc
  have hsn := snS_in N k9 d9 (N 5).toNat
  refine gB hC _ _ _ _ _ _ _ qX9_latestComer_0 rfl ?_
  refine g_loop (fun x : Int × Nat × aV => x.1 = snS N k9 d9 x.2.1 ∧ (x.2.1 : Int) ≤ N 5) (fun x => (N 5 - x.2.1).toNat) 5 (fun x => [(2, h9 + 4), (0, k9), (0, d9), (0, x.1), (0, (x.2.1 : Int)), x.2.2]) (fun _ => V) (-1, 0, (9, 0)) ⟨rfl, by show (0 : Int) ≤ N 5; omega⟩ ?_
  rintro ⟨late, t, a5⟩ z ⟨hmany, ht⟩ ih
  dsimp only at hmany ht ih ⊢
  have hct := snS_in N k9 d9 t
  rw [← hmany] at hct
  refine gB hC _ _ _ _ _ _ _ qX9_latestComer_5 rfl ?_
  refine g_getiv hC dX9_latestComer_8 fX9_18 hm.1.sT (by decide) rfl 1 rfl hm.tS (fun i8 => ?_)
  refine g_icmp_ge hC 80 dX9_latestComer_11 rfl (by first | omega | exact cmpZ_in _ _ | exact bI_in _) (by first | omega | exact cmpZ_in _ _ | exact bI_in _) (fun c11 => ?_) (fun c11 => ?_)
  · refine gB hC _ _ _ _ _ _ _ qX9_latestComer_80 rfl ?_
    refine g_ireturn hC dX9_latestComer_81 hr ⟨?_, rfl, rfl, by omega⟩ gs_rfl ⟨Nat.le_of_ble_eq_true rfl, Nat.le_of_ble_eq_true rfl⟩
    have : t = (N 5).toNat := by omega
    subst this
    rw [hmany]
  · have hso := (hI.2.2.2.1 t (by omega) (by omega)).1
    refine gB hC _ _ _ _ _ _ _ qX9_latestComer_14 rfl ?_
    refine g_getr hC dX9_latestComer_15 fX9_11 hm.1.sT (by decide) rfl 0 rfl hm.2.1.pR ?_
    refine gB hC _ _ _ _ _ _ _ qX9_latestComer_18 rfl ?_
    refine g_aald hC (j := 6) dX9_latestComer_20 hm.1.sR (by decide) (hm.2.1.ps (by omega) (by omega)) (by omega) (by omega) (by decide) ?_
    refine gB hC _ _ _ _ _ _ _ qX9_latestComer_21 rfl ?_
    refine g_getiv hC dX9_latestComer_25 fX9_26 (hm.1.ss (by omega) (by omega)) (by decide) rfl 1 rfl (hm.st (by omega) (by omega)).f1 (fun i25 => ?_)
    refine gB hC _ _ _ _ _ _ _ qX9_latestComer_28 rfl ?_
    refine g_icmp_ne hC 74 dX9_latestComer_29 rfl (by first | omega | exact cmpZ_in _ _ | exact bI_in _) (by first | omega | exact cmpZ_in _ _ | exact bI_in _) (fun c29 => ?_) (fun c29 => ?_)
    · refine gB hC _ _ _ _ _ _ _ qX9_latestComer_74 rfl ?_
      refine ih (_, t + 1, _) _ ⟨?_, by show ((t + 1 : Nat) : Int) ≤ N 5; omega⟩ (by show (N 5 - ((t + 1 : Nat) : Int)).toNat < (N 5 - t).toNat; omega)
      first | (rw [snS, ← hmany, if_pos ⟨⟨by omega, by omega, by omega, by omega⟩, by omega⟩]; done) | (rw [snS, ← hmany, if_neg (by omega)])
    · refine gB hC _ _ _ _ _ _ _ qX9_latestComer_32 rfl ?_
      refine g_cV1 hC dX9_latestComer_34 mX9_29 vX8_isAlive (kX8_isAlive (hm.1.ss (by omega) (by omega)) (hm.st (by omega) (by omega))) rfl (hm.1.ss (by omega) (by omega)) (by decide) rfl (Nat.le_of_ble_eq_true rfl) (RR rfl rfl rfl rfl) (fun z => ?_)
      refine g_if_eq hC 74 dX9_latestComer_37 rfl (by first | omega | exact cmpZ_in _ _ | exact bI_in _) (fun c37 => ?_) (fun c37 => ?_)
      · have c37 := bI_0.mp c37
        refine gB hC _ _ _ _ _ _ _ qX9_latestComer_74 rfl ?_
        refine ih (_, t + 1, _) _ ⟨?_, by show ((t + 1 : Nat) : Int) ≤ N 5; omega⟩ (by show (N 5 - ((t + 1 : Nat) : Int)).toNat < (N 5 - t).toNat; omega)
        first | (rw [snS, ← hmany, if_pos ⟨⟨by omega, by omega, by omega, by omega⟩, by omega⟩]; done) | (rw [snS, ← hmany, if_neg (by omega)])
      · have c37 := bI_n0.mp c37
        refine gB hC _ _ _ _ _ _ _ qX9_latestComer_40 rfl ?_
        refine g_cV1 hC dX9_latestComer_43 mX9_33 vX8_hasNight (kX8_hasNight (hm.1.ss (by omega) (by omega)) (hm.st (by omega) (by omega)) (hI.2.2.2.1 _ (by omega) (by omega)) (by omega)) rfl (hm.1.ss (by omega) (by omega)) (by decide) rfl (Nat.le_of_ble_eq_true rfl) (RR rfl rfl rfl rfl) (fun z => ?_)
        refine g_if_eq hC 74 dX9_latestComer_46 rfl (by first | omega | exact cmpZ_in _ _ | exact bI_in _) (fun c46 => ?_) (fun c46 => ?_)
        · have c46 := bI_0.mp c46
          refine gB hC _ _ _ _ _ _ _ qX9_latestComer_74 rfl ?_
          refine ih (_, t + 1, _) _ ⟨?_, by show ((t + 1 : Nat) : Int) ≤ N 5; omega⟩ (by show (N 5 - ((t + 1 : Nat) : Int)).toNat < (N 5 - t).toNat; omega)
          first | (rw [snS, ← hmany, if_pos ⟨⟨by omega, by omega, by omega, by omega⟩, by omega⟩]; done) | (rw [snS, ← hmany, if_neg (by omega)])
        · have c46 := bI_n0.mp c46
          refine gB hC _ _ _ _ _ _ _ qX9_latestComer_49 rfl ?_
          refine g_icmp_eq hC 71 dX9_latestComer_51 rfl (by first | omega | exact cmpZ_in _ _ | exact bI_in _) (by first | omega | exact cmpZ_in _ _ | exact bI_in _) (fun c51 => ?_) (fun c51 => ?_)
          · refine gB hC _ _ _ _ _ _ _ qX9_latestComer_71 rfl ?_
            refine gB hC _ _ _ _ _ _ _ qX9_latestComer_74 rfl ?_
            refine ih (_, t + 1, _) _ ⟨?_, by show ((t + 1 : Nat) : Int) ≤ N 5; omega⟩ (by show (N 5 - ((t + 1 : Nat) : Int)).toNat < (N 5 - t).toNat; omega)
            first | (rw [snS, ← hmany, if_pos ⟨⟨by omega, by omega, by omega, by omega⟩, by omega⟩]; done) | (rw [snS, ← hmany, if_neg (by omega)])
          · refine gB hC _ _ _ _ _ _ _ qX9_latestComer_54 rfl ?_
            refine g_getiv hC dX9_latestComer_56 fX9_41 (hm.1.ss (by omega) (by omega)) (by decide) rfl 2 rfl (hm.st (by omega) (by omega)).f2 (fun i56 => ?_)
            refine gB hC _ _ _ _ _ _ _ qX9_latestComer_59 rfl ?_
            refine g_getr hC dX9_latestComer_60 fX9_11 hm.1.sT (by decide) rfl 0 rfl hm.2.1.pR ?_
            refine gB hC _ _ _ _ _ _ _ qX9_latestComer_63 rfl ?_
            refine g_aald hC (j := 6) dX9_latestComer_64 hm.1.sR (by decide) (hm.2.1.ps (by omega) (by omega)) (by omega) (by omega) (by decide) ?_
            refine g_getiv hC dX9_latestComer_65 fX9_41 (hm.1.ss (by omega) (by omega)) (by decide) rfl 2 rfl (hm.st (by omega) (by omega)).f2 (fun i65 => ?_)
            refine g_icmp_lt hC 74 dX9_latestComer_68 rfl (by first | omega | exact cmpZ_in _ _ | exact bI_in _) (by first | omega | exact cmpZ_in _ _ | exact bI_in _) (fun c68 => ?_) (fun c68 => ?_)
            · refine gB hC _ _ _ _ _ _ _ qX9_latestComer_74 rfl ?_
              refine ih (_, t + 1, _) _ ⟨?_, by show ((t + 1 : Nat) : Int) ≤ N 5; omega⟩ (by show (N 5 - ((t + 1 : Nat) : Int)).toNat < (N 5 - t).toNat; omega)
              first | (rw [snS, ← hmany, if_pos ⟨⟨by omega, by omega, by omega, by omega⟩, by omega⟩]; done) | (rw [snS, ← hmany, if_neg (by omega)])
            · refine gB hC _ _ _ _ _ _ _ qX9_latestComer_71 rfl ?_
              refine gB hC _ _ _ _ _ _ _ qX9_latestComer_74 rfl ?_
              refine ih (_, t + 1, _) _ ⟨?_, by show ((t + 1 : Nat) : Int) ≤ N 5; omega⟩ (by show (N 5 - ((t + 1 : Nat) : Int)).toNat < (N 5 - t).toNat; omega)
              first | (rw [snS, ← hmany, if_pos ⟨⟨by omega, by omega, by omega, by omega⟩, by omega⟩]; done) | (rw [snS, ← hmany, if_neg (by omega)])

theorem kX9_mixed {E l Sh V z} {h9 : Int} {N : gN0} (hm : RH h9 N Sh V) (hI : InvC N) : gM E l yX9_mixed (.code yX9_mixed cX9_mixed 4 (some .int)) (rmk 0 0 0 0) [(2, h9 + 4), (0, 17)] Sh V z (gRi (wI (ckZ N (N 5).toNat)) Sh V) := by
  refine gM_at (L0 := [(2, h9 + 4), (0, 17), (9, 0), (9, 0)]) rfl rfl rfl ?_
  intro p e s m args below meth c hC hr hex hnm hz
  have hsc := hI.1
  unfold iScal at hsc
  refine gB hC _ _ _ _ _ _ _ qX9_mixed_0 rfl ?_
  refine g_loop (fun x : Int × Nat => x.1 = ckZ N x.2 ∧ (x.2 : Int) ≤ N 5) (fun x => (N 5 - x.2).toNat) 4 (fun x => [(2, h9 + 4), (0, 17), (0, x.1), (0, (x.2 : Int))]) (fun _ => V) (17, 0) ⟨rfl, by show (0 : Int) ≤ N 5; omega⟩ ?_
  rintro ⟨sum, t⟩ z ⟨hmany, ht⟩ ih
  dsimp only at hmany ht ih ⊢
  refine gB hC _ _ _ _ _ _ _ qX9_mixed_4 rfl ?_
  refine g_getiv hC dX9_mixed_6 fX9_18 hm.1.sT (by decide) rfl 1 rfl hm.tS (fun i6 => ?_)
  refine g_icmp_ge hC 63 dX9_mixed_9 rfl (by first | omega | exact cmpZ_in _ _ | exact bI_in _) (by first | omega | exact cmpZ_in _ _ | exact bI_in _) (fun c9 => ?_) (fun c9 => ?_)
  · refine gB hC _ _ _ _ _ _ _ qX9_mixed_63 rfl ?_
    have e9 : t = (N 5).toNat := by omega
    subst e9
    rw [hmany]
    refine g_wrap1 ?_
    refine g_ireturn hC dX9_mixed_64 hr ⟨rfl, rfl, rfl, i32_in _⟩ gs_rfl ⟨Nat.le_of_ble_eq_true rfl, Nat.le_of_ble_eq_true rfl⟩
  · refine gB hC _ _ _ _ _ _ _ qX9_mixed_12 rfl ?_
    refine g_getr hC dX9_mixed_17 fX9_11 hm.1.sT (by decide) rfl 0 rfl hm.2.1.pR ?_
    refine gB hC _ _ _ _ _ _ _ qX9_mixed_20 rfl ?_
    refine g_aald hC (j := 6) dX9_mixed_21 hm.1.sR (by decide) (hm.2.1.ps (by omega) (by omega)) (by omega) (by omega) (by decide) ?_
    refine g_getiv hC dX9_mixed_22 fX9_59 (hm.1.ss (by omega) (by omega)) (by decide) rfl 0 rfl (hm.st (by omega) (by omega)).f0 (fun i22 => ?_)
    refine gB hC _ _ _ _ _ _ _ qX9_mixed_25 rfl ?_
    refine g_getr hC dX9_mixed_32 fX9_11 hm.1.sT (by decide) rfl 0 rfl hm.2.1.pR ?_
    refine gB hC _ _ _ _ _ _ _ qX9_mixed_35 rfl ?_
    refine g_aald hC (j := 6) dX9_mixed_36 hm.1.sR (by decide) (hm.2.1.ps (by omega) (by omega)) (by omega) (by omega) (by decide) ?_
    refine g_getiv hC dX9_mixed_37 fX9_75 (hm.1.ss (by omega) (by omega)) (by decide) rfl 7 rfl (hm.st (by omega) (by omega)).f7 (fun i37 => ?_)
    refine gB hC _ _ _ _ _ _ _ qX9_mixed_40 rfl ?_
    refine g_getr hC dX9_mixed_47 fX9_11 hm.1.sT (by decide) rfl 0 rfl hm.2.1.pR ?_
    refine gB hC _ _ _ _ _ _ _ qX9_mixed_50 rfl ?_
    refine g_aald hC (j := 6) dX9_mixed_51 hm.1.sR (by decide) (hm.2.1.ps (by omega) (by omega)) (by omega) (by omega) (by decide) ?_
    refine g_getiv hC dX9_mixed_52 fX9_78 (hm.1.ss (by omega) (by omega)) (by decide) rfl 3 rfl (hm.st (by omega) (by omega)).f3 (fun i52 => ?_)
    refine gB hC _ _ _ _ _ _ _ qX9_mixed_55 rfl ?_
    refine ih (_, t + 1) _ ⟨?_, by show ((t + 1 : Nat) : Int) ≤ N 5; omega⟩ (by show (N 5 - ((t + 1 : Nat) : Int)).toNat < (N 5 - t).toNat; omega)
    rw [hmany, ckZ]
    omega

