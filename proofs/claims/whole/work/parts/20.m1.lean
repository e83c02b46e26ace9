/-! the reference: its object at b, its rows at b + 1 .. b + 5 -/
def gMd (b : Int) (Sh : gSh) (V : gV) : Prop :=
  (Sh b = some (11, 0) ∧ Sh (b + 1) = some (100, 5022) ∧ Sh (b + 2) = some (100, 30132) ∧ Sh (b + 3) = some (100, 60) ∧ Sh (b + 4) = some (101, 30) ∧ Sh (b + 5) = some (101, 44)) ∧
  V b 0 = b + 1 ∧ V b 1 = b + 2 ∧ V b 4 = b + 3 ∧ V b 5 = b + 4 ∧ V b 6 = b + 5
abbrev RR {a b c d e f g h : Nat} (h1 : Nat.ble a b = true) (h2 : Nat.ble c d = true) (h3 : Nat.ble e f = true) (h4 : Nat.ble g h = true) : (a ≤ b ∧ c ≤ d) ∧ (e ≤ f ∧ g ≤ h) := ⟨⟨Nat.le_of_ble_eq_true h1, Nat.le_of_ble_eq_true h2⟩, Nat.le_of_ble_eq_true h3, Nat.le_of_ble_eq_true h4⟩
theorem kX12_in {E l Sh V z} {v lo hi : Int} (h1 : inI v) (h2 : inI lo) (h3 : inI hi) : gM E l yX12_in (.code yX12_in cX12_in 3 (some .boolean)) (rmk 0 0 0 0) [(0, v), (0, lo), (0, hi)] Sh V z (gR (some (0, bI (lo ≤ v ∧ v ≤ hi))) Sh V) := by
  refine gM_at (L0 := [(0, v), (0, lo), (0, hi)]) rfl rfl rfl ?_
  intro p e s m args below meth c hC hr hex hnm hz
  refine gB hC _ _ _ _ _ _ _ qX12_in_0 rfl ?_
  refine g_icmp_lt hC 14 dX12_in_2 rfl h1 h2 (fun c1 => ?_) (fun c1 => ?_)
  · refine gB hC _ _ _ _ _ _ _ qX12_in_14 rfl ?_
    refine g_zreturn hC dX12_in_15 hr (Or.inl rfl) ⟨?_, rfl, rfl⟩ gs_rfl ⟨Nat.le_refl _, Nat.le_refl _⟩
    rw [bI_f (by omega)]
  · refine gB hC _ _ _ _ _ _ _ qX12_in_5 rfl ?_
    refine g_icmp_gt hC 14 dX12_in_7 rfl h1 h3 (fun c2 => ?_) (fun c2 => ?_)
    · refine gB hC _ _ _ _ _ _ _ qX12_in_14 rfl ?_
      refine g_zreturn hC dX12_in_15 hr (Or.inl rfl) ⟨?_, rfl, rfl⟩ gs_rfl ⟨Nat.le_refl _, Nat.le_refl _⟩
      rw [bI_f (by omega)]
    · refine gB hC _ _ _ _ _ _ _ qX12_in_10 rfl ?_
      refine g_zreturn hC dX12_in_15 hr (Or.inr rfl) ⟨?_, rfl, rfl⟩ gs_rfl ⟨Nat.le_refl _, Nat.le_refl _⟩
      rw [bI_t (by omega)]
theorem kX12_of {E l Sh V z} {b s0 w : Int} (hm : gMd b Sh V) (h0 : 0 ≤ 56 + s0 * 24 + w) (h1 : 56 + s0 * 24 + w < 5022) : gM E l yX12_of (.code yX12_of cX12_of 3 (some .int)) (rmk 0 0 0 0) [(2, b), (0, s0), (0, w)] Sh V z (gR (some (0, V (b + 1) (56 + s0 * 24 + w))) Sh V) := by
  refine gM_at (L0 := [(2, b), (0, s0), (0, w)]) rfl rfl rfl ?_
  intro p e s m args below meth c hC hr hex hnm hz
  refine gB hC _ _ _ _ _ _ _ qX12_of_0 rfl ?_
  refine g_getr hC dX12_of_1 fX12_9 hm.1.1 (by decide) rfl hm.2.1 ?_
  refine gB hC _ _ _ _ _ _ _ qX12_of_4 rfl ?_
  refine g_iaload hC dX12_of_13 hm.1.2.1 h0 h1 (by decide) (fun i1 => ?_)
  exact g_ireturn hC dX12_of_14 hr ⟨rfl, rfl, rfl⟩ gs_rfl ⟨Nat.le_refl _, Nat.le_refl _⟩
theorem kX12_isAlive {E l Sh V z} {b s0 : Int} (hm : gMd b Sh V) (h0 : 0 ≤ s0) (h1 : s0 < 60) : gM E l yX12_isAlive (.code yX12_isAlive cX12_isAlive 2 (some .boolean)) (rmk 1 0 0 22) [(2, b), (0, s0)] Sh V z (gR (some (0, bI (V (b + 1) (56 + s0 * 24) = 0 ∨ V (b + 1) (56 + s0 * 24) = 1))) Sh V) := by
  refine gM_at (L0 := [(2, b), (0, s0)]) rfl rfl rfl ?_
  intro p e s m args below meth c hC hr hex hnm hz
  refine g_rng hm.1.2.1 (fun hN => ?_)
  have hi := hN (56 + s0 * 24 + 0) (by omega) (by omega)
  have e0 : 56 + s0 * 24 + 0 = 56 + s0 * 24 := by omega
  rw [e0] at hi
  refine gB hC _ _ _ _ _ _ _ qX12_isAlive_0 rfl ?_
  refine g_cV1 hC dX12_isAlive_3 mX12_43 vX12_of (kX12_of hm (by omega) (by omega)) rfl hm.1.1 (by decide) rfl (by decide) (RR rfl rfl rfl rfl) (fun z => ?_)
  rw [e0]
  refine g_if_eq hC 19 dX12_isAlive_6 rfl hi (fun c1 => ?_) (fun c1 => ?_)
  · refine gB hC _ _ _ _ _ _ _ qX12_isAlive_19 rfl ?_
    refine g_zreturn hC dX12_isAlive_24 hr (Or.inr rfl) ⟨?_, rfl, rfl⟩ gs_rfl ⟨Nat.le_refl _, Nat.le_refl _⟩
    rw [bI_t (by omega)]
  · refine gB hC _ _ _ _ _ _ _ qX12_isAlive_9 rfl ?_
    refine g_cV1 hC dX12_isAlive_12 mX12_43 vX12_of (kX12_of hm (by omega) (by omega)) rfl hm.1.1 (by decide) rfl (by decide) (RR rfl rfl rfl rfl) (fun z => ?_)
    rw [e0]
    refine gB hC _ _ _ _ _ _ _ qX12_isAlive_15 rfl ?_
    refine g_icmp_ne hC 23 dX12_isAlive_16 rfl hi (by decide) (fun c2 => ?_) (fun c2 => ?_)
    · refine gB hC _ _ _ _ _ _ _ qX12_isAlive_23 rfl ?_
      refine g_zreturn hC dX12_isAlive_24 hr (Or.inl rfl) ⟨?_, rfl, rfl⟩ gs_rfl ⟨Nat.le_refl _, Nat.le_refl _⟩
      rw [bI_f (by omega)]
    · refine gB hC _ _ _ _ _ _ _ qX12_isAlive_19 rfl ?_
      refine g_zreturn hC dX12_isAlive_24 hr (Or.inr rfl) ⟨?_, rfl, rfl⟩ gs_rfl ⟨Nat.le_refl _, Nat.le_refl _⟩
      rw [bI_t (by omega)]
