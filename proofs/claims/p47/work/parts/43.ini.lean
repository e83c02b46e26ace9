/-! the state at first is as it should be -/
theorem iniN_lo : iniN 0 = 8822 ∧ iniN 1 = 2 ∧ iniN 2 = 0 ∧ iniN 3 = 0 ∧ iniN 4 = 0 ∧ iniN 5 = 0 ∧ iniN 6 = 0 ∧ iniN 7 = 0 ∧ iniN 31 = 3 ∧ iniN 32 = 10000 ∧ iniN 33 = 0 ∧ iniN 34 = 1 ∧ iniN 35 = 25000 ∧ iniN 36 = 0 := by
  refine ⟨rfl, rfl, rfl, rfl, rfl, rfl, rfl, rfl, rfl, rfl, rfl, rfl, rfl, rfl⟩
theorem iniN_z {j : Int} (h : 36 ≤ j ∨ (2 ≤ j ∧ j ≤ 30)) : iniN j = 0 := by
  unfold iniN
  rw [upN_ne (by omega), upN_ne (by omega), upN_ne (by omega), upN_ne (by omega), upN_ne (by omega), upN_ne (by omega)]
theorem iniN_inv : INV iniN ∧ KZ iniN := by
  obtain ⟨a0, a1, a2, a3, a4, a5, a6, a7, b1, b2, b3, b4, b5, b6⟩ := iniN_lo
  have hz := fun j (h : 36 ≤ j ∨ (2 ≤ j ∧ j ≤ 30)) => iniN_z h
  generalize iniN = M at *
  refine ⟨⟨⟨?_, ?_, ?_, ?_, ?_⟩, ?_, ?_⟩, ?_⟩
  · unfold iScal; omega
  · intro k k0 k1
    have : k = 0 ∨ k = 1 := by omega
    unfold kOk kF
    rcases this with rfl | rfl
    · show 1 ≤ M 31 ∧ M 31 ≤ 6 ∧ 100 ≤ M 32 ∧ M 32 ≤ 100000 ∧ 0 ≤ M 33 ∧ M 33 ≤ 3; omega
    · show 1 ≤ M 34 ∧ M 34 ≤ 6 ∧ 100 ≤ M 35 ∧ M 35 ≤ 100000 ∧ 0 ≤ M 36 ∧ M 36 ≤ 3; omega
  · intro i i0 i1; omega
  · intro s s0 s1; omega
  · intro g g0 g1; omega
  · have hp : Phi M = 0 := by unfold Phi; rw [a5]; rfl
    unfold bOk
    rw [hp, hz 9 (by decide), hz 10 (by decide), hz 11 (by decide), hz 12 (by decide)]
    omega
  · unfold oOk
    rw [hz 13 (by decide), hz 14 (by decide), hz 15 (by decide), hz 16 (by decide), hz 17 (by decide), hz 18 (by decide), hz 19 (by decide), hz 20 (by decide), hz 21 (by decide), hz 22 (by decide), hz 23 (by decide), hz 24 (by decide), hz 25 (by decide), hz 26 (by decide), hz 27 (by decide), hz 28 (by decide), hz 29 (by decide), hz 30 (by decide)]
    omega
  · intro k k0 k1
    exact ⟨hz _ (by omega), fun w _ _ => hz _ (by omega)⟩
/-! kinds that aren't there: kept -/
theorem KZ_lo {N M : gN0} (h : KZ N) (e1 : M 1 = N 1) (h1 : 0 ≤ N 1) (e : ∀ j, (31 ≤ j ∧ j < 40) ∨ 1596 ≤ j → M j = N j) : KZ M :=
  KZ_of h e1 h1 (fun k a c => e _ (by omega)) (fun k w a c p q => e _ (by omega))
theorem KZ_lk {N : gN0} (h : KZ N) (hI : INV N) : KZ (lk N).1 := by
  have hs := hI.1.1
  unfold iScal at hs
  exact KZ_lo h (lk_lo hI (by decide) (by decide) (by decide)) (by omega) (fun j hj => lk_lo hI (by omega) (by omega) (by omega))
theorem KZ_mk {N : gN0} {k first nights adults children till group : Int} (h : KZ N) (hI : INV N) (ho : mkOk N k first nights adults children till group) : KZ (mkN N k first nights adults children till group) := by
  have hs := hI.1.1
  unfold iScal at hs
  unfold mkOk at ho
  have old : ∀ j, j ≠ 5 → (j < 56 + 24 * N 5 ∨ 1496 ≤ j) → mkN N k first nights adults children till group j = N j := fun j a c => mkN_old (by omega) (by omega) (by omega) a c
  exact KZ_lo h (old 1 (by decide) (by omega)) (by omega) (fun j hj => old j (by omega) (by omega))
theorem KZ_T {N M : gN0} {s : Int} (h : KZ N) (hI : INV N) (ha : AgT N M s) (h0 : 0 ≤ s) (h1 : s < 60) : KZ M := by
  have hs := hI.1.1
  unfold iScal at hs
  exact KZ_lo h (ha.lo h0 (by decide)) (by omega) (fun j hj => ha j (by omega) (by omega))
theorem KZ_cl {N : gN0} {k d cl : Int} (h : KZ N) (hI : INV N) (h0 : 0 ≤ k) (h1 : k < N 1) (hd : 0 ≤ d ∧ d ≤ 36524) : KZ (clN N k d cl) := by
  have hs := hI.1.1
  unfold iScal at hs
  exact KZ_of h (upN_ne (by omega)) (by omega) (fun k' a c => upN_ne (by omega)) (fun k' w a c p q => upN_ne (by omega))
theorem KZ_x {N : gN0} {k x : Int} (h : KZ N) (hI : INV N) (h0 : 0 ≤ k) (h1 : k < N 1) : KZ (upN N (31 + k * 3 + 2) x) := by
  have hs := hI.1.1
  unfold iScal at hs
  exact KZ_of h (upN_ne (by omega)) (by omega) (fun k' a c => upN_ne (by omega)) (fun k' w a c p q => upN_ne (by omega))
theorem KZ_K {N M : gN0} (h : KZ N) (hI : INV N) (ha : AgK N M) : KZ M := by
  have hs := hI.1.1
  unfold iScal at hs
  exact KZ_lo h (ha 1 (by decide)) (by omega) (fun j hj => ha j (by omega))
theorem KZ_od {N : gN0} (h : KZ N) (hI : INV N) (ht : N 0 + 1 ≤ 36524) : KZ (odN N) := by
  have ha := od_all hI ht
  have hs := hI.1.1
  unfold iScal at hs
  have h0 : KZ (od0 N) := KZ_lo h (upN_ne (by decide)) (by omega) (fun j hj => upN_ne (by omega))
  exact KZ_lk (KZ_K h0 ha.1 ha.2.2.2.1.2) ha.2.2.2.1.1
theorem KZ_ps {N : gN0} (h : KZ N) (hI : INV N) : ∀ n : Nat, N 0 + n ≤ 36524 → KZ (psT N n) := by
  intro n
  induction n with
  | zero => intro _; exact h
  | succ n ih =>
    intro hn
    have hp := psT_inv hI n (by omega)
    exact KZ_od (ih (by omega)) hp.1 (by rw [hp.2]; omega)

