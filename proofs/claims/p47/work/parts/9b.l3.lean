/-! the law: those who wait (rows laid by wip/p47/l3.py) -/
section GKN
variable {E : gE} {own : String} {cc : ByteArray} {nL : Nat} {p : Program} {l : Launch} {e : Env} {R : Room} {s : State} {m : MethodId} {args : Array Value} {below : List Frame} {meth : Method} {c : Code} {Q : State → Prop} {pc : Nat} {L st : List aV} {Sh : gSh} {V : gV} {z : Int} {k n : Nat}
/-- the room counted up -/
theorem g_kn9 {k1 n1 : Nat} (h1 : k ≤ k1) (h2 : n ≤ n1) (kk : gG E nL p l e R s m args below meth c Q pc L st Sh V z k1 n1) : gG E nL p l e R s m args below meth c Q pc L st Sh V z k n :=
  fun H locs ls a1 a2 a3 a4 a5 => W.widen h1 h2 (kk H locs ls a1 a2 a3 a4 a5)
end GKN
theorem m88_lt {N : gN0} {k f n : Int} (hf : 8822 ≤ f) (h : m88 (rfd N k f n) < 0) : rfd N k f n = -1 := by
  have hr : rfd N k f n = -1 ∨ f ≤ rfd N k f n := by
    unfold rfd
    rcases rfsT_in N k n.toNat f with h1 | h1
    · have h1 : rfs N k f n = -1 := h1
      rw [if_neg (by omega)]
      split
      · exact Or.inr (Int.le_refl _)
      · exact Or.inl rfl
    · have h1 : f ≤ rfs N k f n ∧ _ := h1
      rw [if_pos (by omega)]
      exact Or.inr h1.1
  unfold m88 at h
  split at h
  · assumption
  · omega
abbrev RSL {a b c d e f g h : Nat} (h1 : Nat.ble a b = true) (h2 : Nat.ble c d = true) (h3 : e ≤ f) (h4 : g ≤ h) : (a ≤ b ∧ c ≤ d) ∧ (e ≤ f ∧ g ≤ h) := ⟨⟨Nat.le_of_ble_eq_true h1, Nat.le_of_ble_eq_true h2⟩, h3, h4⟩

/-- those who wait have no night behind the hundredth -/
def GB (N : gN0) : Prop := ∀ g, 0 ≤ g → g < N 7 → gF N g 1 + gF N g 2 ≤ 8922
def lkI (q w : Int) (Sh : gSh) (V : gV) (N M : gN0) (V1 : gV) (kept : Int) (gg m : Nat) : Prop :=
  (LB q w M Sh V1 ∧ INV M ∧ OUQ q w V V1 ∧ V1 q 20 = N 7 ∧ lkS m M kept gg = lk N) ∧ ((m : Int) = M 7 - kept ∧ 0 ≤ kept ∧ kept + m ≤ N 7 ∧ gg + m ≤ 20 ∧ N 7 ≤ 20 ∧ M 2 ≤ 1 ∧ GB M ∧ M 1 = 2) ∧
  (∀ i, 0 ≤ i → i < kept → gsL (V1 (w + 130) i) i M V1) ∧ ∀ j, 0 ≤ j → j < (m : Int) → gsL (V1 (w + 130) (N 7 - m + j)) (kept + j) M V1
section LKI
variable {q w : Int} {Sh : gSh} {V V1 V2 V3 : gV} {N M : gN0} {kept : Int} {gg m : Nat}
theorem shG_lo {a j : Int} (h0 : 0 ≤ a) (h : j ≠ 7) (hj : j < 1496 + a * 5 ∨ 1596 ≤ j) (h7 : M 7 ≤ 20) : shG M (1496 + a * 5) j = M j := by
  unfold shG
  rw [if_neg h, if_neg (by omega)]
theorem shG_f {a g j : Int} (h0 : 0 ≤ a) (ha : a ≤ g) (hg : g < M 7 - 1) (j0 : 0 ≤ j) (j1 : j < 5) : gF (shG M (1496 + a * 5)) g j = gF M (g + 1) j := by
  show shG M (1496 + a * 5) (1496 + g * 5 + j) = M (1496 + (g + 1) * 5 + j)
  unfold shG
  rw [if_neg (by omega), if_pos (by omega)]
  congr 1
  omega
theorem LB_shG {a : Int} (hI : INV M) (h0 : 0 ≤ a) (h7 : M 7 ≤ 20) (H : LB q w M Sh V1) : LB q w (shG M (1496 + a * 5)) Sh V1 := by
  have hsc := hI.1.1
  unfold iScal at hsc
  have hs3 := fun s s0 s1 => (hI.1.2.2.2.1 s s0 s1).1
  refine LB_N (by omega) H (fun j j0 j1 j7 => shG_lo h0 j7 (by omega) h7) (fun j hj => shG_lo h0 (by omega) (by omega) h7) (fun s j s0 s1 j0 j1 => ?_) (fun s s0 s1 => by have := hs3 s s0 s1; omega)
  have := hs3 s s0 s1
  exact shG_lo h0 (by omega) (by omega) h7
theorem GB_sh {a : Int} (h0 : 0 ≤ a) (ha : a < M 7) (h7 : M 7 ≤ 20) (H : GB M) : GB (shG M (1496 + a * 5)) := fun g g0 g1 => by
  rw [shG_7] at g1
  by_cases hg : g < a
  · have e : ∀ j, 0 ≤ j → j < 5 → gF (shG M (1496 + a * 5)) g j = gF M g j := fun j j0 j1 => shG_lo h0 (by omega) (by omega) h7
    rw [e 1 (by decide) (by decide), e 2 (by decide) (by decide)]
    exact H g g0 (by omega)
  · rw [shG_f h0 (by omega) (by omega) (by decide) (by decide), shG_f h0 (by omega) (by omega) (by decide) (by decide)]
    exact H (g + 1) (by omega) (by omega)
theorem lkS_late (h : lkI q w Sh V N M V1 kept gg (m + 1)) (hl : M (1496 + kept * 5 + 1) < M 0) : lkI q w Sh V N (shG M (1496 + kept * 5)) V1 kept gg m := by
  obtain ⟨⟨a1, a2, a3, a4, a5⟩, ⟨b1, b2, b3, b4, b5, b6, b7, b8⟩, c, d⟩ := h
  have hk : kept < M 7 := by omega
  have h7 : M 7 ≤ 20 := by have := a2.1.1; unfold iScal at this; omega
  rw [lkS, if_pos hk, if_pos hl] at a5
  refine ⟨⟨LB_shG a2 b2 h7 a1, INV_sh a2 b2 hk, a3, a4, a5⟩, ⟨by rw [shG_7]; omega, b2, by omega, by omega, b5, by rw [shG_lo b2 (by decide) (by omega) h7]; exact b6, GB_sh b2 hk h7 b7, by rw [shG_lo b2 (by decide) (by omega) h7]; exact b8⟩, fun i i0 i1 => ?_, fun j j0 j1 => ?_⟩
  · exact gsL_ag (fun x x0 x1 => shG_lo b2 (by omega) (by omega) h7) rfl (c i i0 i1)
  · have e := d (j + 1) (by omega) (by omega)
    rw [show N 7 - ((m + 1 : Nat) : Int) + (j + 1) = N 7 - (m : Int) + j by omega] at e
    obtain ⟨e0, e1, e2, e3, e4⟩ := e
    have ef : ∀ x, 0 ≤ x → x < 5 → gF (shG M (1496 + kept * 5)) (kept + j) x = gF M (kept + (j + 1)) x := fun x x0 x1 => by rw [shG_f b2 (by omega) (by omega) x0 x1]; congr 1; omega
    exact ⟨by rw [ef 0 (by decide) (by decide)]; exact e0, by rw [ef 1 (by decide) (by decide)]; exact e1, by rw [ef 2 (by decide) (by decide)]; exact e2, by rw [ef 3 (by decide) (by decide)]; exact e3, by rw [ef 4 (by decide) (by decide)]; exact e4⟩
theorem lkS_get (h : lkI q w Sh V N M V1 kept gg (m + 1)) (hl : ¬ M (1496 + kept * 5 + 1) < M 0) (h5 : M 5 < 60) (hr : rfd M (M (1496 + kept * 5)) (M (1496 + kept * 5 + 1)) (M (1496 + kept * 5 + 2)) = -1)
    (e1 : LB q w (mkN M (M (1496 + kept * 5)) (M (1496 + kept * 5 + 1)) (M (1496 + kept * 5 + 2)) (M (1496 + kept * 5 + 3)) (M (1496 + kept * 5 + 4)) (M (1496 + kept * 5 + 1)) (-1)) Sh V2) (e2 : OUQ q w V1 V2) (e3 : ∀ a sh, Sh a = some sh → w + 130 ≤ a → V2 a = V1 a) (e4 : V2 q 20 = V1 q 20) :
    lkI q w Sh V N (shG (mkN M (M (1496 + kept * 5)) (M (1496 + kept * 5 + 1)) (M (1496 + kept * 5 + 2)) (M (1496 + kept * 5 + 3)) (M (1496 + kept * 5 + 4)) (M (1496 + kept * 5 + 1)) (-1)) (1496 + kept * 5)) V2 kept (gg + 1) m := by
  obtain ⟨⟨a1, a2, a3, a4, a5⟩, ⟨b1, b2, b3, b4, b5, b6, b7, b8⟩, c, d⟩ := h
  have hk : kept < M 7 := by omega
  have hsc := a2.1.1
  unfold iScal at hsc
  have hg := a2.1.2.2.2.2 kept b2 hk
  unfold gOk gF at hg
  rw [Int.add_zero] at hg
  rw [lkS, if_pos hk, if_neg hl, if_pos ⟨h5, hr⟩] at a5
  have ho : mkOk M (M (1496 + kept * 5)) (M (1496 + kept * 5 + 1)) (M (1496 + kept * 5 + 2)) (M (1496 + kept * 5 + 3)) (M (1496 + kept * 5 + 4)) (M (1496 + kept * 5 + 1)) (-1) := by unfold mkOk; omega
  have hh := rfd_had (N := M) hr (by omega) (by omega)
  have hI2 := INV_mk a2 ho hh.1
  generalize hM2 : mkN M (M (1496 + kept * 5)) (M (1496 + kept * 5 + 1)) (M (1496 + kept * 5 + 2)) (M (1496 + kept * 5 + 3)) (M (1496 + kept * 5 + 4)) (M (1496 + kept * 5 + 1)) (-1) = M2 at a5 e1 hI2 ⊢
  have hm : ∀ j, j ≠ 5 → (j < 56 ∨ 1496 ≤ j) → M2 j = M j := fun j j5 hj => by rw [← hM2]; exact mkN_old (by omega) (by omega) (by omega) j5 (by omega)
  have h7 : M2 7 = M 7 := hm 7 (by decide) (by omega)
  have hB : GB M2 := fun g g0 g1 => by
    rw [h7] at g1
    have f1 : gF M2 g 1 = gF M g 1 := hm _ (by omega) (by omega)
    have f2 : gF M2 g 2 = gF M g 2 := hm _ (by omega) (by omega)
    rw [f1, f2]
    exact b7 g g0 g1
  have e130 : V2 (w + 130) = V1 (w + 130) := e3 _ _ a1.sgO (Int.le_refl _)
  have egp : ∀ i, 0 ≤ i → i < 20 → V2 (V1 (w + 130) i) = V1 (V1 (w + 130) i) := fun i i0 i1 => by
    have hp := a1.gp i0 i1
    exact e3 _ _ hp.1 (by rcases hp.2 with h | h <;> omega)
  refine ⟨⟨LB_shG hI2 b2 (by omega) e1, INV_sh hI2 b2 (by omega), a3.tr e2, e4.trans a4, by rw [show ((gg + 1 : Nat) : Int) = (gg : Int) + 1 by omega]; exact a5⟩, ⟨by rw [shG_7, h7]; omega, b2, by omega, by omega, b5, by rw [shG_lo b2 (by decide) (by omega) (by omega), hm 2 (by decide) (by omega)]; exact b6, GB_sh b2 (by omega) (by omega) hB, by rw [shG_lo b2 (by decide) (by omega) (by omega), hm 1 (by decide) (by omega)]; exact b8⟩, fun i i0 i1 => ?_, fun j j0 j1 => ?_⟩
  · rw [e130]
    exact gsL_ag (fun x x0 x1 => (shG_lo b2 (by omega) (by omega) (by omega)).trans (hm _ (by omega) (by omega))) (egp i i0 (by omega)) (c i i0 i1)
  · have e := d (j + 1) (by omega) (by omega)
    rw [show N 7 - ((m + 1 : Nat) : Int) + (j + 1) = N 7 - (m : Int) + j by omega] at e
    obtain ⟨f0, f1, f2, f3, f4⟩ := e
    have ef : ∀ x, 0 ≤ x → x < 5 → gF (shG M2 (1496 + kept * 5)) (kept + j) x = gF M (kept + (j + 1)) x := fun x x0 x1 => by
      rw [shG_f b2 (by omega) (by omega) x0 x1, show kept + j + 1 = kept + (j + 1) by omega]
      exact hm _ (by omega) (by omega)
    rw [e130]
    have eg := egp (N 7 - (m : Int) + j) (by omega) (by omega)
    exact ⟨by rw [eg, ef 0 (by decide) (by decide)]; exact f0, by rw [eg, ef 1 (by decide) (by decide)]; exact f1, by rw [eg, ef 2 (by decide) (by decide)]; exact f2, by rw [eg, ef 3 (by decide) (by decide)]; exact f3, by rw [eg, ef 4 (by decide) (by decide)]; exact f4⟩
theorem LB_g {i p : Int} (h60 : M 5 ≤ 60) (H : LB q w M Sh V1) (hp : gpOk w Sh p) (e : V2 = up V1 (w + 130) i p) : LB q w M Sh V2 := by
  have hqw := H.a0
  have eo : ∀ a, a ≠ w + 130 → V2 a = V1 a := fun a ha => by rw [e]; exact up_row _ _ _ ha
  obtain ⟨a1, a2, a3, a4, a5, a6, a7, a8, a9, a10⟩ := H
  have eq' : V2 q = V1 q := eo q (by omega)
  refine ⟨a1, a2, llP_ag (by rw [eq']; exact ⟨rfl, rfl, rfl, rfl, rfl, rfl, rfl, rfl, rfl, rfl, rfl, rfl⟩) (eo _ (by omega)) (eo _ (by omega)) (eo _ (by omega)) a3, llD_ag (eo _ (by omega)) (eo _ (by omega)) a4, fun j j0 j1 => ?_, by unfold llV at *; rw [eq']; exact a6, by unfold llE at *; rw [eq']; exact a7, llK_ag (fun _ _ => rfl) (fun a h1 h2 _ => eo a (by omega)) a8, llB_ag (fun _ _ _ => rfl) (eo _ (by omega)) a9, fun s s0 s1 => ?_⟩
  · by_cases h : j = i
    · subst h; rw [e, up_eq]; exact hp
    · rw [e, up_ne _ _ (Or.inr h)]; exact a5 j j0 j1
  · obtain ⟨b1, b2⟩ := a10 s s0 s1
    exact ⟨by unfold stL at *; rw [eo _ (by omega)]; exact b1, fun n n0 n1 => by rw [eo _ (by omega)]; exact b2 n n0 n1⟩
theorem lkS_keep {g : Int} (h : lkI q w Sh V N M V1 kept gg (m + 1)) (hl : ¬ M (1496 + kept * 5 + 1) < M 0) (hn : ¬ (M 5 < 60 ∧ rfd M (M (1496 + kept * 5)) (M (1496 + kept * 5 + 1)) (M (1496 + kept * 5 + 2)) = -1)) (hg : g = N 7 - ((m + 1 : Nat) : Int))
    (e1 : V2 = up V1 (w + 130) kept (V1 (w + 130) g)) (e2 : V3 = up V2 (w + 130) g (V1 (w + 130) kept)) : lkI q w Sh V N M V3 (kept + 1) gg m := by
  obtain ⟨⟨a1, a2, a3, a4, a5⟩, ⟨b1, b2, b3, b4, b5, b6, b7, b8⟩, c, d⟩ := h
  have hqw := a1.a0
  have hk : kept < M 7 := by omega
  have hsc := a2.1.1
  unfold iScal at hsc
  rw [lkS, if_pos hk, if_neg hl, if_neg hn] at a5
  have hL2 := LB_g (by omega) a1 (a1.gp (i := g) (by omega) (by omega)) e1
  have hL3 := LB_g (by omega) hL2 (a1.gp (i := kept) (by omega) (by omega)) e2
  have eo : ∀ a, a ≠ w + 130 → V3 a = V1 a := fun a ha => by rw [e2, up_row _ _ _ ha, e1, up_row _ _ _ ha]
  have egp : ∀ i, 0 ≤ i → i < 20 → V3 (V1 (w + 130) i) = V1 (V1 (w + 130) i) := fun i i0 i1 => by
    have hp := (a1.gp i0 i1).2
    exact eo _ (by rcases hp with h | h <;> omega)
  have v1 : V3 (w + 130) kept = V1 (w + 130) g := by
    by_cases hkg : kept = g
    · rw [hkg] at e1 e2 ⊢
      rw [e2, up_eq]
    · rw [e2, up_ne _ _ (Or.inr hkg), e1, up_eq]
  have v2 : ∀ i, i ≠ kept → i ≠ g → V3 (w + 130) i = V1 (w + 130) i := fun i i1 i2 => by rw [e2, up_ne _ _ (Or.inr i2), e1, up_ne _ _ (Or.inr i1)]
  refine ⟨⟨hL3, a2, fun a a0 a9 => (eo a (by omega)).trans (a3 a a0 a9), by rw [eo q (by omega)]; exact a4, a5⟩, ⟨by omega, by omega, by omega, by omega, b5, b6, b7, b8⟩, fun i i0 i1 => ?_, fun j j0 j1 => ?_⟩
  · by_cases hik : i = kept
    · have e := d 0 (Int.le_refl _) (by omega)
      rw [Int.add_zero, Int.add_zero, ← hg] at e
      rw [hik, v1]
      exact gsL_ag (fun _ _ _ => rfl) (egp g (by omega) (by omega)) e
    · rw [v2 i hik (by omega)]
      exact gsL_ag (fun _ _ _ => rfl) (egp i i0 (by omega)) (c i i0 (by omega))
  · have e := d (j + 1) (by omega) (by omega)
    rw [show N 7 - ((m + 1 : Nat) : Int) + (j + 1) = N 7 - (m : Int) + j by omega, show kept + (j + 1) = kept + 1 + j by omega] at e
    rw [v2 _ (by omega) (by omega)]
    exact gsL_ag (fun _ _ _ => rfl) (egp _ (by omega) (by omega)) e
end LKI

theorem kL_looks {E l Sh V z} {q w : Int} {N : gN0} (hL : LB q w N Sh V) (hW : LW q w N V) (hI0 : INV N) (h9 : N 2 ≤ 1) (hGB : GB N) (h10 : N 1 = 2) : gM E l yL_looks (.code yL_looks cL_looks 9 (some .int)) (rmk 6 20 200 300) [(2, q)] Sh V z (gRe (some (0, (lk N).2)) (fun V' => LB q w (lk N).1 Sh V' ∧ LW q w (lk N).1 V' ∧ OUQ q w V V') Sh) := by
  refine gM_at (L0 := [(2, q), (9, 0), (9, 0), (9, 0), (9, 0), (9, 0), (9, 0), (9, 0), (9, 0)]) rfl rfl rfl ?_
  intro p e s m args below meth c hC hr hex hnm hz
  have hI := hI0.1
  have hsc := hI.1
  unfold iScal at hsc
  have hqw := hL.a0
  refine gB hC _ _ _ _ _ _ _ qL_looks_0 rfl ?_
  refine g_getiv hC dL_looks_5 fL_111 hL.sL (by decide) rfl 20 rfl hW.v20 (fun i5 => ?_)
  refine gB hC _ _ _ _ _ _ _ qL_looks_8 rfl ?_
  have hJJ : lkI q w Sh V N N V 0 0 (N 7).toNat := ⟨⟨hL, hI0, OUQ.rfl' _ _ _, hW.1, rfl⟩, ⟨by omega, Int.le_refl _, by omega, by omega, by omega, h9, hGB, h10⟩, fun i i0 i1 => absurd i1 (by omega), fun j j0 j1 => by rw [show N 7 - ((N 7).toNat : Int) + j = j by omega, Int.zero_add]; exact hW.2 j j0 (by omega)⟩
  refine g_loopB (fun x : gV × gN0 × Int × Nat × Nat × Int × aV × aV × aV × aV => lkI q w Sh V N x.2.1 x.1 x.2.2.1 x.2.2.2.1 x.2.2.2.2.1 ∧ x.2.2.2.2.2.1 = N 7 - (x.2.2.2.2.1 : Int)) (fun x => x.2.2.2.2.1) 12 (fun x => [(2, q), (0, (x.2.2.2.1 : Int)), (0, x.2.2.1), (0, N 7), (0, x.2.2.2.2.2.1), x.2.2.2.2.2.2.1, x.2.2.2.2.2.2.2.1, x.2.2.2.2.2.2.2.2.1, x.2.2.2.2.2.2.2.2.2]) (fun x => x.1) (fun x => x.2.2.2.1) (fun x => 10 * x.2.2.2.1) (V, N, 0, 0, (N 7).toNat, 0, (9, 0), (9, 0), (9, 0), (9, 0)) ⟨hJJ, by show (0 : Int) = N 7 - ((N 7).toNat : Int); omega⟩ ?_
  rintro ⟨V1, M, kept, gg, m, gi, a5, a6, a7, a8⟩ z ⟨hJ, hgi⟩ ih
  dsimp only at hJ hgi ih ⊢
  have hJ0 := hJ
  obtain ⟨⟨hL1, hIM, hoq, hv20, hlk⟩, ⟨hm9, hk0, hkm, hgm, hN20, hM2, hGB1, hM1⟩, hc9, hd9⟩ := hJ0
  have hI1 := hIM.1
  have hsm := hI1.1
  unfold iScal at hsm
  refine gB hC _ _ _ _ _ _ _ qL_looks_12 rfl ?_
  refine g_icmp_ge hC 171 dL_looks_15 rfl (by first | omega | exact cmpZ_in _ _ | exact bI_in _) (by first | omega | exact cmpZ_in _ _ | exact bI_in _) (fun c15 => ?_) (fun c15 => ?_)
  · refine gB hC _ _ _ _ _ _ _ qL_looks_171 rfl ?_
    refine g_puti hC dL_looks_173 fL_111 hL1.sL (by decide) rfl (fun _ h => by cases h; rfl) 20 rfl (by first | omega | exact cmpZ_in _ _ | exact bI_in _) (fun V173 e173 => ?_)
    refine gB hC _ _ _ _ _ _ _ qL_looks_176 rfl ?_
    refine g_ireturn hC dL_looks_177 hr ⟨by rw [← hlk, show m = 0 by omega]; rfl, rfl, ?_⟩ gs_rfl ⟨(by dsimp only [rmk]; omega), (by dsimp only [rmk]; omega)⟩
    have hm0 : m = 0 := by omega
    subst hm0
    have hM7 : kept = M 7 := by omega
    have e0 : (lk N).1 = M := by rw [← hlk]; rfl
    rw [e0]
    have hs3 := fun s s0 s1 => (hI1.2.2.2.1 s s0 s1).1
    have hlv : llV q M V173 := by
      have hv := hL1.2.2.2.2.2.1
      unfold llV at hv ⊢
      rw [e173, up_ne _ _ (Or.inr (by decide)), up_ne _ _ (Or.inr (by decide)), up_ne _ _ (Or.inr (by decide)), up_ne _ _ (Or.inr (by decide)), up_ne _ _ (Or.inr (by decide)), up_ne _ _ (Or.inr (by decide))]
      exact hv
    refine ⟨LB_q (by omega) hL1 e173 (by omega) hlv rfl rfl (fun _ _ => rfl) (fun s s0 s1 => by have := hs3 s s0 s1; omega), ⟨by rw [e173, up_eq]; exact hM7, fun g g0 g1 => ?_⟩, fun a a0 a1 => by rw [e173, up_row _ _ _ (by omega)]; exact hoq a a0 a1⟩
    have hp := (hL1.gp (i := g) g0 (by omega)).2
    rw [e173, up_row _ _ _ (by omega)]
    exact gsL_ag (fun _ _ _ => rfl) (up_row _ _ _ (by rcases hp with h | h <;> omega)) (hc9 g g0 (by omega))
  · obtain ⟨m, rfl⟩ : ∃ m2, m = m2 + 1 := ⟨m - 1, by omega⟩
    have hG := hd9 0 (Int.le_refl _) (by omega)
    rw [Int.add_zero, Int.add_zero, ← hgi] at hG
    obtain ⟨hgr0, hgr1, hgr2, hgr3, hgr4⟩ := hG
    have hg := hI1.2.2.2.2 kept (by omega) (by omega)
    unfold gOk at hg
    have hgb := hGB1 kept (by omega) (by omega)
    have ge0 : gF M kept 0 = M (1496 + kept * 5) := by unfold gF; rw [Int.add_zero]
    have ge1 : 8822 + (gF M kept 1 - 8822) = M (1496 + kept * 5 + 1) := by unfold gF; omega
    have ge2 : gF M kept 2 = M (1496 + kept * 5 + 2) := rfl
    have ge3 : gF M kept 3 = M (1496 + kept * 5 + 3) := rfl
    have ge4 : gF M kept 4 = M (1496 + kept * 5 + 4) := rfl
    refine gB hC _ _ _ _ _ _ _ qL_looks_18 rfl ?_
    refine g_getr hC dL_looks_19 fL_45 hL1.sL (by decide) rfl 19 rfl hL1.p19 ?_
    refine gB hC _ _ _ _ _ _ _ qL_looks_22 rfl ?_
    refine g_aald hC (j := 8) dL_looks_24 hL1.sgO (by decide) rfl (by omega) (by omega) (by decide) ?_
    refine gB hC _ _ _ _ _ _ _ qL_looks_25 rfl ?_
    refine g_iald hC dL_looks_30 (hL1.sgR (by omega) (by omega)) hgr1 (by omega) (by omega) (by decide) (fun i30 => ?_)
    refine gB hC _ _ _ _ _ _ _ qL_looks_31 rfl ?_
    refine g_getiv hC dL_looks_32 fL_114 hL1.sL (by decide) rfl 4 rfl hL1.v4 (fun i32 => ?_)
    refine g_icmp_ge hC 42 dL_looks_35 rfl (by first | omega | exact cmpZ_in _ _ | exact bI_in _) (by first | omega | exact cmpZ_in _ _ | exact bI_in _) (fun c35 => ?_) (fun c35 => ?_)
    · refine gB hC _ _ _ _ _ _ _ qL_looks_42 rfl ?_
      refine gB hC _ _ _ _ _ _ _ qL_looks_43 rfl ?_
      refine g_if_ne hC 82 dL_looks_47 rfl (by first | omega | exact cmpZ_in _ _ | exact bI_in _) (fun c47 => ?_) (fun c47 => ?_)
      · exact absurd c47 (by decide)
      · refine gB hC _ _ _ _ _ _ _ qL_looks_50 rfl ?_
        refine g_getiv hC dL_looks_51 fL_56 hL1.sL (by decide) rfl 17 rfl hL1.v17 (fun i51 => ?_)
        refine gB hC _ _ _ _ _ _ _ qL_looks_54 rfl ?_
        refine g_icmp_ge hC 82 dL_looks_56 rfl (by first | omega | exact cmpZ_in _ _ | exact bI_in _) (by first | omega | exact cmpZ_in _ _ | exact bI_in _) (fun c56 => ?_) (fun c56 => ?_)
        · refine gB hC _ _ _ _ _ _ _ qL_looks_82 rfl ?_
          refine gB hC _ _ _ _ _ _ _ qL_looks_83 rfl ?_
          refine g_if_eq hC 124 dL_looks_87 rfl (by first | omega | exact cmpZ_in _ _ | exact bI_in _) (fun c87 => ?_) (fun c87 => ?_)
          · refine gB hC _ _ _ _ _ _ _ qL_looks_124 rfl ?_
            refine g_if_ne hC 165 dL_looks_126 rfl (by first | omega | exact cmpZ_in _ _ | exact bI_in _) (fun c126 => ?_) (fun c126 => ?_)
            · exact absurd c126 (by decide)
            · refine gB hC _ _ _ _ _ _ _ qL_looks_129 rfl ?_
              refine g_if_eq hC 137 dL_looks_131 rfl (by first | omega | exact cmpZ_in _ _ | exact bI_in _) (fun c131 => ?_) (fun c131 => ?_)
              · refine gB hC _ _ _ _ _ _ _ qL_looks_137 rfl ?_
                refine g_getr hC dL_looks_138 fL_45 hL1.sL (by decide) rfl 19 rfl hL1.p19 ?_
                refine gB hC _ _ _ _ _ _ _ qL_looks_141 rfl ?_
                refine g_aald hC (j := 8) dL_looks_142 hL1.sgO (by decide) rfl (by omega) (by omega) (by decide) ?_
                refine gB hC _ _ _ _ _ _ _ qL_looks_143 rfl ?_
                refine g_getr hC dL_looks_146 fL_45 hL1.sL (by decide) rfl 19 rfl hL1.p19 ?_
                refine gB hC _ _ _ _ _ _ _ qL_looks_149 rfl ?_
                refine g_aastA hC dL_looks_152 hL1.sgO (hL1.sgR (by omega) (by omega)) (by omega) (by omega) (by decide) (fun V152 e152 => ?_)
                have hL2 := LB_g (by omega) hL1 (hL1.gp (by omega) (by omega)) e152
                refine gB hC _ _ _ _ _ _ _ qL_looks_153 rfl ?_
                refine g_getr hC dL_looks_154 fL_45 hL2.sL (by decide) rfl 19 rfl hL2.p19 ?_
                refine gB hC _ _ _ _ _ _ _ qL_looks_157 rfl ?_
                refine g_aastA hC dL_looks_161 hL2.sgO (hL1.sgR (by omega) (by omega)) (by omega) (by omega) (by decide) (fun V161 e161 => ?_)
                refine gB hC _ _ _ _ _ _ _ qL_looks_162 rfl ?_
                refine gB hC _ _ _ _ _ _ _ qL_looks_165 rfl ?_
                have hJ2 := lkS_keep hJ (by omega) (fun hh => by first | (have h1 := hh.1; omega) | (have h2 := hh.2; rw [h2] at c75; exact absurd c75 (by decide))) hgi e152 e161
                exact ih (V161, _, kept + 1, gg, m, gi + 1, _, _, _, _) _ ⟨hJ2, by show gi + 1 = N 7 - (m : Int); omega⟩ (Nat.lt_succ_self _)
              · exact absurd c131 (by decide)
          · exact absurd c87 (by decide)
        · refine gB hC _ _ _ _ _ _ _ qL_looks_59 rfl ?_
          refine g_iald hC dL_looks_63 (hL1.sgR (by omega) (by omega)) hgr0 (by omega) (by omega) (by decide) (fun i63 => ?_)
          refine gB hC _ _ _ _ _ _ _ qL_looks_64 rfl ?_
          refine g_iald hC dL_looks_67 (hL1.sgR (by omega) (by omega)) hgr1 (by omega) (by omega) (by decide) (fun i67 => ?_)
          refine gB hC _ _ _ _ _ _ _ qL_looks_68 rfl ?_
          refine g_iald hC dL_looks_71 (hL1.sgR (by omega) (by omega)) hgr2 (by omega) (by omega) (by decide) (fun i71 => ?_)
          refine g_cV1i hC dL_looks_72 mL_117 vL_refusing (kL_refusing hL1 hI1 (by omega) (by omega) (by omega) (by omega) (by omega) (by omega)) rfl hL1.sL (by decide) rfl (Nat.le_of_ble_eq_true rfl) (RSL rfl rfl (by dsimp only [rmk]; omega) (by dsimp only [rmk]; omega)) (fun z i72 => ?_)
          rw [ge1, ge0, ge2] at i72 ⊢
          refine g_if_ge hC 82 dL_looks_75 rfl (by first | omega | exact cmpZ_in _ _ | exact bI_in _) (fun c75 => ?_) (fun c75 => ?_)
          · refine gB hC _ _ _ _ _ _ _ qL_looks_82 rfl ?_
            refine gB hC _ _ _ _ _ _ _ qL_looks_83 rfl ?_
            refine g_if_eq hC 124 dL_looks_87 rfl (by first | omega | exact cmpZ_in _ _ | exact bI_in _) (fun c87 => ?_) (fun c87 => ?_)
            · refine gB hC _ _ _ _ _ _ _ qL_looks_124 rfl ?_
              refine g_if_ne hC 165 dL_looks_126 rfl (by first | omega | exact cmpZ_in _ _ | exact bI_in _) (fun c126 => ?_) (fun c126 => ?_)
              · exact absurd c126 (by decide)
              · refine gB hC _ _ _ _ _ _ _ qL_looks_129 rfl ?_
                refine g_if_eq hC 137 dL_looks_131 rfl (by first | omega | exact cmpZ_in _ _ | exact bI_in _) (fun c131 => ?_) (fun c131 => ?_)
                · refine gB hC _ _ _ _ _ _ _ qL_looks_137 rfl ?_
                  refine g_getr hC dL_looks_138 fL_45 hL1.sL (by decide) rfl 19 rfl hL1.p19 ?_
                  refine gB hC _ _ _ _ _ _ _ qL_looks_141 rfl ?_
                  refine g_aald hC (j := 8) dL_looks_142 hL1.sgO (by decide) rfl (by omega) (by omega) (by decide) ?_
                  refine gB hC _ _ _ _ _ _ _ qL_looks_143 rfl ?_
                  refine g_getr hC dL_looks_146 fL_45 hL1.sL (by decide) rfl 19 rfl hL1.p19 ?_
                  refine gB hC _ _ _ _ _ _ _ qL_looks_149 rfl ?_
                  refine g_aastA hC dL_looks_152 hL1.sgO (hL1.sgR (by omega) (by omega)) (by omega) (by omega) (by decide) (fun V152 e152 => ?_)
                  have hL2 := LB_g (by omega) hL1 (hL1.gp (by omega) (by omega)) e152
                  refine gB hC _ _ _ _ _ _ _ qL_looks_153 rfl ?_
                  refine g_getr hC dL_looks_154 fL_45 hL2.sL (by decide) rfl 19 rfl hL2.p19 ?_
                  refine gB hC _ _ _ _ _ _ _ qL_looks_157 rfl ?_
                  refine g_aastA hC dL_looks_161 hL2.sgO (hL1.sgR (by omega) (by omega)) (by omega) (by omega) (by decide) (fun V161 e161 => ?_)
                  refine gB hC _ _ _ _ _ _ _ qL_looks_162 rfl ?_
                  refine gB hC _ _ _ _ _ _ _ qL_looks_165 rfl ?_
                  have hJ2 := lkS_keep hJ (by omega) (fun hh => by first | (have h1 := hh.1; omega) | (have h2 := hh.2; rw [h2] at c75; exact absurd c75 (by decide))) hgi e152 e161
                  exact ih (V161, _, kept + 1, gg, m, gi + 1, _, _, _, _) _ ⟨hJ2, by show gi + 1 = N 7 - (m : Int); omega⟩ (Nat.lt_succ_self _)
                · exact absurd c131 (by decide)
            · exact absurd c87 (by decide)
          · refine gB hC _ _ _ _ _ _ _ qL_looks_78 rfl ?_
            refine gB hC _ _ _ _ _ _ _ qL_looks_83 rfl ?_
            refine g_if_eq hC 124 dL_looks_87 rfl (by first | omega | exact cmpZ_in _ _ | exact bI_in _) (fun c87 => ?_) (fun c87 => ?_)
            · exact absurd c87 (by decide)
            · refine gB hC _ _ _ _ _ _ _ qL_looks_90 rfl ?_
              refine g_iald hC dL_looks_94 (hL1.sgR (by omega) (by omega)) hgr0 (by omega) (by omega) (by decide) (fun i94 => ?_)
              refine gB hC _ _ _ _ _ _ _ qL_looks_95 rfl ?_
              refine g_iald hC dL_looks_98 (hL1.sgR (by omega) (by omega)) hgr1 (by omega) (by omega) (by decide) (fun i98 => ?_)
              refine gB hC _ _ _ _ _ _ _ qL_looks_99 rfl ?_
              refine g_iald hC dL_looks_102 (hL1.sgR (by omega) (by omega)) hgr2 (by omega) (by omega) (by decide) (fun i102 => ?_)
              refine gB hC _ _ _ _ _ _ _ qL_looks_103 rfl ?_
              refine g_iald hC dL_looks_106 (hL1.sgR (by omega) (by omega)) hgr3 (by omega) (by omega) (by decide) (fun i106 => ?_)
              refine gB hC _ _ _ _ _ _ _ qL_looks_107 rfl ?_
              refine g_iald hC dL_looks_110 (hL1.sgR (by omega) (by omega)) hgr4 (by omega) (by omega) (by decide) (fun i110 => ?_)
              refine gB hC _ _ _ _ _ _ _ qL_looks_111 rfl ?_
              refine g_iald hC dL_looks_114 (hL1.sgR (by omega) (by omega)) hgr1 (by omega) (by omega) (by decide) (fun i114 => ?_)
              refine gB hC _ _ _ _ _ _ _ qL_looks_115 rfl ?_
              refine g_cV1e hC dL_looks_116 mL_120 vL_makes (kL_makes hL1 hI1 (by omega) (by omega) (by omega) (by omega) (by omega) (by omega) (by omega) (by omega) (by omega) (by omega) (by omega) (by omega)) rfl hL1.sL (by decide) rfl (Nat.le_of_ble_eq_true rfl) (RSL rfl rfl (by dsimp only [rmk]; omega) (by dsimp only [rmk]; omega)) (fun z V116 e116 => ?_)
              rw [ge1, ge0, ge2, ge3, ge4] at e116
              refine gB hC _ _ _ _ _ _ _ qL_looks_119 rfl ?_
              refine gB hC _ _ _ _ _ _ _ qL_looks_124 rfl ?_
              refine g_if_ne hC 165 dL_looks_126 rfl (by first | omega | exact cmpZ_in _ _ | exact bI_in _) (fun c126 => ?_) (fun c126 => ?_)
              · exact absurd c126 (by decide)
              · refine gB hC _ _ _ _ _ _ _ qL_looks_129 rfl ?_
                refine g_if_eq hC 137 dL_looks_131 rfl (by first | omega | exact cmpZ_in _ _ | exact bI_in _) (fun c131 => ?_) (fun c131 => ?_)
                · exact absurd c131 (by decide)
                · refine gB hC _ _ _ _ _ _ _ qL_looks_134 rfl ?_
                  refine gB hC _ _ _ _ _ _ _ qL_looks_165 rfl ?_
                  rw [show (gg : Int) + 1 = ((gg + 1 : Nat) : Int) by omega]
                  refine g_kn9 (k1 := gg + 1) (n1 := 10 * (gg + 1)) (by dsimp only [rmk]; omega) (by dsimp only [rmk]; omega) ?_
                  have hJ2 := lkS_get hJ (by omega) (by omega) (m88_lt (by omega) c75) e116.1 e116.2.1 e116.2.2.1 e116.2.2.2
                  exact ih (V116, _, kept, gg + 1, m, gi + 1, _, _, _, _) _ ⟨hJ2, by show gi + 1 = N 7 - (m : Int); omega⟩ (Nat.lt_succ_self _)
    · refine gB hC _ _ _ _ _ _ _ qL_looks_38 rfl ?_
      refine gB hC _ _ _ _ _ _ _ qL_looks_43 rfl ?_
      refine g_if_ne hC 82 dL_looks_47 rfl (by first | omega | exact cmpZ_in _ _ | exact bI_in _) (fun c47 => ?_) (fun c47 => ?_)
      · refine gB hC _ _ _ _ _ _ _ qL_looks_82 rfl ?_
        refine gB hC _ _ _ _ _ _ _ qL_looks_83 rfl ?_
        refine g_if_eq hC 124 dL_looks_87 rfl (by first | omega | exact cmpZ_in _ _ | exact bI_in _) (fun c87 => ?_) (fun c87 => ?_)
        · refine gB hC _ _ _ _ _ _ _ qL_looks_124 rfl ?_
          refine g_if_ne hC 165 dL_looks_126 rfl (by first | omega | exact cmpZ_in _ _ | exact bI_in _) (fun c126 => ?_) (fun c126 => ?_)
          · refine gB hC _ _ _ _ _ _ _ qL_looks_165 rfl ?_
            have hJ2 := lkS_late hJ (by omega)
            exact ih (V1, _, kept, gg, m, gi + 1, _, _, _, _) _ ⟨hJ2, by show gi + 1 = N 7 - (m : Int); omega⟩ (Nat.lt_succ_self _)
          · exact absurd c126 (by decide)
        · exact absurd c87 (by decide)
      · exact absurd c47 (by decide)
