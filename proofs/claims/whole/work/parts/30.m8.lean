/-! the reference: longer, shorter, groups (rows laid by wip/whole/m8.py) -/
theorem snT_in {N : gN0} (hI : InvC N) {k first : Int} (h0 : 0 ≤ k) (h1 : k < N 1) : ∀ n : Nat, (∀ i : Int, 0 ≤ i → i < n → cnt N k (first + i) < kF N k 0 + kF N k 2) → 0 ≤ snT N k first n ∧ snT N k first n ≤ 720000 * n := by
  intro n
  induction n with
  | zero => intro _; exact ⟨Int.le_refl _, Int.le_refl _⟩
  | succ n ih =>
    intro h
    have h2 := ih (fun i a b => h i a (by omega))
    have h3 := nPr_had hI h0 h1 (h n (by omega) (by omega))
    unfold snT
    omega
theorem loN_inv {N : gN0} {s n : Int} (hI : INV N) (h0 : 0 ≤ s) (h1 : s < N 5) (hn0 : 1 ≤ n) (hn : sF N s 3 + n ≤ 14) (he : sF N s 2 + sF N s 3 - 1 + n < 36525) (hh : ∀ i : Int, 0 ≤ i → i < n → cnt N (sF N s 1) (sF N s 2 + sF N s 3 + i) < kF N (sF N s 1) 0 + kF N (sF N s 1) 2) : INV (loN N s n) := by
  have h := hI.1.2.2.2.1 s h0 h1
  have h3 := h.1
  have hag : AgT N (loN N s n) s := by
    intro j q1 q2
    unfold loN
    rw [upN_ne (by omega)]
    exact prP_s h0 (by omega) hn j q1 q2
  have e1 : loN N s n 1 = N 1 := hag.lo h0 (by decide)
  have eb : ∀ j, 9 ≤ j → j ≤ 12 → loN N s n j = N j := by
    intro j a b
    unfold loN
    rw [upN_ne (by omega)]
    exact prP_ne _ _ _ (by unfold sF at *; omega)
  have e : ∀ w, w ≠ 3 → 0 ≤ w → w < 10 + sF N s 3 → sF (loN N s n) s w = sF N s w := by
    intro w a b b2
    unfold loN
    show upN _ _ _ _ = _
    rw [upN_ne (by omega)]
    exact prP_ne _ _ _ (by omega)
  have e3 : sF (loN N s n) s 3 = sF N s 3 + n := upN_eq _ _ _
  have ep : ∀ i, sF N s 3 ≤ i → i < sF N s 3 + n → sF (loN N s n) s (10 + i) = nPr N (sF N s 1) (sF N s 2 + sF N s 3 + (i - sF N s 3)) := by
    intro i a b
    unfold loN
    show upN _ _ _ _ = _
    rw [upN_ne (by omega), prP_at _ _ _ (by omega)]
    congr 1
    omega
  refine INV_s hag h0 h1 hI ?_ ?_
  · unfold sOk at h ⊢
    rw [e1, e3, e 0 (by decide) (by decide) (by omega), e 1 (by decide) (by decide) (by omega), e 2 (by decide) (by decide) (by omega), e 4 (by decide) (by decide) (by omega), e 5 (by decide) (by decide) (by omega), e 6 (by decide) (by decide) (by omega), e 7 (by decide) (by decide) (by omega), e 8 (by decide) (by decide) (by omega), e 9 (by decide) (by decide) (by omega)]
    refine ⟨by omega, fun i a b => ?_⟩
    by_cases hi : i < sF N s 3
    · rw [e _ (by omega) (by omega) (by omega)]
      exact h.2 i a hi
    · rw [ep i (by omega) b]
      exact nPr_had hI.1 (by omega) (by omega) (hh _ (by omega) (by omega))
  · rw [e 0 (by decide) (by decide) (by omega), eb 9 (by decide) (by decide), eb 10 (by decide) (by decide), eb 11 (by decide) (by decide), eb 12 (by decide) (by decide)]
    omega
/-- stays of a group, one behind the other: the state, the night by which one is refused -/
def grT (N : gN0) (k first nights till g : Int) : Nat → gN0 × Int
  | 0 => (N, -1)
  | m + 1 => if (grT N k first nights till g m).2 ≠ -1 then grT N k first nights till g m
    else if rfd (grT N k first nights till g m).1 k first nights = -1 then (mkN (grT N k first nights till g m).1 k first nights 1 0 till g, -1)
    else ((grT N k first nights till g m).1, rfd (grT N k first nights till g m).1 k first nights)
theorem grT_stay {N : gN0} {k first nights till g : Int} {i : Nat} (h : (grT N k first nights till g i).2 ≠ -1) : ∀ d : Nat, grT N k first nights till g (i + d) = grT N k first nights till g i := by
  intro d
  induction d with
  | zero => rfl
  | succ d ih =>
    rw [← Nat.add_assoc, grT, if_pos (by rw [ih]; exact h), ih]
theorem grT_inv {N : gN0} {k first nights till g : Int} (hI : INV N) (ho : 0 ≤ k ∧ k < N 1 ∧ 8822 ≤ first ∧ 1 ≤ nights ∧ nights ≤ 14 ∧ first + nights ≤ 36525 ∧ 8822 ≤ till ∧ till ≤ 36524 ∧ -1 ≤ g ∧ g ≤ 9) : ∀ m : Nat, N 5 + m ≤ 60 →
    INV (grT N k first nights till g m).1 ∧ ((grT N k first nights till g m).2 = -1 → (grT N k first nights till g m).1 5 = N 5 + m) ∧ N 5 ≤ (grT N k first nights till g m).1 5 ∧ (∀ j, j ≠ 5 → (j < 56 + 24 * N 5 ∨ 1496 ≤ j) → (grT N k first nights till g m).1 j = N j) ∧ -1 ≤ (grT N k first nights till g m).2 ∧ (grT N k first nights till g m).2 ≤ 36524 := by
  intro m
  induction m with
  | zero => intro _; exact ⟨hI, fun _ => by show N 5 = N 5 + ((0 : Nat) : Int); omega, Int.le_refl _, fun _ _ _ => rfl, by show (-1 : Int) ≤ -1; omega, by show (-1 : Int) ≤ _; omega⟩
  | succ m ih =>
    intro hm
    obtain ⟨a1, a2, a3, a4, a5, a6⟩ := ih (by omega)
    unfold grT
    split
    · rename_i h; exact ⟨a1, fun q => absurd q h, a3, a4, a5, a6⟩
    · rename_i h
      have h5 := a2 (by omega)
      have hs := a1.1.1
      unfold iScal at hs
      have e1 := a4 1 (by decide) (Or.inl (by have := hI.1.1; unfold iScal at this; omega))
      split
      · rename_i hr
        have hO : mkOk (grT N k first nights till g m).1 k first nights 1 0 till g := by unfold mkOk; omega
        refine ⟨INV_mk a1 hO (rfd_had hr (by omega) (by omega)).1, fun _ => ?_, ?_, ?_, by show (-1 : Int) ≤ -1; omega, by show (-1 : Int) ≤ _; omega⟩
        · dsimp only
          rw [mkN_5]; omega
        · dsimp only
          rw [mkN_5]; omega
        · intro j q1 q2
          dsimp only
          rw [mkN_old (by omega) (by omega) (by omega) q1 (by omega)]
          exact a4 j q1 q2
      · have hr := rfd_in (grT N k first nights till g m).1 (k := k) (first := first) (nights := nights) (by omega) (by omega)
        exact ⟨a1, fun q => absurd q (by assumption), a3, a4, by show -1 ≤ rfd _ _ _ _; omega, by show rfd _ _ _ _ ≤ _; omega⟩
/-- the kept state is laid again -/
theorem gMw_back {b : Int} {N M : gN0} {Sh : gSh} {V1 VK Vx : gV} {sp : Int} (h1 : gMd b N Sh V1) (eK : VK = kpV V1 b) (hx : gMw b VK M Sh Vx) (hM : ∀ j, (j < 0 ∨ 5022 ≤ j) → M j = N j) (hsp : sp = kpC V1 b * 5022) : gMw b VK N Sh (cpV Vx (b + 2) sp (b + 1) 0 5022) := by
  have e : cpV Vx (b + 2) sp (b + 1) 0 5022 = wrN VK b N := by
    funext a j
    unfold cpV
    by_cases ha : a = b + 1
    · subst ha
      have ew : wrN VK b N (b + 1) j = N j := by unfold wrN; rw [if_pos rfl]
      rw [ew]
      by_cases hj : 0 ≤ j ∧ j < 0 + 5022
      · rw [if_pos ⟨rfl, hj⟩, hx.2]
        unfold wrN
        rw [if_neg (by omega), eK]
        unfold kpV
        rw [if_pos rfl, if_pos (by omega), show sp + (j - 0) - kpC V1 b * 5022 = j by omega]
        exact gMd_at h1 j
      · rw [if_neg (fun q => hj q.2), gMd_at hx.1 j]
        exact hM j (by omega)
    · rw [if_neg (fun q => ha q.1), hx.2]
      unfold wrN
      rw [if_neg ha, if_neg ha]
  refine ⟨?_, e⟩
  rw [e]
  have hK : gMd b N Sh VK := gMd_kp h1 eK
  exact gMd_w hK rfl

theorem kX12_longer {E l Sh V z} {b : Int} {N : gN0} {s0 nights : Int} (hm : gMd b N Sh V) (hI : INV N) (hv0 : 0 ≤ V b 2) (hv1 : V b 2 ≤ 6) (hk : inI s0) (hn : inI nights) : gM E l yX12_longer (.code yX12_longer cX12_longer 11 (some .int)) (rmk 8 0 0 200) [(2, b), (0, s0), (0, nights)] Sh V z (gRi (if (fitC (bI (0 ≤ s0 ∧ s0 ≤ N 5 - 1)) (bI ((0 ≤ s0 ∧ s0 ≤ N 5 - 1) ∧ (1 ≤ nights ∧ nights ≤ 13) ∧ sF N s0 3 + nights ≤ 14 ∧ sF N s0 2 + sF N s0 3 - 1 + nights ≤ N 0 + 365 ∧ sF N s0 2 + sF N s0 3 - 1 + nights < 36525)) (bI ((0 ≤ s0 ∧ s0 ≤ N 5 - 1) ∧ (sF N s0 0 = 0 ∨ sF N s0 0 = 1)))) = 0 then if rfs N (sF N s0 1) (sF N s0 2 + sF N s0 3) nights = -1 then snT N (sF N s0 1) (sF N s0 2 + sF N s0 3) nights.toNat else -1 else 0) Sh (if (fitC (bI (0 ≤ s0 ∧ s0 ≤ N 5 - 1)) (bI ((0 ≤ s0 ∧ s0 ≤ N 5 - 1) ∧ (1 ≤ nights ∧ nights ≤ 13) ∧ sF N s0 3 + nights ≤ 14 ∧ sF N s0 2 + sF N s0 3 - 1 + nights ≤ N 0 + 365 ∧ sF N s0 2 + sF N s0 3 - 1 + nights < 36525)) (bI ((0 ≤ s0 ∧ s0 ≤ N 5 - 1) ∧ (sF N s0 0 = 0 ∨ sF N s0 0 = 1)))) = 0 then wrN (kpV (up V b 3 0) b) b (if rfs N (sF N s0 1) (sF N s0 2 + sF N s0 3) nights = -1 then loN N s0 nights else upN N 8 (dateZ (rfs N (sF N s0 1) (sF N s0 2 + sF N s0 3) nights))) else up V b 3 (fitC (bI (0 ≤ s0 ∧ s0 ≤ N 5 - 1)) (bI ((0 ≤ s0 ∧ s0 ≤ N 5 - 1) ∧ (1 ≤ nights ∧ nights ≤ 13) ∧ sF N s0 3 + nights ≤ 14 ∧ sF N s0 2 + sF N s0 3 - 1 + nights ≤ N 0 + 365 ∧ sF N s0 2 + sF N s0 3 - 1 + nights < 36525)) (bI ((0 ≤ s0 ∧ s0 ≤ N 5 - 1) ∧ (sF N s0 0 = 0 ∨ sF N s0 0 = 1)))))) := by
  refine gM_at (L0 := [(2, b), (0, s0), (0, nights), (9, 0), (9, 0), (9, 0), (9, 0), (9, 0), (9, 0), (9, 0), (9, 0)]) rfl rfl rfl ?_
  intro p e s m args below meth c hC hr hex hnm hz
  have hsc := hI.1.1
  unfold iScal at hsc
  refine gB hC _ _ _ _ _ _ _ qX12_longer_0 rfl ?_
  refine g_cV1 hC dX12_longer_2 mX12_143 vX12_isStay (kX12_isStay hm (by omega) (by omega)) rfl hm.1.1 (by decide) rfl (Nat.le_of_ble_eq_true rfl) (RR rfl rfl rfl rfl) (fun z => ?_)
  refine gB hC _ _ _ _ _ _ _ qX12_longer_5 rfl ?_
  refine g_if_eq hC 51 dX12_longer_7 rfl (by first | omega | exact bI_in _) (fun c7 => ?_) (fun c7 => ?_)
  · have c7 := bI_0.mp c7
    refine gB hC _ _ _ _ _ _ _ qX12_longer_51 rfl ?_
    refine gB hC _ _ _ _ _ _ _ qX12_longer_52 rfl ?_
    refine g_if_eq hC 74 dX12_longer_59 rfl (by first | omega | exact bI_in _) (fun c59 => ?_) (fun c59 => ?_)
    · have c59 := bI_0.mp c59
      refine gB hC _ _ _ _ _ _ _ qX12_longer_74 rfl ?_
      refine g_cV1m hC dX12_longer_75 mX12_111 vX12_fits (kX12_fitsC (C := (fitC (bI (0 ≤ s0 ∧ s0 ≤ N 5 - 1)) (bI ((0 ≤ s0 ∧ s0 ≤ N 5 - 1) ∧ (1 ≤ nights ∧ nights ≤ 13) ∧ sF N s0 3 + nights ≤ 14 ∧ sF N s0 2 + sF N s0 3 - 1 + nights ≤ N 0 + 365 ∧ sF N s0 2 + sF N s0 3 - 1 + nights < 36525)) (bI ((0 ≤ s0 ∧ s0 ≤ N 5 - 1) ∧ (sF N s0 0 = 0 ∨ sF N s0 0 = 1))))) hm (by first | omega | exact bI_in _) (by first | omega | exact bI_in _) (by first | omega | exact bI_in _) (fit_eq (by first | rfl | exact (bI_t (by omega)).symm | exact (bI_f (by omega)).symm) (by first | rfl | exact (bI_t (by omega)).symm | exact (bI_f (by omega)).symm) (by first | rfl | exact (bI_t (by omega)).symm | exact (bI_f (by omega)).symm))) rfl hm.1.1 (by decide) rfl (Nat.le_of_ble_eq_true rfl) (RR rfl rfl rfl rfl) (fun z V75 e75 => ?_)
      have hm75 := gMd_o hm e75 (Or.inr ⟨rfl, by decide⟩)
      have h275 : V75 b 2 = V b 2 := by rw [e75, up_ne _ _ (Or.inr (by decide))]
      refine g_if_ne hC 83 dX12_longer_78 rfl (by first | omega | exact bI_in _) (fun c78 => ?_) (fun c78 => ?_)
      · exact absurd (bI_n0.mp c78) (fit_n2 (by first | rfl | exact bI_f (by omega)))
      · have cF := bI_0.mp c78
        refine gB hC _ _ _ _ _ _ _ qX12_longer_81 rfl ?_
        refine g_ireturn hC dX12_longer_82 hr ⟨?_, rfl, ?_, ?_⟩ gs_rfl ⟨Nat.le_of_ble_eq_true rfl, Nat.le_of_ble_eq_true rfl⟩
        · rw [if_neg cF]
        · rw [if_neg cF]; exact e75
        · rw [if_neg cF]; decide
    · have c59 := bI_n0.mp c59
      refine gB hC _ _ _ _ _ _ _ qX12_longer_62 rfl ?_
      refine g_cV1 hC dX12_longer_64 mX12_49 vX12_isAlive (kX12_isAlive hm (by omega) (by omega)) rfl hm.1.1 (by decide) rfl (Nat.le_of_ble_eq_true rfl) (RR rfl rfl rfl rfl) (fun z => ?_)
      refine g_if_eq hC 74 dX12_longer_67 rfl (by first | omega | exact bI_in _) (fun c67 => ?_) (fun c67 => ?_)
      · have c67 := bI_0.mp c67
        refine gB hC _ _ _ _ _ _ _ qX12_longer_74 rfl ?_
        refine g_cV1m hC dX12_longer_75 mX12_111 vX12_fits (kX12_fitsC (C := (fitC (bI (0 ≤ s0 ∧ s0 ≤ N 5 - 1)) (bI ((0 ≤ s0 ∧ s0 ≤ N 5 - 1) ∧ (1 ≤ nights ∧ nights ≤ 13) ∧ sF N s0 3 + nights ≤ 14 ∧ sF N s0 2 + sF N s0 3 - 1 + nights ≤ N 0 + 365 ∧ sF N s0 2 + sF N s0 3 - 1 + nights < 36525)) (bI ((0 ≤ s0 ∧ s0 ≤ N 5 - 1) ∧ (sF N s0 0 = 0 ∨ sF N s0 0 = 1))))) hm (by first | omega | exact bI_in _) (by first | omega | exact bI_in _) (by first | omega | exact bI_in _) (fit_eq (by first | rfl | exact (bI_t (by omega)).symm | exact (bI_f (by omega)).symm) (by first | rfl | exact (bI_t (by omega)).symm | exact (bI_f (by omega)).symm) (by first | rfl | exact (bI_t (by omega)).symm | exact (bI_f (by omega)).symm))) rfl hm.1.1 (by decide) rfl (Nat.le_of_ble_eq_true rfl) (RR rfl rfl rfl rfl) (fun z V75 e75 => ?_)
        have hm75 := gMd_o hm e75 (Or.inr ⟨rfl, by decide⟩)
        have h275 : V75 b 2 = V b 2 := by rw [e75, up_ne _ _ (Or.inr (by decide))]
        refine g_if_ne hC 83 dX12_longer_78 rfl (by first | omega | exact bI_in _) (fun c78 => ?_) (fun c78 => ?_)
        · exact absurd (bI_n0.mp c78) (fit_n2 (by first | rfl | exact bI_f (by omega)))
        · have cF := bI_0.mp c78
          refine gB hC _ _ _ _ _ _ _ qX12_longer_81 rfl ?_
          refine g_ireturn hC dX12_longer_82 hr ⟨?_, rfl, ?_, ?_⟩ gs_rfl ⟨Nat.le_of_ble_eq_true rfl, Nat.le_of_ble_eq_true rfl⟩
          · rw [if_neg cF]
          · rw [if_neg cF]; exact e75
          · rw [if_neg cF]; decide
      · have c67 := bI_n0.mp c67
        refine gB hC _ _ _ _ _ _ _ qX12_longer_70 rfl ?_
        refine g_cV1m hC dX12_longer_75 mX12_111 vX12_fits (kX12_fitsC (C := (fitC (bI (0 ≤ s0 ∧ s0 ≤ N 5 - 1)) (bI ((0 ≤ s0 ∧ s0 ≤ N 5 - 1) ∧ (1 ≤ nights ∧ nights ≤ 13) ∧ sF N s0 3 + nights ≤ 14 ∧ sF N s0 2 + sF N s0 3 - 1 + nights ≤ N 0 + 365 ∧ sF N s0 2 + sF N s0 3 - 1 + nights < 36525)) (bI ((0 ≤ s0 ∧ s0 ≤ N 5 - 1) ∧ (sF N s0 0 = 0 ∨ sF N s0 0 = 1))))) hm (by first | omega | exact bI_in _) (by first | omega | exact bI_in _) (by first | omega | exact bI_in _) (fit_eq (by first | rfl | exact (bI_t (by omega)).symm | exact (bI_f (by omega)).symm) (by first | rfl | exact (bI_t (by omega)).symm | exact (bI_f (by omega)).symm) (by first | rfl | exact (bI_t (by omega)).symm | exact (bI_f (by omega)).symm))) rfl hm.1.1 (by decide) rfl (Nat.le_of_ble_eq_true rfl) (RR rfl rfl rfl rfl) (fun z V75 e75 => ?_)
        have hm75 := gMd_o hm e75 (Or.inr ⟨rfl, by decide⟩)
        have h275 : V75 b 2 = V b 2 := by rw [e75, up_ne _ _ (Or.inr (by decide))]
        refine g_if_ne hC 83 dX12_longer_78 rfl (by first | omega | exact bI_in _) (fun c78 => ?_) (fun c78 => ?_)
        · exact absurd (bI_n0.mp c78) (fit_n2 (by first | rfl | exact bI_f (by omega)))
        · have cF := bI_0.mp c78
          refine gB hC _ _ _ _ _ _ _ qX12_longer_81 rfl ?_
          refine g_ireturn hC dX12_longer_82 hr ⟨?_, rfl, ?_, ?_⟩ gs_rfl ⟨Nat.le_of_ble_eq_true rfl, Nat.le_of_ble_eq_true rfl⟩
          · rw [if_neg cF]
          · rw [if_neg cF]; exact e75
          · rw [if_neg cF]; decide
  · have c7 := bI_n0.mp c7
    refine gB hC _ _ _ _ _ _ _ qX12_longer_10 rfl ?_
    refine g_cS1 hC dX12_longer_14 mX12_35 sX12_in (kX12_in (by omega) (by omega) (by omega)) rfl rfl (Nat.le_of_ble_eq_true rfl) (RR rfl rfl rfl rfl) (fun z => ?_)
    refine g_if_eq hC 51 dX12_longer_17 rfl (by first | omega | exact bI_in _) (fun c17 => ?_) (fun c17 => ?_)
    · have c17 := bI_0.mp c17
      refine gB hC _ _ _ _ _ _ _ qX12_longer_51 rfl ?_
      refine gB hC _ _ _ _ _ _ _ qX12_longer_52 rfl ?_
      refine g_if_eq hC 74 dX12_longer_59 rfl (by first | omega | exact bI_in _) (fun c59 => ?_) (fun c59 => ?_)
      · have c59 := bI_0.mp c59
        refine gB hC _ _ _ _ _ _ _ qX12_longer_74 rfl ?_
        refine g_cV1m hC dX12_longer_75 mX12_111 vX12_fits (kX12_fitsC (C := (fitC (bI (0 ≤ s0 ∧ s0 ≤ N 5 - 1)) (bI ((0 ≤ s0 ∧ s0 ≤ N 5 - 1) ∧ (1 ≤ nights ∧ nights ≤ 13) ∧ sF N s0 3 + nights ≤ 14 ∧ sF N s0 2 + sF N s0 3 - 1 + nights ≤ N 0 + 365 ∧ sF N s0 2 + sF N s0 3 - 1 + nights < 36525)) (bI ((0 ≤ s0 ∧ s0 ≤ N 5 - 1) ∧ (sF N s0 0 = 0 ∨ sF N s0 0 = 1))))) hm (by first | omega | exact bI_in _) (by first | omega | exact bI_in _) (by first | omega | exact bI_in _) (fit_eq (by first | rfl | exact (bI_t (by omega)).symm | exact (bI_f (by omega)).symm) (by first | rfl | exact (bI_t (by omega)).symm | exact (bI_f (by omega)).symm) (by first | rfl | exact (bI_t (by omega)).symm | exact (bI_f (by omega)).symm))) rfl hm.1.1 (by decide) rfl (Nat.le_of_ble_eq_true rfl) (RR rfl rfl rfl rfl) (fun z V75 e75 => ?_)
        have hm75 := gMd_o hm e75 (Or.inr ⟨rfl, by decide⟩)
        have h275 : V75 b 2 = V b 2 := by rw [e75, up_ne _ _ (Or.inr (by decide))]
        refine g_if_ne hC 83 dX12_longer_78 rfl (by first | omega | exact bI_in _) (fun c78 => ?_) (fun c78 => ?_)
        · exact absurd (bI_n0.mp c78) (fit_n2 (by first | rfl | exact bI_f (by omega)))
        · have cF := bI_0.mp c78
          refine gB hC _ _ _ _ _ _ _ qX12_longer_81 rfl ?_
          refine g_ireturn hC dX12_longer_82 hr ⟨?_, rfl, ?_, ?_⟩ gs_rfl ⟨Nat.le_of_ble_eq_true rfl, Nat.le_of_ble_eq_true rfl⟩
          · rw [if_neg cF]
          · rw [if_neg cF]; exact e75
          · rw [if_neg cF]; decide
      · have c59 := bI_n0.mp c59
        refine gB hC _ _ _ _ _ _ _ qX12_longer_62 rfl ?_
        refine g_cV1 hC dX12_longer_64 mX12_49 vX12_isAlive (kX12_isAlive hm (by omega) (by omega)) rfl hm.1.1 (by decide) rfl (Nat.le_of_ble_eq_true rfl) (RR rfl rfl rfl rfl) (fun z => ?_)
        refine g_if_eq hC 74 dX12_longer_67 rfl (by first | omega | exact bI_in _) (fun c67 => ?_) (fun c67 => ?_)
        · have c67 := bI_0.mp c67
          refine gB hC _ _ _ _ _ _ _ qX12_longer_74 rfl ?_
          refine g_cV1m hC dX12_longer_75 mX12_111 vX12_fits (kX12_fitsC (C := (fitC (bI (0 ≤ s0 ∧ s0 ≤ N 5 - 1)) (bI ((0 ≤ s0 ∧ s0 ≤ N 5 - 1) ∧ (1 ≤ nights ∧ nights ≤ 13) ∧ sF N s0 3 + nights ≤ 14 ∧ sF N s0 2 + sF N s0 3 - 1 + nights ≤ N 0 + 365 ∧ sF N s0 2 + sF N s0 3 - 1 + nights < 36525)) (bI ((0 ≤ s0 ∧ s0 ≤ N 5 - 1) ∧ (sF N s0 0 = 0 ∨ sF N s0 0 = 1))))) hm (by first | omega | exact bI_in _) (by first | omega | exact bI_in _) (by first | omega | exact bI_in _) (fit_eq (by first | rfl | exact (bI_t (by omega)).symm | exact (bI_f (by omega)).symm) (by first | rfl | exact (bI_t (by omega)).symm | exact (bI_f (by omega)).symm) (by first | rfl | exact (bI_t (by omega)).symm | exact (bI_f (by omega)).symm))) rfl hm.1.1 (by decide) rfl (Nat.le_of_ble_eq_true rfl) (RR rfl rfl rfl rfl) (fun z V75 e75 => ?_)
          have hm75 := gMd_o hm e75 (Or.inr ⟨rfl, by decide⟩)
          have h275 : V75 b 2 = V b 2 := by rw [e75, up_ne _ _ (Or.inr (by decide))]
          refine g_if_ne hC 83 dX12_longer_78 rfl (by first | omega | exact bI_in _) (fun c78 => ?_) (fun c78 => ?_)
          · exact absurd (bI_n0.mp c78) (fit_n2 (by first | rfl | exact bI_f (by omega)))
          · have cF := bI_0.mp c78
            refine gB hC _ _ _ _ _ _ _ qX12_longer_81 rfl ?_
            refine g_ireturn hC dX12_longer_82 hr ⟨?_, rfl, ?_, ?_⟩ gs_rfl ⟨Nat.le_of_ble_eq_true rfl, Nat.le_of_ble_eq_true rfl⟩
            · rw [if_neg cF]
            · rw [if_neg cF]; exact e75
            · rw [if_neg cF]; decide
        · have c67 := bI_n0.mp c67
          refine gB hC _ _ _ _ _ _ _ qX12_longer_70 rfl ?_
          refine g_cV1m hC dX12_longer_75 mX12_111 vX12_fits (kX12_fitsC (C := (fitC (bI (0 ≤ s0 ∧ s0 ≤ N 5 - 1)) (bI ((0 ≤ s0 ∧ s0 ≤ N 5 - 1) ∧ (1 ≤ nights ∧ nights ≤ 13) ∧ sF N s0 3 + nights ≤ 14 ∧ sF N s0 2 + sF N s0 3 - 1 + nights ≤ N 0 + 365 ∧ sF N s0 2 + sF N s0 3 - 1 + nights < 36525)) (bI ((0 ≤ s0 ∧ s0 ≤ N 5 - 1) ∧ (sF N s0 0 = 0 ∨ sF N s0 0 = 1))))) hm (by first | omega | exact bI_in _) (by first | omega | exact bI_in _) (by first | omega | exact bI_in _) (fit_eq (by first | rfl | exact (bI_t (by omega)).symm | exact (bI_f (by omega)).symm) (by first | rfl | exact (bI_t (by omega)).symm | exact (bI_f (by omega)).symm) (by first | rfl | exact (bI_t (by omega)).symm | exact (bI_f (by omega)).symm))) rfl hm.1.1 (by decide) rfl (Nat.le_of_ble_eq_true rfl) (RR rfl rfl rfl rfl) (fun z V75 e75 => ?_)
          have hm75 := gMd_o hm e75 (Or.inr ⟨rfl, by decide⟩)
          have h275 : V75 b 2 = V b 2 := by rw [e75, up_ne _ _ (Or.inr (by decide))]
          refine g_if_ne hC 83 dX12_longer_78 rfl (by first | omega | exact bI_in _) (fun c78 => ?_) (fun c78 => ?_)
          · exact absurd (bI_n0.mp c78) (fit_n2 (by first | rfl | exact bI_f (by omega)))
          · have cF := bI_0.mp c78
            refine gB hC _ _ _ _ _ _ _ qX12_longer_81 rfl ?_
            refine g_ireturn hC dX12_longer_82 hr ⟨?_, rfl, ?_, ?_⟩ gs_rfl ⟨Nat.le_of_ble_eq_true rfl, Nat.le_of_ble_eq_true rfl⟩
            · rw [if_neg cF]
            · rw [if_neg cF]; exact e75
            · rw [if_neg cF]; decide
    · have c17 := bI_n0.mp c17
      have hsq := (hI.1.2.2.2.1 s0 (by omega) (by omega)).1
      refine gB hC _ _ _ _ _ _ _ qX12_longer_20 rfl ?_
      refine g_cV1i hC dX12_longer_23 mX12_43 vX12_of (kX12_of hm (by omega) (by omega)) rfl hm.1.1 (by decide) rfl (Nat.le_of_ble_eq_true rfl) (RR rfl rfl rfl rfl) (fun z i23 => ?_)
      refine gB hC _ _ _ _ _ _ _ qX12_longer_26 rfl ?_
      refine g_icmp_gt hC 51 dX12_longer_30 rfl (by first | omega | exact bI_in _) (by first | omega | exact bI_in _) (fun c30 => ?_) (fun c30 => ?_)
      · refine gB hC _ _ _ _ _ _ _ qX12_longer_51 rfl ?_
        refine gB hC _ _ _ _ _ _ _ qX12_longer_52 rfl ?_
        refine g_if_eq hC 74 dX12_longer_59 rfl (by first | omega | exact bI_in _) (fun c59 => ?_) (fun c59 => ?_)
        · have c59 := bI_0.mp c59
          refine gB hC _ _ _ _ _ _ _ qX12_longer_74 rfl ?_
          refine g_cV1m hC dX12_longer_75 mX12_111 vX12_fits (kX12_fitsC (C := (fitC (bI (0 ≤ s0 ∧ s0 ≤ N 5 - 1)) (bI ((0 ≤ s0 ∧ s0 ≤ N 5 - 1) ∧ (1 ≤ nights ∧ nights ≤ 13) ∧ sF N s0 3 + nights ≤ 14 ∧ sF N s0 2 + sF N s0 3 - 1 + nights ≤ N 0 + 365 ∧ sF N s0 2 + sF N s0 3 - 1 + nights < 36525)) (bI ((0 ≤ s0 ∧ s0 ≤ N 5 - 1) ∧ (sF N s0 0 = 0 ∨ sF N s0 0 = 1))))) hm (by first | omega | exact bI_in _) (by first | omega | exact bI_in _) (by first | omega | exact bI_in _) (fit_eq (by first | rfl | exact (bI_t (by omega)).symm | exact (bI_f (by omega)).symm) (by first | rfl | exact (bI_t (by omega)).symm | exact (bI_f (by omega)).symm) (by first | rfl | exact (bI_t (by omega)).symm | exact (bI_f (by omega)).symm))) rfl hm.1.1 (by decide) rfl (Nat.le_of_ble_eq_true rfl) (RR rfl rfl rfl rfl) (fun z V75 e75 => ?_)
          have hm75 := gMd_o hm e75 (Or.inr ⟨rfl, by decide⟩)
          have h275 : V75 b 2 = V b 2 := by rw [e75, up_ne _ _ (Or.inr (by decide))]
          refine g_if_ne hC 83 dX12_longer_78 rfl (by first | omega | exact bI_in _) (fun c78 => ?_) (fun c78 => ?_)
          · exact absurd (bI_n0.mp c78) (fit_n2 (by first | rfl | exact bI_f (by omega)))
          · have cF := bI_0.mp c78
            refine gB hC _ _ _ _ _ _ _ qX12_longer_81 rfl ?_
            refine g_ireturn hC dX12_longer_82 hr ⟨?_, rfl, ?_, ?_⟩ gs_rfl ⟨Nat.le_of_ble_eq_true rfl, Nat.le_of_ble_eq_true rfl⟩
            · rw [if_neg cF]
            · rw [if_neg cF]; exact e75
            · rw [if_neg cF]; decide
        · have c59 := bI_n0.mp c59
          refine gB hC _ _ _ _ _ _ _ qX12_longer_62 rfl ?_
          refine g_cV1 hC dX12_longer_64 mX12_49 vX12_isAlive (kX12_isAlive hm (by omega) (by omega)) rfl hm.1.1 (by decide) rfl (Nat.le_of_ble_eq_true rfl) (RR rfl rfl rfl rfl) (fun z => ?_)
          refine g_if_eq hC 74 dX12_longer_67 rfl (by first | omega | exact bI_in _) (fun c67 => ?_) (fun c67 => ?_)
          · have c67 := bI_0.mp c67
            refine gB hC _ _ _ _ _ _ _ qX12_longer_74 rfl ?_
            refine g_cV1m hC dX12_longer_75 mX12_111 vX12_fits (kX12_fitsC (C := (fitC (bI (0 ≤ s0 ∧ s0 ≤ N 5 - 1)) (bI ((0 ≤ s0 ∧ s0 ≤ N 5 - 1) ∧ (1 ≤ nights ∧ nights ≤ 13) ∧ sF N s0 3 + nights ≤ 14 ∧ sF N s0 2 + sF N s0 3 - 1 + nights ≤ N 0 + 365 ∧ sF N s0 2 + sF N s0 3 - 1 + nights < 36525)) (bI ((0 ≤ s0 ∧ s0 ≤ N 5 - 1) ∧ (sF N s0 0 = 0 ∨ sF N s0 0 = 1))))) hm (by first | omega | exact bI_in _) (by first | omega | exact bI_in _) (by first | omega | exact bI_in _) (fit_eq (by first | rfl | exact (bI_t (by omega)).symm | exact (bI_f (by omega)).symm) (by first | rfl | exact (bI_t (by omega)).symm | exact (bI_f (by omega)).symm) (by first | rfl | exact (bI_t (by omega)).symm | exact (bI_f (by omega)).symm))) rfl hm.1.1 (by decide) rfl (Nat.le_of_ble_eq_true rfl) (RR rfl rfl rfl rfl) (fun z V75 e75 => ?_)
            have hm75 := gMd_o hm e75 (Or.inr ⟨rfl, by decide⟩)
            have h275 : V75 b 2 = V b 2 := by rw [e75, up_ne _ _ (Or.inr (by decide))]
            refine g_if_ne hC 83 dX12_longer_78 rfl (by first | omega | exact bI_in _) (fun c78 => ?_) (fun c78 => ?_)
            · exact absurd (bI_n0.mp c78) (fit_n2 (by first | rfl | exact bI_f (by omega)))
            · have cF := bI_0.mp c78
              refine gB hC _ _ _ _ _ _ _ qX12_longer_81 rfl ?_
              refine g_ireturn hC dX12_longer_82 hr ⟨?_, rfl, ?_, ?_⟩ gs_rfl ⟨Nat.le_of_ble_eq_true rfl, Nat.le_of_ble_eq_true rfl⟩
              · rw [if_neg cF]
              · rw [if_neg cF]; exact e75
              · rw [if_neg cF]; decide
          · have c67 := bI_n0.mp c67
            refine gB hC _ _ _ _ _ _ _ qX12_longer_70 rfl ?_
            refine g_cV1m hC dX12_longer_75 mX12_111 vX12_fits (kX12_fitsC (C := (fitC (bI (0 ≤ s0 ∧ s0 ≤ N 5 - 1)) (bI ((0 ≤ s0 ∧ s0 ≤ N 5 - 1) ∧ (1 ≤ nights ∧ nights ≤ 13) ∧ sF N s0 3 + nights ≤ 14 ∧ sF N s0 2 + sF N s0 3 - 1 + nights ≤ N 0 + 365 ∧ sF N s0 2 + sF N s0 3 - 1 + nights < 36525)) (bI ((0 ≤ s0 ∧ s0 ≤ N 5 - 1) ∧ (sF N s0 0 = 0 ∨ sF N s0 0 = 1))))) hm (by first | omega | exact bI_in _) (by first | omega | exact bI_in _) (by first | omega | exact bI_in _) (fit_eq (by first | rfl | exact (bI_t (by omega)).symm | exact (bI_f (by omega)).symm) (by first | rfl | exact (bI_t (by omega)).symm | exact (bI_f (by omega)).symm) (by first | rfl | exact (bI_t (by omega)).symm | exact (bI_f (by omega)).symm))) rfl hm.1.1 (by decide) rfl (Nat.le_of_ble_eq_true rfl) (RR rfl rfl rfl rfl) (fun z V75 e75 => ?_)
            have hm75 := gMd_o hm e75 (Or.inr ⟨rfl, by decide⟩)
            have h275 : V75 b 2 = V b 2 := by rw [e75, up_ne _ _ (Or.inr (by decide))]
            refine g_if_ne hC 83 dX12_longer_78 rfl (by first | omega | exact bI_in _) (fun c78 => ?_) (fun c78 => ?_)
            · exact absurd (bI_n0.mp c78) (fit_n2 (by first | rfl | exact bI_f (by omega)))
            · have cF := bI_0.mp c78
              refine gB hC _ _ _ _ _ _ _ qX12_longer_81 rfl ?_
              refine g_ireturn hC dX12_longer_82 hr ⟨?_, rfl, ?_, ?_⟩ gs_rfl ⟨Nat.le_of_ble_eq_true rfl, Nat.le_of_ble_eq_true rfl⟩
              · rw [if_neg cF]
              · rw [if_neg cF]; exact e75
              · rw [if_neg cF]; decide
      · refine gB hC _ _ _ _ _ _ _ qX12_longer_33 rfl ?_
        refine g_cV1i hC dX12_longer_36 mX12_46 vX12_last (kX12_last hm (by omega) (by omega) (by omega)) rfl hm.1.1 (by decide) rfl (Nat.le_of_ble_eq_true rfl) (RR rfl rfl rfl rfl) (fun z i36 => ?_)
        refine gB hC _ _ _ _ _ _ _ qX12_longer_39 rfl ?_
        refine g_cV1 hC dX12_longer_41 mX12_133 vX12_canEnd (kX12_canEnd hm (by omega) (by omega) (by omega)) rfl hm.1.1 (by decide) rfl (Nat.le_of_ble_eq_true rfl) (RR rfl rfl rfl rfl) (fun z => ?_)
        refine g_if_eq hC 51 dX12_longer_44 rfl (by first | omega | exact bI_in _) (fun c44 => ?_) (fun c44 => ?_)
        · have c44 := bI_0.mp c44
          refine gB hC _ _ _ _ _ _ _ qX12_longer_51 rfl ?_
          refine gB hC _ _ _ _ _ _ _ qX12_longer_52 rfl ?_
          refine g_if_eq hC 74 dX12_longer_59 rfl (by first | omega | exact bI_in _) (fun c59 => ?_) (fun c59 => ?_)
          · have c59 := bI_0.mp c59
            refine gB hC _ _ _ _ _ _ _ qX12_longer_74 rfl ?_
            refine g_cV1m hC dX12_longer_75 mX12_111 vX12_fits (kX12_fitsC (C := (fitC (bI (0 ≤ s0 ∧ s0 ≤ N 5 - 1)) (bI ((0 ≤ s0 ∧ s0 ≤ N 5 - 1) ∧ (1 ≤ nights ∧ nights ≤ 13) ∧ sF N s0 3 + nights ≤ 14 ∧ sF N s0 2 + sF N s0 3 - 1 + nights ≤ N 0 + 365 ∧ sF N s0 2 + sF N s0 3 - 1 + nights < 36525)) (bI ((0 ≤ s0 ∧ s0 ≤ N 5 - 1) ∧ (sF N s0 0 = 0 ∨ sF N s0 0 = 1))))) hm (by first | omega | exact bI_in _) (by first | omega | exact bI_in _) (by first | omega | exact bI_in _) (fit_eq (by first | rfl | exact (bI_t (by omega)).symm | exact (bI_f (by omega)).symm) (by first | rfl | exact (bI_t (by omega)).symm | exact (bI_f (by omega)).symm) (by first | rfl | exact (bI_t (by omega)).symm | exact (bI_f (by omega)).symm))) rfl hm.1.1 (by decide) rfl (Nat.le_of_ble_eq_true rfl) (RR rfl rfl rfl rfl) (fun z V75 e75 => ?_)
            have hm75 := gMd_o hm e75 (Or.inr ⟨rfl, by decide⟩)
            have h275 : V75 b 2 = V b 2 := by rw [e75, up_ne _ _ (Or.inr (by decide))]
            refine g_if_ne hC 83 dX12_longer_78 rfl (by first | omega | exact bI_in _) (fun c78 => ?_) (fun c78 => ?_)
            · exact absurd (bI_n0.mp c78) (fit_n2 (by first | rfl | exact bI_f (by omega)))
            · have cF := bI_0.mp c78
              refine gB hC _ _ _ _ _ _ _ qX12_longer_81 rfl ?_
              refine g_ireturn hC dX12_longer_82 hr ⟨?_, rfl, ?_, ?_⟩ gs_rfl ⟨Nat.le_of_ble_eq_true rfl, Nat.le_of_ble_eq_true rfl⟩
              · rw [if_neg cF]
              · rw [if_neg cF]; exact e75
              · rw [if_neg cF]; decide
          · have c59 := bI_n0.mp c59
            refine gB hC _ _ _ _ _ _ _ qX12_longer_62 rfl ?_
            refine g_cV1 hC dX12_longer_64 mX12_49 vX12_isAlive (kX12_isAlive hm (by omega) (by omega)) rfl hm.1.1 (by decide) rfl (Nat.le_of_ble_eq_true rfl) (RR rfl rfl rfl rfl) (fun z => ?_)
            refine g_if_eq hC 74 dX12_longer_67 rfl (by first | omega | exact bI_in _) (fun c67 => ?_) (fun c67 => ?_)
            · have c67 := bI_0.mp c67
              refine gB hC _ _ _ _ _ _ _ qX12_longer_74 rfl ?_
              refine g_cV1m hC dX12_longer_75 mX12_111 vX12_fits (kX12_fitsC (C := (fitC (bI (0 ≤ s0 ∧ s0 ≤ N 5 - 1)) (bI ((0 ≤ s0 ∧ s0 ≤ N 5 - 1) ∧ (1 ≤ nights ∧ nights ≤ 13) ∧ sF N s0 3 + nights ≤ 14 ∧ sF N s0 2 + sF N s0 3 - 1 + nights ≤ N 0 + 365 ∧ sF N s0 2 + sF N s0 3 - 1 + nights < 36525)) (bI ((0 ≤ s0 ∧ s0 ≤ N 5 - 1) ∧ (sF N s0 0 = 0 ∨ sF N s0 0 = 1))))) hm (by first | omega | exact bI_in _) (by first | omega | exact bI_in _) (by first | omega | exact bI_in _) (fit_eq (by first | rfl | exact (bI_t (by omega)).symm | exact (bI_f (by omega)).symm) (by first | rfl | exact (bI_t (by omega)).symm | exact (bI_f (by omega)).symm) (by first | rfl | exact (bI_t (by omega)).symm | exact (bI_f (by omega)).symm))) rfl hm.1.1 (by decide) rfl (Nat.le_of_ble_eq_true rfl) (RR rfl rfl rfl rfl) (fun z V75 e75 => ?_)
              have hm75 := gMd_o hm e75 (Or.inr ⟨rfl, by decide⟩)
              have h275 : V75 b 2 = V b 2 := by rw [e75, up_ne _ _ (Or.inr (by decide))]
              refine g_if_ne hC 83 dX12_longer_78 rfl (by first | omega | exact bI_in _) (fun c78 => ?_) (fun c78 => ?_)
              · exact absurd (bI_n0.mp c78) (fit_n2 (by first | rfl | exact bI_f (by omega)))
              · have cF := bI_0.mp c78
                refine gB hC _ _ _ _ _ _ _ qX12_longer_81 rfl ?_
                refine g_ireturn hC dX12_longer_82 hr ⟨?_, rfl, ?_, ?_⟩ gs_rfl ⟨Nat.le_of_ble_eq_true rfl, Nat.le_of_ble_eq_true rfl⟩
                · rw [if_neg cF]
                · rw [if_neg cF]; exact e75
                · rw [if_neg cF]; decide
            · have c67 := bI_n0.mp c67
              refine gB hC _ _ _ _ _ _ _ qX12_longer_70 rfl ?_
              refine g_cV1m hC dX12_longer_75 mX12_111 vX12_fits (kX12_fitsC (C := (fitC (bI (0 ≤ s0 ∧ s0 ≤ N 5 - 1)) (bI ((0 ≤ s0 ∧ s0 ≤ N 5 - 1) ∧ (1 ≤ nights ∧ nights ≤ 13) ∧ sF N s0 3 + nights ≤ 14 ∧ sF N s0 2 + sF N s0 3 - 1 + nights ≤ N 0 + 365 ∧ sF N s0 2 + sF N s0 3 - 1 + nights < 36525)) (bI ((0 ≤ s0 ∧ s0 ≤ N 5 - 1) ∧ (sF N s0 0 = 0 ∨ sF N s0 0 = 1))))) hm (by first | omega | exact bI_in _) (by first | omega | exact bI_in _) (by first | omega | exact bI_in _) (fit_eq (by first | rfl | exact (bI_t (by omega)).symm | exact (bI_f (by omega)).symm) (by first | rfl | exact (bI_t (by omega)).symm | exact (bI_f (by omega)).symm) (by first | rfl | exact (bI_t (by omega)).symm | exact (bI_f (by omega)).symm))) rfl hm.1.1 (by decide) rfl (Nat.le_of_ble_eq_true rfl) (RR rfl rfl rfl rfl) (fun z V75 e75 => ?_)
              have hm75 := gMd_o hm e75 (Or.inr ⟨rfl, by decide⟩)
              have h275 : V75 b 2 = V b 2 := by rw [e75, up_ne _ _ (Or.inr (by decide))]
              refine g_if_ne hC 83 dX12_longer_78 rfl (by first | omega | exact bI_in _) (fun c78 => ?_) (fun c78 => ?_)
              · exact absurd (bI_n0.mp c78) (fit_n2 (by first | rfl | exact bI_f (by omega)))
              · have cF := bI_0.mp c78
                refine gB hC _ _ _ _ _ _ _ qX12_longer_81 rfl ?_
                refine g_ireturn hC dX12_longer_82 hr ⟨?_, rfl, ?_, ?_⟩ gs_rfl ⟨Nat.le_of_ble_eq_true rfl, Nat.le_of_ble_eq_true rfl⟩
                · rw [if_neg cF]
                · rw [if_neg cF]; exact e75
                · rw [if_neg cF]; decide
        · have c44 := bI_n0.mp c44
          refine gB hC _ _ _ _ _ _ _ qX12_longer_47 rfl ?_
          refine gB hC _ _ _ _ _ _ _ qX12_longer_52 rfl ?_
          refine g_if_eq hC 74 dX12_longer_59 rfl (by first | omega | exact bI_in _) (fun c59 => ?_) (fun c59 => ?_)
          · have c59 := bI_0.mp c59
            refine gB hC _ _ _ _ _ _ _ qX12_longer_74 rfl ?_
            refine g_cV1m hC dX12_longer_75 mX12_111 vX12_fits (kX12_fitsC (C := (fitC (bI (0 ≤ s0 ∧ s0 ≤ N 5 - 1)) (bI ((0 ≤ s0 ∧ s0 ≤ N 5 - 1) ∧ (1 ≤ nights ∧ nights ≤ 13) ∧ sF N s0 3 + nights ≤ 14 ∧ sF N s0 2 + sF N s0 3 - 1 + nights ≤ N 0 + 365 ∧ sF N s0 2 + sF N s0 3 - 1 + nights < 36525)) (bI ((0 ≤ s0 ∧ s0 ≤ N 5 - 1) ∧ (sF N s0 0 = 0 ∨ sF N s0 0 = 1))))) hm (by first | omega | exact bI_in _) (by first | omega | exact bI_in _) (by first | omega | exact bI_in _) (fit_eq (by first | rfl | exact (bI_t (by omega)).symm | exact (bI_f (by omega)).symm) (by first | rfl | exact (bI_t (by omega)).symm | exact (bI_f (by omega)).symm) (by first | rfl | exact (bI_t (by omega)).symm | exact (bI_f (by omega)).symm))) rfl hm.1.1 (by decide) rfl (Nat.le_of_ble_eq_true rfl) (RR rfl rfl rfl rfl) (fun z V75 e75 => ?_)
            have hm75 := gMd_o hm e75 (Or.inr ⟨rfl, by decide⟩)
            have h275 : V75 b 2 = V b 2 := by rw [e75, up_ne _ _ (Or.inr (by decide))]
            refine g_if_ne hC 83 dX12_longer_78 rfl (by first | omega | exact bI_in _) (fun c78 => ?_) (fun c78 => ?_)
            · exact absurd (bI_n0.mp c78) (fit_n3 (by first | rfl | exact bI_f (by omega)))
            · have cF := bI_0.mp c78
              refine gB hC _ _ _ _ _ _ _ qX12_longer_81 rfl ?_
              refine g_ireturn hC dX12_longer_82 hr ⟨?_, rfl, ?_, ?_⟩ gs_rfl ⟨Nat.le_of_ble_eq_true rfl, Nat.le_of_ble_eq_true rfl⟩
              · rw [if_neg cF]
              · rw [if_neg cF]; exact e75
              · rw [if_neg cF]; decide
          · have c59 := bI_n0.mp c59
            refine gB hC _ _ _ _ _ _ _ qX12_longer_62 rfl ?_
            refine g_cV1 hC dX12_longer_64 mX12_49 vX12_isAlive (kX12_isAlive hm (by omega) (by omega)) rfl hm.1.1 (by decide) rfl (Nat.le_of_ble_eq_true rfl) (RR rfl rfl rfl rfl) (fun z => ?_)
            refine g_if_eq hC 74 dX12_longer_67 rfl (by first | omega | exact bI_in _) (fun c67 => ?_) (fun c67 => ?_)
            · have c67 := bI_0.mp c67
              refine gB hC _ _ _ _ _ _ _ qX12_longer_74 rfl ?_
              refine g_cV1m hC dX12_longer_75 mX12_111 vX12_fits (kX12_fitsC (C := (fitC (bI (0 ≤ s0 ∧ s0 ≤ N 5 - 1)) (bI ((0 ≤ s0 ∧ s0 ≤ N 5 - 1) ∧ (1 ≤ nights ∧ nights ≤ 13) ∧ sF N s0 3 + nights ≤ 14 ∧ sF N s0 2 + sF N s0 3 - 1 + nights ≤ N 0 + 365 ∧ sF N s0 2 + sF N s0 3 - 1 + nights < 36525)) (bI ((0 ≤ s0 ∧ s0 ≤ N 5 - 1) ∧ (sF N s0 0 = 0 ∨ sF N s0 0 = 1))))) hm (by first | omega | exact bI_in _) (by first | omega | exact bI_in _) (by first | omega | exact bI_in _) (fit_eq (by first | rfl | exact (bI_t (by omega)).symm | exact (bI_f (by omega)).symm) (by first | rfl | exact (bI_t (by omega)).symm | exact (bI_f (by omega)).symm) (by first | rfl | exact (bI_t (by omega)).symm | exact (bI_f (by omega)).symm))) rfl hm.1.1 (by decide) rfl (Nat.le_of_ble_eq_true rfl) (RR rfl rfl rfl rfl) (fun z V75 e75 => ?_)
              have hm75 := gMd_o hm e75 (Or.inr ⟨rfl, by decide⟩)
              have h275 : V75 b 2 = V b 2 := by rw [e75, up_ne _ _ (Or.inr (by decide))]
              refine g_if_ne hC 83 dX12_longer_78 rfl (by first | omega | exact bI_in _) (fun c78 => ?_) (fun c78 => ?_)
              · exact absurd (bI_n0.mp c78) (fit_n3 (by first | rfl | exact bI_f (by omega)))
              · have cF := bI_0.mp c78
                refine gB hC _ _ _ _ _ _ _ qX12_longer_81 rfl ?_
                refine g_ireturn hC dX12_longer_82 hr ⟨?_, rfl, ?_, ?_⟩ gs_rfl ⟨Nat.le_of_ble_eq_true rfl, Nat.le_of_ble_eq_true rfl⟩
                · rw [if_neg cF]
                · rw [if_neg cF]; exact e75
                · rw [if_neg cF]; decide
            · have c67 := bI_n0.mp c67
              refine gB hC _ _ _ _ _ _ _ qX12_longer_70 rfl ?_
              refine g_cV1m hC dX12_longer_75 mX12_111 vX12_fits (kX12_fitsC (C := (fitC (bI (0 ≤ s0 ∧ s0 ≤ N 5 - 1)) (bI ((0 ≤ s0 ∧ s0 ≤ N 5 - 1) ∧ (1 ≤ nights ∧ nights ≤ 13) ∧ sF N s0 3 + nights ≤ 14 ∧ sF N s0 2 + sF N s0 3 - 1 + nights ≤ N 0 + 365 ∧ sF N s0 2 + sF N s0 3 - 1 + nights < 36525)) (bI ((0 ≤ s0 ∧ s0 ≤ N 5 - 1) ∧ (sF N s0 0 = 0 ∨ sF N s0 0 = 1))))) hm (by first | omega | exact bI_in _) (by first | omega | exact bI_in _) (by first | omega | exact bI_in _) (fit_eq (by first | rfl | exact (bI_t (by omega)).symm | exact (bI_f (by omega)).symm) (by first | rfl | exact (bI_t (by omega)).symm | exact (bI_f (by omega)).symm) (by first | rfl | exact (bI_t (by omega)).symm | exact (bI_f (by omega)).symm))) rfl hm.1.1 (by decide) rfl (Nat.le_of_ble_eq_true rfl) (RR rfl rfl rfl rfl) (fun z V75 e75 => ?_)
              have hm75 := gMd_o hm e75 (Or.inr ⟨rfl, by decide⟩)
              have h275 : V75 b 2 = V b 2 := by rw [e75, up_ne _ _ (Or.inr (by decide))]
              refine g_if_ne hC 83 dX12_longer_78 rfl (by first | omega | exact bI_in _) (fun c78 => ?_) (fun c78 => ?_)
              · have cF := bI_n0.mp c78
                have hp1 := fit_p1 cF
                have hp2 := fit_p2 cF
                have hp3 := fit_p3 cF
                have hsk := hI.1.2.2.2.1 s0 hp1.1 (by omega)
                have hs1 := hsk.1
                have hpr := sPr_in hsk
                have hrs := rfs_in N (sF N s0 1) (sF N s0 2 + sF N s0 3) nights (by omega) (by omega)
                refine gB hC _ _ _ _ _ _ _ qX12_longer_83 rfl ?_
                refine g_cV0m hC dX12_longer_84 mX12_115 vX12_keeps (kX12_keeps hm75 (by omega) (by omega)) rfl hm75.1.1 (by decide) rfl (Nat.le_of_ble_eq_true rfl) (RR rfl rfl rfl rfl) (fun z V84 e84 => ?_)
                have hm84 := gMd_kp hm75 e84
                refine gB hC _ _ _ _ _ _ _ qX12_longer_87 rfl ?_
                refine g_cV1i hC dX12_longer_90 mX12_43 vX12_of (kX12_of hm84 (by omega) (by omega)) rfl hm84.1.1 (by decide) rfl (Nat.le_of_ble_eq_true rfl) (RR rfl rfl rfl rfl) (fun z i90 => ?_)
                refine gB hC _ _ _ _ _ _ _ qX12_longer_93 rfl ?_
                refine g_cV1i hC dX12_longer_97 mX12_46 vX12_last (kX12_last hm84 (by omega) (by omega) (by omega)) rfl hm84.1.1 (by decide) rfl (Nat.le_of_ble_eq_true rfl) (RR rfl rfl rfl rfl) (fun z i97 => ?_)
                refine gB hC _ _ _ _ _ _ _ qX12_longer_100 rfl ?_
                rw [show sF N s0 2 + sF N s0 3 - 1 + 1 = sF N s0 2 + sF N s0 3 by omega]
                refine g_cV1i hC dX12_longer_110 mX12_77 vX12_refusing (kX12_refusing hm84 hI.1 (by omega) (by omega) (by omega) (by omega) (by omega)) rfl hm84.1.1 (by decide) rfl (Nat.le_of_ble_eq_true rfl) (RR rfl rfl rfl rfl) (fun z i110 => ?_)
                refine gB hC _ _ _ _ _ _ _ qX12_longer_113 rfl ?_
                refine g_icmp_eq hC 135 dX12_longer_118 rfl (by first | omega | exact bI_in _) (by first | omega | exact bI_in _) (fun c118 => ?_) (fun c118 => ?_)
                · have hrz : rfs N (sF N s0 1) (sF N s0 2 + sF N s0 3) nights = -1 := by omega
                  have hhad := rfsT_had (N := N) (k := sF N s0 1) nights.toNat (sF N s0 2 + sF N s0 3) hrz (by omega)
                  have hsn := snT_in hI.1 (k := sF N s0 1) (first := (sF N s0 2 + sF N s0 3)) (by omega) (by omega) nights.toNat hhad
                  refine gB hC _ _ _ _ _ _ _ qX12_longer_135 rfl ?_
                  have hV0 : V84 = wrN V84 b (prP N (56 + s0 * 24 + 10 + sF N s0 3) (sF N s0 1) (sF N s0 2 + sF N s0 3) 0) := by rw [prP_0]; exact wrN_self hm84
                  rw [hV0]
                  refine g_loop (fun x : Nat × aV => (x.1 : Int) ≤ nights) (fun x => (nights - (x.1 : Int)).toNat) 141 (fun x => [(2, b), (0, s0), (0, nights), _, _, _, _, _, (0, snT N (sF N s0 1) (sF N s0 2 + sF N s0 3) x.1), (0, (x.1 : Int)), x.2]) (fun x => wrN V84 b (prP N (56 + s0 * 24 + 10 + sF N s0 3) (sF N s0 1) (sF N s0 2 + sF N s0 3) (x.1 : Int))) (0, (9, 0)) (by show (0 : Int) ≤ nights; omega) ?_
                  rintro ⟨n, a10⟩ z hn8 ih
                  dsimp only at hn8 ih ⊢
                  have hwn : gMw b V84 (prP N (56 + s0 * 24 + 10 + sF N s0 3) (sF N s0 1) (sF N s0 2 + sF N s0 3) n) Sh (wrN V84 b (prP N (56 + s0 * 24 + 10 + sF N s0 3) (sF N s0 1) (sF N s0 2 + sF N s0 3) n)) := ⟨gMd_w hm84 rfl, rfl⟩
                  have hag := prP_r (N := N) (s := s0) (k := sF N s0 1) (first := (sF N s0 2 + sF N s0 3)) (n := n) (by omega) (by omega) (by omega)
                  have hIn : InvC (prP N (56 + s0 * 24 + 10 + sF N s0 3) (sF N s0 1) (sF N s0 2 + sF N s0 3) n) := InvC_s (prP_s (by omega) (by omega) (by omega)) (by omega) (by omega) hI.1 (prP_sOk hsk (by omega))
                  have en1 : prP N (56 + s0 * 24 + 10 + sF N s0 3) (sF N s0 1) (sF N s0 2 + sF N s0 3) n 1 = N 1 := hag.1 1 (by decide)
                  have enp := nPr_r hag hI.1 (k := sF N s0 1) (by omega) (by omega) ((sF N s0 2 + sF N s0 3) + n)
                  have e3 := hag.2 s0 3 (by omega) (by omega) (by decide) (by decide)
                  refine gB hC _ _ _ _ _ _ _ qX12_longer_141 rfl ?_
                  refine g_icmp_ge hC 192 dX12_longer_144 rfl (by first | omega | exact bI_in _) (by first | omega | exact bI_in _) (fun c144 => ?_) (fun c144 => ?_)
                  · have hnn : (n : Int) = nights := by omega
                    refine gB hC _ _ _ _ _ _ _ qX12_longer_192 rfl ?_
                    refine g_cV1i hC dX12_longer_198 mX12_43 vX12_of (kX12_of hwn.1 (by omega) (by omega)) rfl hwn.1.1.1 (by decide) rfl (Nat.le_of_ble_eq_true rfl) (RR rfl rfl rfl rfl) (fun z i198 => ?_)
                    rw [e3]
                    refine gB hC _ _ _ _ _ _ _ qX12_longer_201 rfl ?_
                    refine g_cV0m hC dX12_longer_203 mX12_90 vX12_lays (kX12_lays hwn.1 (by omega) (by omega) (by first | omega | exact bI_in _)) rfl hwn.1.1.1 (by decide) rfl (Nat.le_of_ble_eq_true rfl) (RR rfl rfl rfl rfl) (fun z V203 e203 => ?_)
                    have hw203 := gMw_wr hwn e203
                    refine gB hC _ _ _ _ _ _ _ qX12_longer_206 rfl ?_
                    refine g_ireturn hC dX12_longer_208 hr ⟨?_, rfl, ?_, ?_⟩ gs_rfl ⟨Nat.le_of_ble_eq_true rfl, Nat.le_of_ble_eq_true rfl⟩
                    · rw [if_pos cF]
                      first | (rw [if_pos (by omega)]; done) | (rw [if_neg (by omega)]; done) | (rw [if_pos (by omega), show nights.toNat = n by omega])
                    · rw [if_pos cF, hw203.2, e84, e75, cF]
                      first | (rw [if_pos (by omega), hnn]; rfl) | rw [if_neg (by omega)]
                    · rw [if_pos cF]
                      split <;> omega
                  · refine gB hC _ _ _ _ _ _ _ qX12_longer_147 rfl ?_
                    refine g_cV1i hC dX12_longer_155 mX12_87 vX12_nightPrice (kX12_nightPrice hwn.1 hIn (by omega) (by rw [en1]; omega) (by omega) (by omega)) rfl hwn.1.1.1 (by decide) rfl (Nat.le_of_ble_eq_true rfl) (RR rfl rfl rfl rfl) (fun z i155 => ?_)
                    rw [enp] at i155
                    rw [enp]
                    refine gB hC _ _ _ _ _ _ _ qX12_longer_158 rfl ?_
                    refine g_cV1i hC dX12_longer_167 mX12_43 vX12_of (kX12_of hwn.1 (by omega) (by omega)) rfl hwn.1.1.1 (by decide) rfl (Nat.le_of_ble_eq_true rfl) (RR rfl rfl rfl rfl) (fun z i167 => ?_)
                    refine gB hC _ _ _ _ _ _ _ qX12_longer_170 rfl ?_
                    refine g_cV0m hC dX12_longer_176 mX12_90 vX12_lays (kX12_lays hwn.1 (by omega) (by omega) (by first | omega | exact bI_in _)) rfl hwn.1.1.1 (by decide) rfl (Nat.le_of_ble_eq_true rfl) (RR rfl rfl rfl rfl) (fun z V176 e176 => ?_)
                    have hw176 := gMw_wr hwn e176
                    refine gB hC _ _ _ _ _ _ _ qX12_longer_179 rfl ?_
                    rw [hw176.2, prP_next _ _ _ _ _ (by omega) (by omega)]
                    exact ih (n + 1, _) z (by show ((n + 1 : Nat) : Int) ≤ nights; omega) (by show (nights - ((n + 1 : Nat) : Int)).toNat < (nights - (n : Int)).toNat; omega)
                · refine gB hC _ _ _ _ _ _ _ qX12_longer_121 rfl ?_
                  refine g_getr hC dX12_longer_122 fX12_9 hm84.1.1 (by decide) rfl 0 rfl hm84.2.1.1 ?_
                  refine gB hC _ _ _ _ _ _ _ qX12_longer_125 rfl ?_
                  refine g_cS1i hC dX12_longer_129 mX12_66 sX12_dateOf (kX12_dateOf (by omega) (by omega)) rfl rfl (Nat.le_of_ble_eq_true rfl) (RR rfl rfl rfl rfl) (fun z i129 => ?_)
                  refine g_ast hC dX12_longer_132 hm84.1.2.1 (by omega) (by omega) (by decide) (by first | omega | exact bI_in _) (fun V132 e132 => ?_)
                  have hw132 := gMw_up (gMw_in hm84) e132
                  refine gB hC _ _ _ _ _ _ _ qX12_longer_133 rfl ?_
                  refine g_ireturn hC dX12_longer_134 hr ⟨?_, rfl, ?_, ?_⟩ gs_rfl ⟨Nat.le_of_ble_eq_true rfl, Nat.le_of_ble_eq_true rfl⟩
                  · rw [if_pos cF]
                    first | (rw [if_pos (by omega)]; done) | (rw [if_neg (by omega)]; done) | (rw [if_pos (by omega), show nights.toNat = n by omega])
                  · rw [if_pos cF, hw132.2, e84, e75, cF]
                    first | (rw [if_pos (by omega), hnn]; rfl) | rw [if_neg (by omega)]
                  · rw [if_pos cF]
                    split <;> omega
              · have cF := bI_0.mp c78
                refine gB hC _ _ _ _ _ _ _ qX12_longer_81 rfl ?_
                refine g_ireturn hC dX12_longer_82 hr ⟨?_, rfl, ?_, ?_⟩ gs_rfl ⟨Nat.le_of_ble_eq_true rfl, Nat.le_of_ble_eq_true rfl⟩
                · rw [if_neg cF]
                · rw [if_neg cF]; exact e75
                · rw [if_neg cF]; decide

theorem kX12_shorter {E l Sh V z} {b : Int} {N : gN0} {s0 nights : Int} (hm : gMd b N Sh V) (hI : INV N) (hv0 : 0 ≤ V b 2) (hv1 : V b 2 ≤ 6) (hk : inI s0) (hn : inI nights) : gM E l yX12_shorter (.code yX12_shorter cX12_shorter 8 (some .int)) (rmk 8 0 0 200) [(2, b), (0, s0), (0, nights)] Sh V z (gRi (if (fitC (bI (0 ≤ s0 ∧ s0 ≤ N 5 - 1)) (bI ((0 ≤ s0 ∧ s0 ≤ N 5 - 1) ∧ (1 ≤ nights ∧ nights ≤ 13) ∧ nights < sF N s0 3 ∧ N 0 ≤ sF N s0 2 + sF N s0 3 - 1 - nights + 1)) (bI ((0 ≤ s0 ∧ s0 ≤ N 5 - 1) ∧ (sF N s0 0 = 0 ∨ sF N s0 0 = 1)))) = 0 then sPr N s0 - sPr (shN N s0 nights) s0 else 0) Sh (if (fitC (bI (0 ≤ s0 ∧ s0 ≤ N 5 - 1)) (bI ((0 ≤ s0 ∧ s0 ≤ N 5 - 1) ∧ (1 ≤ nights ∧ nights ≤ 13) ∧ nights < sF N s0 3 ∧ N 0 ≤ sF N s0 2 + sF N s0 3 - 1 - nights + 1)) (bI ((0 ≤ s0 ∧ s0 ≤ N 5 - 1) ∧ (sF N s0 0 = 0 ∨ sF N s0 0 = 1)))) = 0 then wrN (kpV (up V b 3 0) b) b ((lk (shN N s0 nights)).1) else up V b 3 (fitC (bI (0 ≤ s0 ∧ s0 ≤ N 5 - 1)) (bI ((0 ≤ s0 ∧ s0 ≤ N 5 - 1) ∧ (1 ≤ nights ∧ nights ≤ 13) ∧ nights < sF N s0 3 ∧ N 0 ≤ sF N s0 2 + sF N s0 3 - 1 - nights + 1)) (bI ((0 ≤ s0 ∧ s0 ≤ N 5 - 1) ∧ (sF N s0 0 = 0 ∨ sF N s0 0 = 1)))))) := by
  refine gM_at (L0 := [(2, b), (0, s0), (0, nights), (9, 0), (9, 0), (9, 0), (9, 0), (9, 0)]) rfl rfl rfl ?_
  intro p e s m args below meth c hC hr hex hnm hz
  have hsc := hI.1.1
  unfold iScal at hsc
  refine gB hC _ _ _ _ _ _ _ qX12_shorter_0 rfl ?_
  refine g_cV1 hC dX12_shorter_2 mX12_143 vX12_isStay (kX12_isStay hm (by omega) (by omega)) rfl hm.1.1 (by decide) rfl (Nat.le_of_ble_eq_true rfl) (RR rfl rfl rfl rfl) (fun z => ?_)
  refine gB hC _ _ _ _ _ _ _ qX12_shorter_5 rfl ?_
  refine g_if_eq hC 52 dX12_shorter_7 rfl (by first | omega | exact bI_in _) (fun c7 => ?_) (fun c7 => ?_)
  · have c7 := bI_0.mp c7
    refine gB hC _ _ _ _ _ _ _ qX12_shorter_52 rfl ?_
    refine gB hC _ _ _ _ _ _ _ qX12_shorter_53 rfl ?_
    refine g_if_eq hC 75 dX12_shorter_60 rfl (by first | omega | exact bI_in _) (fun c60 => ?_) (fun c60 => ?_)
    · have c60 := bI_0.mp c60
      refine gB hC _ _ _ _ _ _ _ qX12_shorter_75 rfl ?_
      refine g_cV1m hC dX12_shorter_76 mX12_111 vX12_fits (kX12_fitsC (C := (fitC (bI (0 ≤ s0 ∧ s0 ≤ N 5 - 1)) (bI ((0 ≤ s0 ∧ s0 ≤ N 5 - 1) ∧ (1 ≤ nights ∧ nights ≤ 13) ∧ nights < sF N s0 3 ∧ N 0 ≤ sF N s0 2 + sF N s0 3 - 1 - nights + 1)) (bI ((0 ≤ s0 ∧ s0 ≤ N 5 - 1) ∧ (sF N s0 0 = 0 ∨ sF N s0 0 = 1))))) hm (by first | omega | exact bI_in _) (by first | omega | exact bI_in _) (by first | omega | exact bI_in _) (fit_eq (by first | rfl | exact (bI_t (by omega)).symm | exact (bI_f (by omega)).symm) (by first | rfl | exact (bI_t (by omega)).symm | exact (bI_f (by omega)).symm) (by first | rfl | exact (bI_t (by omega)).symm | exact (bI_f (by omega)).symm))) rfl hm.1.1 (by decide) rfl (Nat.le_of_ble_eq_true rfl) (RR rfl rfl rfl rfl) (fun z V76 e76 => ?_)
      have hm76 := gMd_o hm e76 (Or.inr ⟨rfl, by decide⟩)
      have h276 : V76 b 2 = V b 2 := by rw [e76, up_ne _ _ (Or.inr (by decide))]
      refine g_if_ne hC 84 dX12_shorter_79 rfl (by first | omega | exact bI_in _) (fun c79 => ?_) (fun c79 => ?_)
      · exact absurd (bI_n0.mp c79) (fit_n2 (by first | rfl | exact bI_f (by omega)))
      · have cF := bI_0.mp c79
        refine gB hC _ _ _ _ _ _ _ qX12_shorter_82 rfl ?_
        refine g_ireturn hC dX12_shorter_83 hr ⟨?_, rfl, ?_, ?_⟩ gs_rfl ⟨Nat.le_of_ble_eq_true rfl, Nat.le_of_ble_eq_true rfl⟩
        · rw [if_neg cF]
        · rw [if_neg cF]; exact e76
        · rw [if_neg cF]; decide
    · have c60 := bI_n0.mp c60
      refine gB hC _ _ _ _ _ _ _ qX12_shorter_63 rfl ?_
      refine g_cV1 hC dX12_shorter_65 mX12_49 vX12_isAlive (kX12_isAlive hm (by omega) (by omega)) rfl hm.1.1 (by decide) rfl (Nat.le_of_ble_eq_true rfl) (RR rfl rfl rfl rfl) (fun z => ?_)
      refine g_if_eq hC 75 dX12_shorter_68 rfl (by first | omega | exact bI_in _) (fun c68 => ?_) (fun c68 => ?_)
      · have c68 := bI_0.mp c68
        refine gB hC _ _ _ _ _ _ _ qX12_shorter_75 rfl ?_
        refine g_cV1m hC dX12_shorter_76 mX12_111 vX12_fits (kX12_fitsC (C := (fitC (bI (0 ≤ s0 ∧ s0 ≤ N 5 - 1)) (bI ((0 ≤ s0 ∧ s0 ≤ N 5 - 1) ∧ (1 ≤ nights ∧ nights ≤ 13) ∧ nights < sF N s0 3 ∧ N 0 ≤ sF N s0 2 + sF N s0 3 - 1 - nights + 1)) (bI ((0 ≤ s0 ∧ s0 ≤ N 5 - 1) ∧ (sF N s0 0 = 0 ∨ sF N s0 0 = 1))))) hm (by first | omega | exact bI_in _) (by first | omega | exact bI_in _) (by first | omega | exact bI_in _) (fit_eq (by first | rfl | exact (bI_t (by omega)).symm | exact (bI_f (by omega)).symm) (by first | rfl | exact (bI_t (by omega)).symm | exact (bI_f (by omega)).symm) (by first | rfl | exact (bI_t (by omega)).symm | exact (bI_f (by omega)).symm))) rfl hm.1.1 (by decide) rfl (Nat.le_of_ble_eq_true rfl) (RR rfl rfl rfl rfl) (fun z V76 e76 => ?_)
        have hm76 := gMd_o hm e76 (Or.inr ⟨rfl, by decide⟩)
        have h276 : V76 b 2 = V b 2 := by rw [e76, up_ne _ _ (Or.inr (by decide))]
        refine g_if_ne hC 84 dX12_shorter_79 rfl (by first | omega | exact bI_in _) (fun c79 => ?_) (fun c79 => ?_)
        · exact absurd (bI_n0.mp c79) (fit_n2 (by first | rfl | exact bI_f (by omega)))
        · have cF := bI_0.mp c79
          refine gB hC _ _ _ _ _ _ _ qX12_shorter_82 rfl ?_
          refine g_ireturn hC dX12_shorter_83 hr ⟨?_, rfl, ?_, ?_⟩ gs_rfl ⟨Nat.le_of_ble_eq_true rfl, Nat.le_of_ble_eq_true rfl⟩
          · rw [if_neg cF]
          · rw [if_neg cF]; exact e76
          · rw [if_neg cF]; decide
      · have c68 := bI_n0.mp c68
        refine gB hC _ _ _ _ _ _ _ qX12_shorter_71 rfl ?_
        refine g_cV1m hC dX12_shorter_76 mX12_111 vX12_fits (kX12_fitsC (C := (fitC (bI (0 ≤ s0 ∧ s0 ≤ N 5 - 1)) (bI ((0 ≤ s0 ∧ s0 ≤ N 5 - 1) ∧ (1 ≤ nights ∧ nights ≤ 13) ∧ nights < sF N s0 3 ∧ N 0 ≤ sF N s0 2 + sF N s0 3 - 1 - nights + 1)) (bI ((0 ≤ s0 ∧ s0 ≤ N 5 - 1) ∧ (sF N s0 0 = 0 ∨ sF N s0 0 = 1))))) hm (by first | omega | exact bI_in _) (by first | omega | exact bI_in _) (by first | omega | exact bI_in _) (fit_eq (by first | rfl | exact (bI_t (by omega)).symm | exact (bI_f (by omega)).symm) (by first | rfl | exact (bI_t (by omega)).symm | exact (bI_f (by omega)).symm) (by first | rfl | exact (bI_t (by omega)).symm | exact (bI_f (by omega)).symm))) rfl hm.1.1 (by decide) rfl (Nat.le_of_ble_eq_true rfl) (RR rfl rfl rfl rfl) (fun z V76 e76 => ?_)
        have hm76 := gMd_o hm e76 (Or.inr ⟨rfl, by decide⟩)
        have h276 : V76 b 2 = V b 2 := by rw [e76, up_ne _ _ (Or.inr (by decide))]
        refine g_if_ne hC 84 dX12_shorter_79 rfl (by first | omega | exact bI_in _) (fun c79 => ?_) (fun c79 => ?_)
        · exact absurd (bI_n0.mp c79) (fit_n2 (by first | rfl | exact bI_f (by omega)))
        · have cF := bI_0.mp c79
          refine gB hC _ _ _ _ _ _ _ qX12_shorter_82 rfl ?_
          refine g_ireturn hC dX12_shorter_83 hr ⟨?_, rfl, ?_, ?_⟩ gs_rfl ⟨Nat.le_of_ble_eq_true rfl, Nat.le_of_ble_eq_true rfl⟩
          · rw [if_neg cF]
          · rw [if_neg cF]; exact e76
          · rw [if_neg cF]; decide
  · have c7 := bI_n0.mp c7
    refine gB hC _ _ _ _ _ _ _ qX12_shorter_10 rfl ?_
    refine g_cS1 hC dX12_shorter_14 mX12_35 sX12_in (kX12_in (by omega) (by omega) (by omega)) rfl rfl (Nat.le_of_ble_eq_true rfl) (RR rfl rfl rfl rfl) (fun z => ?_)
    refine g_if_eq hC 52 dX12_shorter_17 rfl (by first | omega | exact bI_in _) (fun c17 => ?_) (fun c17 => ?_)
    · have c17 := bI_0.mp c17
      refine gB hC _ _ _ _ _ _ _ qX12_shorter_52 rfl ?_
      refine gB hC _ _ _ _ _ _ _ qX12_shorter_53 rfl ?_
      refine g_if_eq hC 75 dX12_shorter_60 rfl (by first | omega | exact bI_in _) (fun c60 => ?_) (fun c60 => ?_)
      · have c60 := bI_0.mp c60
        refine gB hC _ _ _ _ _ _ _ qX12_shorter_75 rfl ?_
        refine g_cV1m hC dX12_shorter_76 mX12_111 vX12_fits (kX12_fitsC (C := (fitC (bI (0 ≤ s0 ∧ s0 ≤ N 5 - 1)) (bI ((0 ≤ s0 ∧ s0 ≤ N 5 - 1) ∧ (1 ≤ nights ∧ nights ≤ 13) ∧ nights < sF N s0 3 ∧ N 0 ≤ sF N s0 2 + sF N s0 3 - 1 - nights + 1)) (bI ((0 ≤ s0 ∧ s0 ≤ N 5 - 1) ∧ (sF N s0 0 = 0 ∨ sF N s0 0 = 1))))) hm (by first | omega | exact bI_in _) (by first | omega | exact bI_in _) (by first | omega | exact bI_in _) (fit_eq (by first | rfl | exact (bI_t (by omega)).symm | exact (bI_f (by omega)).symm) (by first | rfl | exact (bI_t (by omega)).symm | exact (bI_f (by omega)).symm) (by first | rfl | exact (bI_t (by omega)).symm | exact (bI_f (by omega)).symm))) rfl hm.1.1 (by decide) rfl (Nat.le_of_ble_eq_true rfl) (RR rfl rfl rfl rfl) (fun z V76 e76 => ?_)
        have hm76 := gMd_o hm e76 (Or.inr ⟨rfl, by decide⟩)
        have h276 : V76 b 2 = V b 2 := by rw [e76, up_ne _ _ (Or.inr (by decide))]
        refine g_if_ne hC 84 dX12_shorter_79 rfl (by first | omega | exact bI_in _) (fun c79 => ?_) (fun c79 => ?_)
        · exact absurd (bI_n0.mp c79) (fit_n2 (by first | rfl | exact bI_f (by omega)))
        · have cF := bI_0.mp c79
          refine gB hC _ _ _ _ _ _ _ qX12_shorter_82 rfl ?_
          refine g_ireturn hC dX12_shorter_83 hr ⟨?_, rfl, ?_, ?_⟩ gs_rfl ⟨Nat.le_of_ble_eq_true rfl, Nat.le_of_ble_eq_true rfl⟩
          · rw [if_neg cF]
          · rw [if_neg cF]; exact e76
          · rw [if_neg cF]; decide
      · have c60 := bI_n0.mp c60
        refine gB hC _ _ _ _ _ _ _ qX12_shorter_63 rfl ?_
        refine g_cV1 hC dX12_shorter_65 mX12_49 vX12_isAlive (kX12_isAlive hm (by omega) (by omega)) rfl hm.1.1 (by decide) rfl (Nat.le_of_ble_eq_true rfl) (RR rfl rfl rfl rfl) (fun z => ?_)
        refine g_if_eq hC 75 dX12_shorter_68 rfl (by first | omega | exact bI_in _) (fun c68 => ?_) (fun c68 => ?_)
        · have c68 := bI_0.mp c68
          refine gB hC _ _ _ _ _ _ _ qX12_shorter_75 rfl ?_
          refine g_cV1m hC dX12_shorter_76 mX12_111 vX12_fits (kX12_fitsC (C := (fitC (bI (0 ≤ s0 ∧ s0 ≤ N 5 - 1)) (bI ((0 ≤ s0 ∧ s0 ≤ N 5 - 1) ∧ (1 ≤ nights ∧ nights ≤ 13) ∧ nights < sF N s0 3 ∧ N 0 ≤ sF N s0 2 + sF N s0 3 - 1 - nights + 1)) (bI ((0 ≤ s0 ∧ s0 ≤ N 5 - 1) ∧ (sF N s0 0 = 0 ∨ sF N s0 0 = 1))))) hm (by first | omega | exact bI_in _) (by first | omega | exact bI_in _) (by first | omega | exact bI_in _) (fit_eq (by first | rfl | exact (bI_t (by omega)).symm | exact (bI_f (by omega)).symm) (by first | rfl | exact (bI_t (by omega)).symm | exact (bI_f (by omega)).symm) (by first | rfl | exact (bI_t (by omega)).symm | exact (bI_f (by omega)).symm))) rfl hm.1.1 (by decide) rfl (Nat.le_of_ble_eq_true rfl) (RR rfl rfl rfl rfl) (fun z V76 e76 => ?_)
          have hm76 := gMd_o hm e76 (Or.inr ⟨rfl, by decide⟩)
          have h276 : V76 b 2 = V b 2 := by rw [e76, up_ne _ _ (Or.inr (by decide))]
          refine g_if_ne hC 84 dX12_shorter_79 rfl (by first | omega | exact bI_in _) (fun c79 => ?_) (fun c79 => ?_)
          · exact absurd (bI_n0.mp c79) (fit_n2 (by first | rfl | exact bI_f (by omega)))
          · have cF := bI_0.mp c79
            refine gB hC _ _ _ _ _ _ _ qX12_shorter_82 rfl ?_
            refine g_ireturn hC dX12_shorter_83 hr ⟨?_, rfl, ?_, ?_⟩ gs_rfl ⟨Nat.le_of_ble_eq_true rfl, Nat.le_of_ble_eq_true rfl⟩
            · rw [if_neg cF]
            · rw [if_neg cF]; exact e76
            · rw [if_neg cF]; decide
        · have c68 := bI_n0.mp c68
          refine gB hC _ _ _ _ _ _ _ qX12_shorter_71 rfl ?_
          refine g_cV1m hC dX12_shorter_76 mX12_111 vX12_fits (kX12_fitsC (C := (fitC (bI (0 ≤ s0 ∧ s0 ≤ N 5 - 1)) (bI ((0 ≤ s0 ∧ s0 ≤ N 5 - 1) ∧ (1 ≤ nights ∧ nights ≤ 13) ∧ nights < sF N s0 3 ∧ N 0 ≤ sF N s0 2 + sF N s0 3 - 1 - nights + 1)) (bI ((0 ≤ s0 ∧ s0 ≤ N 5 - 1) ∧ (sF N s0 0 = 0 ∨ sF N s0 0 = 1))))) hm (by first | omega | exact bI_in _) (by first | omega | exact bI_in _) (by first | omega | exact bI_in _) (fit_eq (by first | rfl | exact (bI_t (by omega)).symm | exact (bI_f (by omega)).symm) (by first | rfl | exact (bI_t (by omega)).symm | exact (bI_f (by omega)).symm) (by first | rfl | exact (bI_t (by omega)).symm | exact (bI_f (by omega)).symm))) rfl hm.1.1 (by decide) rfl (Nat.le_of_ble_eq_true rfl) (RR rfl rfl rfl rfl) (fun z V76 e76 => ?_)
          have hm76 := gMd_o hm e76 (Or.inr ⟨rfl, by decide⟩)
          have h276 : V76 b 2 = V b 2 := by rw [e76, up_ne _ _ (Or.inr (by decide))]
          refine g_if_ne hC 84 dX12_shorter_79 rfl (by first | omega | exact bI_in _) (fun c79 => ?_) (fun c79 => ?_)
          · exact absurd (bI_n0.mp c79) (fit_n2 (by first | rfl | exact bI_f (by omega)))
          · have cF := bI_0.mp c79
            refine gB hC _ _ _ _ _ _ _ qX12_shorter_82 rfl ?_
            refine g_ireturn hC dX12_shorter_83 hr ⟨?_, rfl, ?_, ?_⟩ gs_rfl ⟨Nat.le_of_ble_eq_true rfl, Nat.le_of_ble_eq_true rfl⟩
            · rw [if_neg cF]
            · rw [if_neg cF]; exact e76
            · rw [if_neg cF]; decide
    · have c17 := bI_n0.mp c17
      have hsq := (hI.1.2.2.2.1 s0 (by omega) (by omega)).1
      refine gB hC _ _ _ _ _ _ _ qX12_shorter_20 rfl ?_
      refine g_cV1i hC dX12_shorter_24 mX12_43 vX12_of (kX12_of hm (by omega) (by omega)) rfl hm.1.1 (by decide) rfl (Nat.le_of_ble_eq_true rfl) (RR rfl rfl rfl rfl) (fun z i24 => ?_)
      refine g_icmp_ge hC 52 dX12_shorter_27 rfl (by first | omega | exact bI_in _) (by first | omega | exact bI_in _) (fun c27 => ?_) (fun c27 => ?_)
      · refine gB hC _ _ _ _ _ _ _ qX12_shorter_52 rfl ?_
        refine gB hC _ _ _ _ _ _ _ qX12_shorter_53 rfl ?_
        refine g_if_eq hC 75 dX12_shorter_60 rfl (by first | omega | exact bI_in _) (fun c60 => ?_) (fun c60 => ?_)
        · have c60 := bI_0.mp c60
          refine gB hC _ _ _ _ _ _ _ qX12_shorter_75 rfl ?_
          refine g_cV1m hC dX12_shorter_76 mX12_111 vX12_fits (kX12_fitsC (C := (fitC (bI (0 ≤ s0 ∧ s0 ≤ N 5 - 1)) (bI ((0 ≤ s0 ∧ s0 ≤ N 5 - 1) ∧ (1 ≤ nights ∧ nights ≤ 13) ∧ nights < sF N s0 3 ∧ N 0 ≤ sF N s0 2 + sF N s0 3 - 1 - nights + 1)) (bI ((0 ≤ s0 ∧ s0 ≤ N 5 - 1) ∧ (sF N s0 0 = 0 ∨ sF N s0 0 = 1))))) hm (by first | omega | exact bI_in _) (by first | omega | exact bI_in _) (by first | omega | exact bI_in _) (fit_eq (by first | rfl | exact (bI_t (by omega)).symm | exact (bI_f (by omega)).symm) (by first | rfl | exact (bI_t (by omega)).symm | exact (bI_f (by omega)).symm) (by first | rfl | exact (bI_t (by omega)).symm | exact (bI_f (by omega)).symm))) rfl hm.1.1 (by decide) rfl (Nat.le_of_ble_eq_true rfl) (RR rfl rfl rfl rfl) (fun z V76 e76 => ?_)
          have hm76 := gMd_o hm e76 (Or.inr ⟨rfl, by decide⟩)
          have h276 : V76 b 2 = V b 2 := by rw [e76, up_ne _ _ (Or.inr (by decide))]
          refine g_if_ne hC 84 dX12_shorter_79 rfl (by first | omega | exact bI_in _) (fun c79 => ?_) (fun c79 => ?_)
          · exact absurd (bI_n0.mp c79) (fit_n2 (by first | rfl | exact bI_f (by omega)))
          · have cF := bI_0.mp c79
            refine gB hC _ _ _ _ _ _ _ qX12_shorter_82 rfl ?_
            refine g_ireturn hC dX12_shorter_83 hr ⟨?_, rfl, ?_, ?_⟩ gs_rfl ⟨Nat.le_of_ble_eq_true rfl, Nat.le_of_ble_eq_true rfl⟩
            · rw [if_neg cF]
            · rw [if_neg cF]; exact e76
            · rw [if_neg cF]; decide
        · have c60 := bI_n0.mp c60
          refine gB hC _ _ _ _ _ _ _ qX12_shorter_63 rfl ?_
          refine g_cV1 hC dX12_shorter_65 mX12_49 vX12_isAlive (kX12_isAlive hm (by omega) (by omega)) rfl hm.1.1 (by decide) rfl (Nat.le_of_ble_eq_true rfl) (RR rfl rfl rfl rfl) (fun z => ?_)
          refine g_if_eq hC 75 dX12_shorter_68 rfl (by first | omega | exact bI_in _) (fun c68 => ?_) (fun c68 => ?_)
          · have c68 := bI_0.mp c68
            refine gB hC _ _ _ _ _ _ _ qX12_shorter_75 rfl ?_
            refine g_cV1m hC dX12_shorter_76 mX12_111 vX12_fits (kX12_fitsC (C := (fitC (bI (0 ≤ s0 ∧ s0 ≤ N 5 - 1)) (bI ((0 ≤ s0 ∧ s0 ≤ N 5 - 1) ∧ (1 ≤ nights ∧ nights ≤ 13) ∧ nights < sF N s0 3 ∧ N 0 ≤ sF N s0 2 + sF N s0 3 - 1 - nights + 1)) (bI ((0 ≤ s0 ∧ s0 ≤ N 5 - 1) ∧ (sF N s0 0 = 0 ∨ sF N s0 0 = 1))))) hm (by first | omega | exact bI_in _) (by first | omega | exact bI_in _) (by first | omega | exact bI_in _) (fit_eq (by first | rfl | exact (bI_t (by omega)).symm | exact (bI_f (by omega)).symm) (by first | rfl | exact (bI_t (by omega)).symm | exact (bI_f (by omega)).symm) (by first | rfl | exact (bI_t (by omega)).symm | exact (bI_f (by omega)).symm))) rfl hm.1.1 (by decide) rfl (Nat.le_of_ble_eq_true rfl) (RR rfl rfl rfl rfl) (fun z V76 e76 => ?_)
            have hm76 := gMd_o hm e76 (Or.inr ⟨rfl, by decide⟩)
            have h276 : V76 b 2 = V b 2 := by rw [e76, up_ne _ _ (Or.inr (by decide))]
            refine g_if_ne hC 84 dX12_shorter_79 rfl (by first | omega | exact bI_in _) (fun c79 => ?_) (fun c79 => ?_)
            · exact absurd (bI_n0.mp c79) (fit_n2 (by first | rfl | exact bI_f (by omega)))
            · have cF := bI_0.mp c79
              refine gB hC _ _ _ _ _ _ _ qX12_shorter_82 rfl ?_
              refine g_ireturn hC dX12_shorter_83 hr ⟨?_, rfl, ?_, ?_⟩ gs_rfl ⟨Nat.le_of_ble_eq_true rfl, Nat.le_of_ble_eq_true rfl⟩
              · rw [if_neg cF]
              · rw [if_neg cF]; exact e76
              · rw [if_neg cF]; decide
          · have c68 := bI_n0.mp c68
            refine gB hC _ _ _ _ _ _ _ qX12_shorter_71 rfl ?_
            refine g_cV1m hC dX12_shorter_76 mX12_111 vX12_fits (kX12_fitsC (C := (fitC (bI (0 ≤ s0 ∧ s0 ≤ N 5 - 1)) (bI ((0 ≤ s0 ∧ s0 ≤ N 5 - 1) ∧ (1 ≤ nights ∧ nights ≤ 13) ∧ nights < sF N s0 3 ∧ N 0 ≤ sF N s0 2 + sF N s0 3 - 1 - nights + 1)) (bI ((0 ≤ s0 ∧ s0 ≤ N 5 - 1) ∧ (sF N s0 0 = 0 ∨ sF N s0 0 = 1))))) hm (by first | omega | exact bI_in _) (by first | omega | exact bI_in _) (by first | omega | exact bI_in _) (fit_eq (by first | rfl | exact (bI_t (by omega)).symm | exact (bI_f (by omega)).symm) (by first | rfl | exact (bI_t (by omega)).symm | exact (bI_f (by omega)).symm) (by first | rfl | exact (bI_t (by omega)).symm | exact (bI_f (by omega)).symm))) rfl hm.1.1 (by decide) rfl (Nat.le_of_ble_eq_true rfl) (RR rfl rfl rfl rfl) (fun z V76 e76 => ?_)
            have hm76 := gMd_o hm e76 (Or.inr ⟨rfl, by decide⟩)
            have h276 : V76 b 2 = V b 2 := by rw [e76, up_ne _ _ (Or.inr (by decide))]
            refine g_if_ne hC 84 dX12_shorter_79 rfl (by first | omega | exact bI_in _) (fun c79 => ?_) (fun c79 => ?_)
            · exact absurd (bI_n0.mp c79) (fit_n2 (by first | rfl | exact bI_f (by omega)))
            · have cF := bI_0.mp c79
              refine gB hC _ _ _ _ _ _ _ qX12_shorter_82 rfl ?_
              refine g_ireturn hC dX12_shorter_83 hr ⟨?_, rfl, ?_, ?_⟩ gs_rfl ⟨Nat.le_of_ble_eq_true rfl, Nat.le_of_ble_eq_true rfl⟩
              · rw [if_neg cF]
              · rw [if_neg cF]; exact e76
              · rw [if_neg cF]; decide
      · refine gB hC _ _ _ _ _ _ _ qX12_shorter_30 rfl ?_
        refine g_cV1i hC dX12_shorter_32 mX12_46 vX12_last (kX12_last hm (by omega) (by omega) (by omega)) rfl hm.1.1 (by decide) rfl (Nat.le_of_ble_eq_true rfl) (RR rfl rfl rfl rfl) (fun z i32 => ?_)
        refine gB hC _ _ _ _ _ _ _ qX12_shorter_35 rfl ?_
        refine g_getr hC dX12_shorter_40 fX12_9 hm.1.1 (by decide) rfl 0 rfl hm.2.1.1 ?_
        refine gB hC _ _ _ _ _ _ _ qX12_shorter_43 rfl ?_
        refine g_iald hC dX12_shorter_44 hm.1.2.1 (gMd_at hm _) (by omega) (by omega) (by decide) (fun i44 => ?_)
        refine g_icmp_lt hC 52 dX12_shorter_45 rfl (by first | omega | exact bI_in _) (by first | omega | exact bI_in _) (fun c45 => ?_) (fun c45 => ?_)
        · refine gB hC _ _ _ _ _ _ _ qX12_shorter_52 rfl ?_
          refine gB hC _ _ _ _ _ _ _ qX12_shorter_53 rfl ?_
          refine g_if_eq hC 75 dX12_shorter_60 rfl (by first | omega | exact bI_in _) (fun c60 => ?_) (fun c60 => ?_)
          · have c60 := bI_0.mp c60
            refine gB hC _ _ _ _ _ _ _ qX12_shorter_75 rfl ?_
            refine g_cV1m hC dX12_shorter_76 mX12_111 vX12_fits (kX12_fitsC (C := (fitC (bI (0 ≤ s0 ∧ s0 ≤ N 5 - 1)) (bI ((0 ≤ s0 ∧ s0 ≤ N 5 - 1) ∧ (1 ≤ nights ∧ nights ≤ 13) ∧ nights < sF N s0 3 ∧ N 0 ≤ sF N s0 2 + sF N s0 3 - 1 - nights + 1)) (bI ((0 ≤ s0 ∧ s0 ≤ N 5 - 1) ∧ (sF N s0 0 = 0 ∨ sF N s0 0 = 1))))) hm (by first | omega | exact bI_in _) (by first | omega | exact bI_in _) (by first | omega | exact bI_in _) (fit_eq (by first | rfl | exact (bI_t (by omega)).symm | exact (bI_f (by omega)).symm) (by first | rfl | exact (bI_t (by omega)).symm | exact (bI_f (by omega)).symm) (by first | rfl | exact (bI_t (by omega)).symm | exact (bI_f (by omega)).symm))) rfl hm.1.1 (by decide) rfl (Nat.le_of_ble_eq_true rfl) (RR rfl rfl rfl rfl) (fun z V76 e76 => ?_)
            have hm76 := gMd_o hm e76 (Or.inr ⟨rfl, by decide⟩)
            have h276 : V76 b 2 = V b 2 := by rw [e76, up_ne _ _ (Or.inr (by decide))]
            refine g_if_ne hC 84 dX12_shorter_79 rfl (by first | omega | exact bI_in _) (fun c79 => ?_) (fun c79 => ?_)
            · exact absurd (bI_n0.mp c79) (fit_n2 (by first | rfl | exact bI_f (by omega)))
            · have cF := bI_0.mp c79
              refine gB hC _ _ _ _ _ _ _ qX12_shorter_82 rfl ?_
              refine g_ireturn hC dX12_shorter_83 hr ⟨?_, rfl, ?_, ?_⟩ gs_rfl ⟨Nat.le_of_ble_eq_true rfl, Nat.le_of_ble_eq_true rfl⟩
              · rw [if_neg cF]
              · rw [if_neg cF]; exact e76
              · rw [if_neg cF]; decide
          · have c60 := bI_n0.mp c60
            refine gB hC _ _ _ _ _ _ _ qX12_shorter_63 rfl ?_
            refine g_cV1 hC dX12_shorter_65 mX12_49 vX12_isAlive (kX12_isAlive hm (by omega) (by omega)) rfl hm.1.1 (by decide) rfl (Nat.le_of_ble_eq_true rfl) (RR rfl rfl rfl rfl) (fun z => ?_)
            refine g_if_eq hC 75 dX12_shorter_68 rfl (by first | omega | exact bI_in _) (fun c68 => ?_) (fun c68 => ?_)
            · have c68 := bI_0.mp c68
              refine gB hC _ _ _ _ _ _ _ qX12_shorter_75 rfl ?_
              refine g_cV1m hC dX12_shorter_76 mX12_111 vX12_fits (kX12_fitsC (C := (fitC (bI (0 ≤ s0 ∧ s0 ≤ N 5 - 1)) (bI ((0 ≤ s0 ∧ s0 ≤ N 5 - 1) ∧ (1 ≤ nights ∧ nights ≤ 13) ∧ nights < sF N s0 3 ∧ N 0 ≤ sF N s0 2 + sF N s0 3 - 1 - nights + 1)) (bI ((0 ≤ s0 ∧ s0 ≤ N 5 - 1) ∧ (sF N s0 0 = 0 ∨ sF N s0 0 = 1))))) hm (by first | omega | exact bI_in _) (by first | omega | exact bI_in _) (by first | omega | exact bI_in _) (fit_eq (by first | rfl | exact (bI_t (by omega)).symm | exact (bI_f (by omega)).symm) (by first | rfl | exact (bI_t (by omega)).symm | exact (bI_f (by omega)).symm) (by first | rfl | exact (bI_t (by omega)).symm | exact (bI_f (by omega)).symm))) rfl hm.1.1 (by decide) rfl (Nat.le_of_ble_eq_true rfl) (RR rfl rfl rfl rfl) (fun z V76 e76 => ?_)
              have hm76 := gMd_o hm e76 (Or.inr ⟨rfl, by decide⟩)
              have h276 : V76 b 2 = V b 2 := by rw [e76, up_ne _ _ (Or.inr (by decide))]
              refine g_if_ne hC 84 dX12_shorter_79 rfl (by first | omega | exact bI_in _) (fun c79 => ?_) (fun c79 => ?_)
              · exact absurd (bI_n0.mp c79) (fit_n2 (by first | rfl | exact bI_f (by omega)))
              · have cF := bI_0.mp c79
                refine gB hC _ _ _ _ _ _ _ qX12_shorter_82 rfl ?_
                refine g_ireturn hC dX12_shorter_83 hr ⟨?_, rfl, ?_, ?_⟩ gs_rfl ⟨Nat.le_of_ble_eq_true rfl, Nat.le_of_ble_eq_true rfl⟩
                · rw [if_neg cF]
                · rw [if_neg cF]; exact e76
                · rw [if_neg cF]; decide
            · have c68 := bI_n0.mp c68
              refine gB hC _ _ _ _ _ _ _ qX12_shorter_71 rfl ?_
              refine g_cV1m hC dX12_shorter_76 mX12_111 vX12_fits (kX12_fitsC (C := (fitC (bI (0 ≤ s0 ∧ s0 ≤ N 5 - 1)) (bI ((0 ≤ s0 ∧ s0 ≤ N 5 - 1) ∧ (1 ≤ nights ∧ nights ≤ 13) ∧ nights < sF N s0 3 ∧ N 0 ≤ sF N s0 2 + sF N s0 3 - 1 - nights + 1)) (bI ((0 ≤ s0 ∧ s0 ≤ N 5 - 1) ∧ (sF N s0 0 = 0 ∨ sF N s0 0 = 1))))) hm (by first | omega | exact bI_in _) (by first | omega | exact bI_in _) (by first | omega | exact bI_in _) (fit_eq (by first | rfl | exact (bI_t (by omega)).symm | exact (bI_f (by omega)).symm) (by first | rfl | exact (bI_t (by omega)).symm | exact (bI_f (by omega)).symm) (by first | rfl | exact (bI_t (by omega)).symm | exact (bI_f (by omega)).symm))) rfl hm.1.1 (by decide) rfl (Nat.le_of_ble_eq_true rfl) (RR rfl rfl rfl rfl) (fun z V76 e76 => ?_)
              have hm76 := gMd_o hm e76 (Or.inr ⟨rfl, by decide⟩)
              have h276 : V76 b 2 = V b 2 := by rw [e76, up_ne _ _ (Or.inr (by decide))]
              refine g_if_ne hC 84 dX12_shorter_79 rfl (by first | omega | exact bI_in _) (fun c79 => ?_) (fun c79 => ?_)
              · exact absurd (bI_n0.mp c79) (fit_n2 (by first | rfl | exact bI_f (by omega)))
              · have cF := bI_0.mp c79
                refine gB hC _ _ _ _ _ _ _ qX12_shorter_82 rfl ?_
                refine g_ireturn hC dX12_shorter_83 hr ⟨?_, rfl, ?_, ?_⟩ gs_rfl ⟨Nat.le_of_ble_eq_true rfl, Nat.le_of_ble_eq_true rfl⟩
                · rw [if_neg cF]
                · rw [if_neg cF]; exact e76
                · rw [if_neg cF]; decide
        · refine gB hC _ _ _ _ _ _ _ qX12_shorter_48 rfl ?_
          refine gB hC _ _ _ _ _ _ _ qX12_shorter_53 rfl ?_
          refine g_if_eq hC 75 dX12_shorter_60 rfl (by first | omega | exact bI_in _) (fun c60 => ?_) (fun c60 => ?_)
          · have c60 := bI_0.mp c60
            refine gB hC _ _ _ _ _ _ _ qX12_shorter_75 rfl ?_
            refine g_cV1m hC dX12_shorter_76 mX12_111 vX12_fits (kX12_fitsC (C := (fitC (bI (0 ≤ s0 ∧ s0 ≤ N 5 - 1)) (bI ((0 ≤ s0 ∧ s0 ≤ N 5 - 1) ∧ (1 ≤ nights ∧ nights ≤ 13) ∧ nights < sF N s0 3 ∧ N 0 ≤ sF N s0 2 + sF N s0 3 - 1 - nights + 1)) (bI ((0 ≤ s0 ∧ s0 ≤ N 5 - 1) ∧ (sF N s0 0 = 0 ∨ sF N s0 0 = 1))))) hm (by first | omega | exact bI_in _) (by first | omega | exact bI_in _) (by first | omega | exact bI_in _) (fit_eq (by first | rfl | exact (bI_t (by omega)).symm | exact (bI_f (by omega)).symm) (by first | rfl | exact (bI_t (by omega)).symm | exact (bI_f (by omega)).symm) (by first | rfl | exact (bI_t (by omega)).symm | exact (bI_f (by omega)).symm))) rfl hm.1.1 (by decide) rfl (Nat.le_of_ble_eq_true rfl) (RR rfl rfl rfl rfl) (fun z V76 e76 => ?_)
            have hm76 := gMd_o hm e76 (Or.inr ⟨rfl, by decide⟩)
            have h276 : V76 b 2 = V b 2 := by rw [e76, up_ne _ _ (Or.inr (by decide))]
            refine g_if_ne hC 84 dX12_shorter_79 rfl (by first | omega | exact bI_in _) (fun c79 => ?_) (fun c79 => ?_)
            · exact absurd (bI_n0.mp c79) (fit_n3 (by first | rfl | exact bI_f (by omega)))
            · have cF := bI_0.mp c79
              refine gB hC _ _ _ _ _ _ _ qX12_shorter_82 rfl ?_
              refine g_ireturn hC dX12_shorter_83 hr ⟨?_, rfl, ?_, ?_⟩ gs_rfl ⟨Nat.le_of_ble_eq_true rfl, Nat.le_of_ble_eq_true rfl⟩
              · rw [if_neg cF]
              · rw [if_neg cF]; exact e76
              · rw [if_neg cF]; decide
          · have c60 := bI_n0.mp c60
            refine gB hC _ _ _ _ _ _ _ qX12_shorter_63 rfl ?_
            refine g_cV1 hC dX12_shorter_65 mX12_49 vX12_isAlive (kX12_isAlive hm (by omega) (by omega)) rfl hm.1.1 (by decide) rfl (Nat.le_of_ble_eq_true rfl) (RR rfl rfl rfl rfl) (fun z => ?_)
            refine g_if_eq hC 75 dX12_shorter_68 rfl (by first | omega | exact bI_in _) (fun c68 => ?_) (fun c68 => ?_)
            · have c68 := bI_0.mp c68
              refine gB hC _ _ _ _ _ _ _ qX12_shorter_75 rfl ?_
              refine g_cV1m hC dX12_shorter_76 mX12_111 vX12_fits (kX12_fitsC (C := (fitC (bI (0 ≤ s0 ∧ s0 ≤ N 5 - 1)) (bI ((0 ≤ s0 ∧ s0 ≤ N 5 - 1) ∧ (1 ≤ nights ∧ nights ≤ 13) ∧ nights < sF N s0 3 ∧ N 0 ≤ sF N s0 2 + sF N s0 3 - 1 - nights + 1)) (bI ((0 ≤ s0 ∧ s0 ≤ N 5 - 1) ∧ (sF N s0 0 = 0 ∨ sF N s0 0 = 1))))) hm (by first | omega | exact bI_in _) (by first | omega | exact bI_in _) (by first | omega | exact bI_in _) (fit_eq (by first | rfl | exact (bI_t (by omega)).symm | exact (bI_f (by omega)).symm) (by first | rfl | exact (bI_t (by omega)).symm | exact (bI_f (by omega)).symm) (by first | rfl | exact (bI_t (by omega)).symm | exact (bI_f (by omega)).symm))) rfl hm.1.1 (by decide) rfl (Nat.le_of_ble_eq_true rfl) (RR rfl rfl rfl rfl) (fun z V76 e76 => ?_)
              have hm76 := gMd_o hm e76 (Or.inr ⟨rfl, by decide⟩)
              have h276 : V76 b 2 = V b 2 := by rw [e76, up_ne _ _ (Or.inr (by decide))]
              refine g_if_ne hC 84 dX12_shorter_79 rfl (by first | omega | exact bI_in _) (fun c79 => ?_) (fun c79 => ?_)
              · exact absurd (bI_n0.mp c79) (fit_n3 (by first | rfl | exact bI_f (by omega)))
              · have cF := bI_0.mp c79
                refine gB hC _ _ _ _ _ _ _ qX12_shorter_82 rfl ?_
                refine g_ireturn hC dX12_shorter_83 hr ⟨?_, rfl, ?_, ?_⟩ gs_rfl ⟨Nat.le_of_ble_eq_true rfl, Nat.le_of_ble_eq_true rfl⟩
                · rw [if_neg cF]
                · rw [if_neg cF]; exact e76
                · rw [if_neg cF]; decide
            · have c68 := bI_n0.mp c68
              refine gB hC _ _ _ _ _ _ _ qX12_shorter_71 rfl ?_
              refine g_cV1m hC dX12_shorter_76 mX12_111 vX12_fits (kX12_fitsC (C := (fitC (bI (0 ≤ s0 ∧ s0 ≤ N 5 - 1)) (bI ((0 ≤ s0 ∧ s0 ≤ N 5 - 1) ∧ (1 ≤ nights ∧ nights ≤ 13) ∧ nights < sF N s0 3 ∧ N 0 ≤ sF N s0 2 + sF N s0 3 - 1 - nights + 1)) (bI ((0 ≤ s0 ∧ s0 ≤ N 5 - 1) ∧ (sF N s0 0 = 0 ∨ sF N s0 0 = 1))))) hm (by first | omega | exact bI_in _) (by first | omega | exact bI_in _) (by first | omega | exact bI_in _) (fit_eq (by first | rfl | exact (bI_t (by omega)).symm | exact (bI_f (by omega)).symm) (by first | rfl | exact (bI_t (by omega)).symm | exact (bI_f (by omega)).symm) (by first | rfl | exact (bI_t (by omega)).symm | exact (bI_f (by omega)).symm))) rfl hm.1.1 (by decide) rfl (Nat.le_of_ble_eq_true rfl) (RR rfl rfl rfl rfl) (fun z V76 e76 => ?_)
              have hm76 := gMd_o hm e76 (Or.inr ⟨rfl, by decide⟩)
              have h276 : V76 b 2 = V b 2 := by rw [e76, up_ne _ _ (Or.inr (by decide))]
              refine g_if_ne hC 84 dX12_shorter_79 rfl (by first | omega | exact bI_in _) (fun c79 => ?_) (fun c79 => ?_)
              · have cF := bI_n0.mp c79
                have hp1 := fit_p1 cF
                have hp2 := fit_p2 cF
                have hp3 := fit_p3 cF
                have hsk := hI.1.2.2.2.1 s0 hp1.1 (by omega)
                have hs1 := hsk.1
                have hpr := sPr_in hsk
                have hIs := shN_inv hI hp1.1 (by omega) hp2.2.1.1 hp2.2.2.1
                have e5s : shN N s0 nights 5 = N 5 := upN_ne (by omega)
                have hsk2 := hIs.1.2.2.2.1 s0 hp1.1 (by omega)
                have hpr2 := sPr_in hsk2
                refine gB hC _ _ _ _ _ _ _ qX12_shorter_84 rfl ?_
                refine g_cV0m hC dX12_shorter_85 mX12_115 vX12_keeps (kX12_keeps hm76 (by omega) (by omega)) rfl hm76.1.1 (by decide) rfl (Nat.le_of_ble_eq_true rfl) (RR rfl rfl rfl rfl) (fun z V85 e85 => ?_)
                have hm85 := gMd_kp hm76 e85
                refine gB hC _ _ _ _ _ _ _ qX12_shorter_88 rfl ?_
                refine g_cV1i hC dX12_shorter_90 mX12_146 vX12_price (kX12_price hm85 hsk (by omega) (by omega)) rfl hm85.1.1 (by decide) rfl (Nat.le_of_ble_eq_true rfl) (RR rfl rfl rfl rfl) (fun z i90 => ?_)
                refine gB hC _ _ _ _ _ _ _ qX12_shorter_93 rfl ?_
                refine g_cV1i hC dX12_shorter_101 mX12_43 vX12_of (kX12_of hm85 (by omega) (by omega)) rfl hm85.1.1 (by decide) rfl (Nat.le_of_ble_eq_true rfl) (RR rfl rfl rfl rfl) (fun z i101 => ?_)
                refine gB hC _ _ _ _ _ _ _ qX12_shorter_104 rfl ?_
                refine g_cV0m hC dX12_shorter_106 mX12_90 vX12_lays (kX12_lays hm85 (by omega) (by omega) (by first | omega | exact bI_in _)) rfl hm85.1.1 (by decide) rfl (Nat.le_of_ble_eq_true rfl) (RR rfl rfl rfl rfl) (fun z V106 e106 => ?_)
                have hw106 := gMw_wr (gMw_in hm85) e106
                refine gB hC _ _ _ _ _ _ _ qX12_shorter_109 rfl ?_
                refine g_cV1i hC dX12_shorter_113 mX12_146 vX12_price (kX12_price (N := shN N s0 nights) hw106.1 hsk2 (by omega) (by omega)) rfl hw106.1.1.1 (by decide) rfl (Nat.le_of_ble_eq_true rfl) (RR rfl rfl rfl rfl) (fun z i113 => ?_)
                refine gB hC _ _ _ _ _ _ _ qX12_shorter_116 rfl ?_
                refine g_cV1im hC dX12_shorter_120 mX12_124 vX12_looks (kX12_looks (N := shN N s0 nights) hw106.1 hIs.1) rfl hw106.1.1.1 (by decide) rfl (Nat.le_of_ble_eq_true rfl) (RR rfl rfl rfl rfl) (fun z V120 e120 i120 => ?_)
                have hw120 := gMw_wr hw106 e120
                refine gB hC _ _ _ _ _ _ _ qX12_shorter_123 rfl ?_
                refine g_ireturn hC dX12_shorter_127 hr ⟨?_, rfl, ?_, ?_⟩ gs_rfl ⟨Nat.le_of_ble_eq_true rfl, Nat.le_of_ble_eq_true rfl⟩
                · rw [if_pos cF]
                · rw [if_pos cF, hw120.2, e85, e76, cF]
                  first | done | rfl
                · rw [if_pos cF]
                  omega
              · have cF := bI_0.mp c79
                refine gB hC _ _ _ _ _ _ _ qX12_shorter_82 rfl ?_
                refine g_ireturn hC dX12_shorter_83 hr ⟨?_, rfl, ?_, ?_⟩ gs_rfl ⟨Nat.le_of_ble_eq_true rfl, Nat.le_of_ble_eq_true rfl⟩
                · rw [if_neg cF]
                · rw [if_neg cF]; exact e76
                · rw [if_neg cF]; decide

theorem kX12_group {E l Sh V z} {b : Int} {N : gN0} {k0 stays first nights till : Int} (hm : gMd b N Sh V) (hI : INV N) (hv0 : 0 ≤ V b 2) (hv1 : V b 2 ≤ 6) (hk : inI k0) (i1 : inI stays) (i2 : inI first) (i3 : inI nights) (i4 : inI till) : gM E l yX12_group (.code yX12_group cX12_group 10 (some .int)) (rmk 8 0 0 200) [(2, b), (0, k0), (0, stays), (0, first), (0, nights), (0, till)] Sh V z (gRi (if (fitC (bI (0 ≤ k0 ∧ k0 ≤ N 1 - 1)) (bI ((1 ≤ stays ∧ stays ≤ 6) ∧ askC N first nights 1 0 ∧ tilC N till first)) (bI (N 6 < 10 ∧ N 5 + stays ≤ 60))) = 0 then if (grT N k0 (dayZ first) nights (dayZ till) (N 6) stays.toNat).2 = -1 then N 6 else -1 else 0) Sh (if (fitC (bI (0 ≤ k0 ∧ k0 ≤ N 1 - 1)) (bI ((1 ≤ stays ∧ stays ≤ 6) ∧ askC N first nights 1 0 ∧ tilC N till first)) (bI (N 6 < 10 ∧ N 5 + stays ≤ 60))) = 0 then wrN (kpV (up V b 3 0) b) b (if (grT N k0 (dayZ first) nights (dayZ till) (N 6) stays.toNat).2 = -1 then upN (grT N k0 (dayZ first) nights (dayZ till) (N 6) stays.toNat).1 6 (N 6 + 1) else upN N 8 (dateZ (grT N k0 (dayZ first) nights (dayZ till) (N 6) stays.toNat).2)) else up V b 3 (fitC (bI (0 ≤ k0 ∧ k0 ≤ N 1 - 1)) (bI ((1 ≤ stays ∧ stays ≤ 6) ∧ askC N first nights 1 0 ∧ tilC N till first)) (bI (N 6 < 10 ∧ N 5 + stays ≤ 60))))) := by
  refine gM_at (L0 := [(2, b), (0, k0), (0, stays), (0, first), (0, nights), (0, till), (9, 0), (9, 0), (9, 0), (9, 0)]) rfl rfl rfl ?_
  intro p e s m args below meth c hC hr hex hnm hz
  have hsc := hI.1.1
  unfold iScal at hsc
  have hdf := dayZ_in first
  have hdt := dayZ_in till
  refine gB hC _ _ _ _ _ _ _ qX12_group_0 rfl ?_
  refine g_cS1 hC dX12_group_4 mX12_35 sX12_in (kX12_in (by omega) (by omega) (by omega)) rfl rfl (Nat.le_of_ble_eq_true rfl) (RR rfl rfl rfl rfl) (fun z => ?_)
  refine g_if_eq hC 36 dX12_group_7 rfl (by first | omega | exact bI_in _) (fun c7 => ?_) (fun c7 => ?_)
  · have c7 := bI_0.mp c7
    refine gB hC _ _ _ _ _ _ _ qX12_group_36 rfl ?_
    refine gB hC _ _ _ _ _ _ _ qX12_group_37 rfl ?_
    refine g_cV1 hC dX12_group_42 mX12_118 vX12_isKind (kX12_isKind hm (by omega) (by omega)) rfl hm.1.1 (by decide) rfl (Nat.le_of_ble_eq_true rfl) (RR rfl rfl rfl rfl) (fun z => ?_)
    refine gB hC _ _ _ _ _ _ _ qX12_group_45 rfl ?_
    refine g_getr hC dX12_group_48 fX12_9 hm.1.1 (by decide) rfl 0 rfl hm.2.1.1 ?_
    refine gB hC _ _ _ _ _ _ _ qX12_group_51 rfl ?_
    refine g_iald hC dX12_group_53 hm.1.2.1 (gMd_at hm _) (by omega) (by omega) (by decide) (fun i53 => ?_)
    refine gB hC _ _ _ _ _ _ _ qX12_group_54 rfl ?_
    refine g_icmp_ge hC 76 dX12_group_56 rfl (by first | omega | exact bI_in _) (by first | omega | exact bI_in _) (fun c56 => ?_) (fun c56 => ?_)
    · refine gB hC _ _ _ _ _ _ _ qX12_group_76 rfl ?_
      refine g_cV1m hC dX12_group_77 mX12_111 vX12_fits (kX12_fitsC (C := (fitC (bI (0 ≤ k0 ∧ k0 ≤ N 1 - 1)) (bI ((1 ≤ stays ∧ stays ≤ 6) ∧ askC N first nights 1 0 ∧ tilC N till first)) (bI (N 6 < 10 ∧ N 5 + stays ≤ 60)))) hm (by first | omega | exact bI_in _) (by first | omega | exact bI_in _) (by first | omega | exact bI_in _) (fit_q2 (by first | rfl | exact (bI_t (by omega)).symm | exact (bI_f (by omega)).symm) rfl (bI_f (by omega)))) rfl hm.1.1 (by decide) rfl (Nat.le_of_ble_eq_true rfl) (RR rfl rfl rfl rfl) (fun z V77 e77 => ?_)
      have hm77 := gMd_o hm e77 (Or.inr ⟨rfl, by decide⟩)
      have h277 : V77 b 2 = V b 2 := by rw [e77, up_ne _ _ (Or.inr (by decide))]
      refine g_if_ne hC 85 dX12_group_80 rfl (by first | omega | exact bI_in _) (fun c80 => ?_) (fun c80 => ?_)
      · exact absurd (bI_n0.mp c80) (fit_n2 (by first | rfl | exact bI_f (by omega)))
      · have cF := bI_0.mp c80
        refine gB hC _ _ _ _ _ _ _ qX12_group_83 rfl ?_
        refine g_ireturn hC dX12_group_84 hr ⟨?_, rfl, ?_, ?_⟩ gs_rfl ⟨Nat.le_of_ble_eq_true rfl, Nat.le_of_ble_eq_true rfl⟩
        · rw [if_neg cF]
        · rw [if_neg cF]; exact e77
        · rw [if_neg cF]; decide
    · refine gB hC _ _ _ _ _ _ _ qX12_group_59 rfl ?_
      refine g_getr hC dX12_group_60 fX12_9 hm.1.1 (by decide) rfl 0 rfl hm.2.1.1 ?_
      refine gB hC _ _ _ _ _ _ _ qX12_group_63 rfl ?_
      refine g_iald hC dX12_group_64 hm.1.2.1 (gMd_at hm _) (by omega) (by omega) (by decide) (fun i64 => ?_)
      refine gB hC _ _ _ _ _ _ _ qX12_group_65 rfl ?_
      refine g_wrap2 (fun v hv => ?_)
      refine g_icmp_gt hC 76 dX12_group_69 rfl (by first | omega | exact bI_in _) (by first | omega | exact bI_in _) (fun c69 => ?_) (fun c69 => ?_)
      · refine gB hC _ _ _ _ _ _ _ qX12_group_76 rfl ?_
        refine g_cV1m hC dX12_group_77 mX12_111 vX12_fits (kX12_fitsC (C := (fitC (bI (0 ≤ k0 ∧ k0 ≤ N 1 - 1)) (bI ((1 ≤ stays ∧ stays ≤ 6) ∧ askC N first nights 1 0 ∧ tilC N till first)) (bI (N 6 < 10 ∧ N 5 + stays ≤ 60)))) hm (by first | omega | exact bI_in _) (by first | omega | exact bI_in _) (by first | omega | exact bI_in _) (fit_q2 (by first | rfl | exact (bI_t (by omega)).symm | exact (bI_f (by omega)).symm) rfl (bI_f (by omega)))) rfl hm.1.1 (by decide) rfl (Nat.le_of_ble_eq_true rfl) (RR rfl rfl rfl rfl) (fun z V77 e77 => ?_)
        have hm77 := gMd_o hm e77 (Or.inr ⟨rfl, by decide⟩)
        have h277 : V77 b 2 = V b 2 := by rw [e77, up_ne _ _ (Or.inr (by decide))]
        refine g_if_ne hC 85 dX12_group_80 rfl (by first | omega | exact bI_in _) (fun c80 => ?_) (fun c80 => ?_)
        · exact absurd (bI_n0.mp c80) (fit_n2 (by first | rfl | exact bI_f (by omega)))
        · have cF := bI_0.mp c80
          refine gB hC _ _ _ _ _ _ _ qX12_group_83 rfl ?_
          refine g_ireturn hC dX12_group_84 hr ⟨?_, rfl, ?_, ?_⟩ gs_rfl ⟨Nat.le_of_ble_eq_true rfl, Nat.le_of_ble_eq_true rfl⟩
          · rw [if_neg cF]
          · rw [if_neg cF]; exact e77
          · rw [if_neg cF]; decide
      · refine gB hC _ _ _ _ _ _ _ qX12_group_72 rfl ?_
        refine g_cV1m hC dX12_group_77 mX12_111 vX12_fits (kX12_fitsC (C := (fitC (bI (0 ≤ k0 ∧ k0 ≤ N 1 - 1)) (bI ((1 ≤ stays ∧ stays ≤ 6) ∧ askC N first nights 1 0 ∧ tilC N till first)) (bI (N 6 < 10 ∧ N 5 + stays ≤ 60)))) hm (by first | omega | exact bI_in _) (by first | omega | exact bI_in _) (by first | omega | exact bI_in _) (fit_q2 (by first | rfl | exact (bI_t (by omega)).symm | exact (bI_f (by omega)).symm) rfl (bI_f (by omega)))) rfl hm.1.1 (by decide) rfl (Nat.le_of_ble_eq_true rfl) (RR rfl rfl rfl rfl) (fun z V77 e77 => ?_)
        have hm77 := gMd_o hm e77 (Or.inr ⟨rfl, by decide⟩)
        have h277 : V77 b 2 = V b 2 := by rw [e77, up_ne _ _ (Or.inr (by decide))]
        refine g_if_ne hC 85 dX12_group_80 rfl (by first | omega | exact bI_in _) (fun c80 => ?_) (fun c80 => ?_)
        · exact absurd (bI_n0.mp c80) (fit_n2 (by first | rfl | exact bI_f (by omega)))
        · have cF := bI_0.mp c80
          refine gB hC _ _ _ _ _ _ _ qX12_group_83 rfl ?_
          refine g_ireturn hC dX12_group_84 hr ⟨?_, rfl, ?_, ?_⟩ gs_rfl ⟨Nat.le_of_ble_eq_true rfl, Nat.le_of_ble_eq_true rfl⟩
          · rw [if_neg cF]
          · rw [if_neg cF]; exact e77
          · rw [if_neg cF]; decide
  · have c7 := bI_n0.mp c7
    refine gB hC _ _ _ _ _ _ _ qX12_group_10 rfl ?_
    refine g_cV1 hC dX12_group_16 mX12_136 vX12_isAskable (kX12_isAskable hm (by omega) (by omega) (by omega) (by omega) (by omega) (by omega)) rfl hm.1.1 (by decide) rfl (Nat.le_of_ble_eq_true rfl) (RR rfl rfl rfl rfl) (fun z => ?_)
    refine g_if_eq hC 36 dX12_group_19 rfl (by first | omega | exact bI_in _) (fun c19 => ?_) (fun c19 => ?_)
    · have c19 := bI_0.mp c19
      refine gB hC _ _ _ _ _ _ _ qX12_group_36 rfl ?_
      refine gB hC _ _ _ _ _ _ _ qX12_group_37 rfl ?_
      refine g_cV1 hC dX12_group_42 mX12_118 vX12_isKind (kX12_isKind hm (by omega) (by omega)) rfl hm.1.1 (by decide) rfl (Nat.le_of_ble_eq_true rfl) (RR rfl rfl rfl rfl) (fun z => ?_)
      refine gB hC _ _ _ _ _ _ _ qX12_group_45 rfl ?_
      refine g_getr hC dX12_group_48 fX12_9 hm.1.1 (by decide) rfl 0 rfl hm.2.1.1 ?_
      refine gB hC _ _ _ _ _ _ _ qX12_group_51 rfl ?_
      refine g_iald hC dX12_group_53 hm.1.2.1 (gMd_at hm _) (by omega) (by omega) (by decide) (fun i53 => ?_)
      refine gB hC _ _ _ _ _ _ _ qX12_group_54 rfl ?_
      refine g_icmp_ge hC 76 dX12_group_56 rfl (by first | omega | exact bI_in _) (by first | omega | exact bI_in _) (fun c56 => ?_) (fun c56 => ?_)
      · refine gB hC _ _ _ _ _ _ _ qX12_group_76 rfl ?_
        refine g_cV1m hC dX12_group_77 mX12_111 vX12_fits (kX12_fitsC (C := (fitC (bI (0 ≤ k0 ∧ k0 ≤ N 1 - 1)) (bI ((1 ≤ stays ∧ stays ≤ 6) ∧ askC N first nights 1 0 ∧ tilC N till first)) (bI (N 6 < 10 ∧ N 5 + stays ≤ 60)))) hm (by first | omega | exact bI_in _) (by first | omega | exact bI_in _) (by first | omega | exact bI_in _) (fit_q2 (by first | rfl | exact (bI_t (by omega)).symm | exact (bI_f (by omega)).symm) rfl (bI_f (by omega)))) rfl hm.1.1 (by decide) rfl (Nat.le_of_ble_eq_true rfl) (RR rfl rfl rfl rfl) (fun z V77 e77 => ?_)
        have hm77 := gMd_o hm e77 (Or.inr ⟨rfl, by decide⟩)
        have h277 : V77 b 2 = V b 2 := by rw [e77, up_ne _ _ (Or.inr (by decide))]
        refine g_if_ne hC 85 dX12_group_80 rfl (by first | omega | exact bI_in _) (fun c80 => ?_) (fun c80 => ?_)
        · exact absurd (bI_n0.mp c80) (fit_n2 (by first | rfl | exact bI_f (by omega)))
        · have cF := bI_0.mp c80
          refine gB hC _ _ _ _ _ _ _ qX12_group_83 rfl ?_
          refine g_ireturn hC dX12_group_84 hr ⟨?_, rfl, ?_, ?_⟩ gs_rfl ⟨Nat.le_of_ble_eq_true rfl, Nat.le_of_ble_eq_true rfl⟩
          · rw [if_neg cF]
          · rw [if_neg cF]; exact e77
          · rw [if_neg cF]; decide
      · refine gB hC _ _ _ _ _ _ _ qX12_group_59 rfl ?_
        refine g_getr hC dX12_group_60 fX12_9 hm.1.1 (by decide) rfl 0 rfl hm.2.1.1 ?_
        refine gB hC _ _ _ _ _ _ _ qX12_group_63 rfl ?_
        refine g_iald hC dX12_group_64 hm.1.2.1 (gMd_at hm _) (by omega) (by omega) (by decide) (fun i64 => ?_)
        refine gB hC _ _ _ _ _ _ _ qX12_group_65 rfl ?_
        refine g_wrap2 (fun v hv => ?_)
        refine g_icmp_gt hC 76 dX12_group_69 rfl (by first | omega | exact bI_in _) (by first | omega | exact bI_in _) (fun c69 => ?_) (fun c69 => ?_)
        · refine gB hC _ _ _ _ _ _ _ qX12_group_76 rfl ?_
          refine g_cV1m hC dX12_group_77 mX12_111 vX12_fits (kX12_fitsC (C := (fitC (bI (0 ≤ k0 ∧ k0 ≤ N 1 - 1)) (bI ((1 ≤ stays ∧ stays ≤ 6) ∧ askC N first nights 1 0 ∧ tilC N till first)) (bI (N 6 < 10 ∧ N 5 + stays ≤ 60)))) hm (by first | omega | exact bI_in _) (by first | omega | exact bI_in _) (by first | omega | exact bI_in _) (fit_q2 (by first | rfl | exact (bI_t (by omega)).symm | exact (bI_f (by omega)).symm) rfl (bI_f (by omega)))) rfl hm.1.1 (by decide) rfl (Nat.le_of_ble_eq_true rfl) (RR rfl rfl rfl rfl) (fun z V77 e77 => ?_)
          have hm77 := gMd_o hm e77 (Or.inr ⟨rfl, by decide⟩)
          have h277 : V77 b 2 = V b 2 := by rw [e77, up_ne _ _ (Or.inr (by decide))]
          refine g_if_ne hC 85 dX12_group_80 rfl (by first | omega | exact bI_in _) (fun c80 => ?_) (fun c80 => ?_)
          · exact absurd (bI_n0.mp c80) (fit_n2 (by first | rfl | exact bI_f (by omega)))
          · have cF := bI_0.mp c80
            refine gB hC _ _ _ _ _ _ _ qX12_group_83 rfl ?_
            refine g_ireturn hC dX12_group_84 hr ⟨?_, rfl, ?_, ?_⟩ gs_rfl ⟨Nat.le_of_ble_eq_true rfl, Nat.le_of_ble_eq_true rfl⟩
            · rw [if_neg cF]
            · rw [if_neg cF]; exact e77
            · rw [if_neg cF]; decide
        · refine gB hC _ _ _ _ _ _ _ qX12_group_72 rfl ?_
          refine g_cV1m hC dX12_group_77 mX12_111 vX12_fits (kX12_fitsC (C := (fitC (bI (0 ≤ k0 ∧ k0 ≤ N 1 - 1)) (bI ((1 ≤ stays ∧ stays ≤ 6) ∧ askC N first nights 1 0 ∧ tilC N till first)) (bI (N 6 < 10 ∧ N 5 + stays ≤ 60)))) hm (by first | omega | exact bI_in _) (by first | omega | exact bI_in _) (by first | omega | exact bI_in _) (fit_q2 (by first | rfl | exact (bI_t (by omega)).symm | exact (bI_f (by omega)).symm) rfl (bI_f (by omega)))) rfl hm.1.1 (by decide) rfl (Nat.le_of_ble_eq_true rfl) (RR rfl rfl rfl rfl) (fun z V77 e77 => ?_)
          have hm77 := gMd_o hm e77 (Or.inr ⟨rfl, by decide⟩)
          have h277 : V77 b 2 = V b 2 := by rw [e77, up_ne _ _ (Or.inr (by decide))]
          refine g_if_ne hC 85 dX12_group_80 rfl (by first | omega | exact bI_in _) (fun c80 => ?_) (fun c80 => ?_)
          · exact absurd (bI_n0.mp c80) (fit_n2 (by first | rfl | exact bI_f (by omega)))
          · have cF := bI_0.mp c80
            refine gB hC _ _ _ _ _ _ _ qX12_group_83 rfl ?_
            refine g_ireturn hC dX12_group_84 hr ⟨?_, rfl, ?_, ?_⟩ gs_rfl ⟨Nat.le_of_ble_eq_true rfl, Nat.le_of_ble_eq_true rfl⟩
            · rw [if_neg cF]
            · rw [if_neg cF]; exact e77
            · rw [if_neg cF]; decide
    · have c19 := bI_n0.mp c19
      refine gB hC _ _ _ _ _ _ _ qX12_group_22 rfl ?_
      refine g_cV1 hC dX12_group_26 mX12_140 vX12_isTill (kX12_isTill hm (by omega) (by omega) (by omega) (by omega)) rfl hm.1.1 (by decide) rfl (Nat.le_of_ble_eq_true rfl) (RR rfl rfl rfl rfl) (fun z => ?_)
      refine g_if_eq hC 36 dX12_group_29 rfl (by first | omega | exact bI_in _) (fun c29 => ?_) (fun c29 => ?_)
      · have c29 := bI_0.mp c29
        refine gB hC _ _ _ _ _ _ _ qX12_group_36 rfl ?_
        refine gB hC _ _ _ _ _ _ _ qX12_group_37 rfl ?_
        refine g_cV1 hC dX12_group_42 mX12_118 vX12_isKind (kX12_isKind hm (by omega) (by omega)) rfl hm.1.1 (by decide) rfl (Nat.le_of_ble_eq_true rfl) (RR rfl rfl rfl rfl) (fun z => ?_)
        refine gB hC _ _ _ _ _ _ _ qX12_group_45 rfl ?_
        refine g_getr hC dX12_group_48 fX12_9 hm.1.1 (by decide) rfl 0 rfl hm.2.1.1 ?_
        refine gB hC _ _ _ _ _ _ _ qX12_group_51 rfl ?_
        refine g_iald hC dX12_group_53 hm.1.2.1 (gMd_at hm _) (by omega) (by omega) (by decide) (fun i53 => ?_)
        refine gB hC _ _ _ _ _ _ _ qX12_group_54 rfl ?_
        refine g_icmp_ge hC 76 dX12_group_56 rfl (by first | omega | exact bI_in _) (by first | omega | exact bI_in _) (fun c56 => ?_) (fun c56 => ?_)
        · refine gB hC _ _ _ _ _ _ _ qX12_group_76 rfl ?_
          refine g_cV1m hC dX12_group_77 mX12_111 vX12_fits (kX12_fitsC (C := (fitC (bI (0 ≤ k0 ∧ k0 ≤ N 1 - 1)) (bI ((1 ≤ stays ∧ stays ≤ 6) ∧ askC N first nights 1 0 ∧ tilC N till first)) (bI (N 6 < 10 ∧ N 5 + stays ≤ 60)))) hm (by first | omega | exact bI_in _) (by first | omega | exact bI_in _) (by first | omega | exact bI_in _) (fit_q2 (by first | rfl | exact (bI_t (by omega)).symm | exact (bI_f (by omega)).symm) rfl (bI_f (by omega)))) rfl hm.1.1 (by decide) rfl (Nat.le_of_ble_eq_true rfl) (RR rfl rfl rfl rfl) (fun z V77 e77 => ?_)
          have hm77 := gMd_o hm e77 (Or.inr ⟨rfl, by decide⟩)
          have h277 : V77 b 2 = V b 2 := by rw [e77, up_ne _ _ (Or.inr (by decide))]
          refine g_if_ne hC 85 dX12_group_80 rfl (by first | omega | exact bI_in _) (fun c80 => ?_) (fun c80 => ?_)
          · exact absurd (bI_n0.mp c80) (fit_n2 (by first | rfl | exact bI_f (by omega)))
          · have cF := bI_0.mp c80
            refine gB hC _ _ _ _ _ _ _ qX12_group_83 rfl ?_
            refine g_ireturn hC dX12_group_84 hr ⟨?_, rfl, ?_, ?_⟩ gs_rfl ⟨Nat.le_of_ble_eq_true rfl, Nat.le_of_ble_eq_true rfl⟩
            · rw [if_neg cF]
            · rw [if_neg cF]; exact e77
            · rw [if_neg cF]; decide
        · refine gB hC _ _ _ _ _ _ _ qX12_group_59 rfl ?_
          refine g_getr hC dX12_group_60 fX12_9 hm.1.1 (by decide) rfl 0 rfl hm.2.1.1 ?_
          refine gB hC _ _ _ _ _ _ _ qX12_group_63 rfl ?_
          refine g_iald hC dX12_group_64 hm.1.2.1 (gMd_at hm _) (by omega) (by omega) (by decide) (fun i64 => ?_)
          refine gB hC _ _ _ _ _ _ _ qX12_group_65 rfl ?_
          refine g_wrap2 (fun v hv => ?_)
          refine g_icmp_gt hC 76 dX12_group_69 rfl (by first | omega | exact bI_in _) (by first | omega | exact bI_in _) (fun c69 => ?_) (fun c69 => ?_)
          · refine gB hC _ _ _ _ _ _ _ qX12_group_76 rfl ?_
            refine g_cV1m hC dX12_group_77 mX12_111 vX12_fits (kX12_fitsC (C := (fitC (bI (0 ≤ k0 ∧ k0 ≤ N 1 - 1)) (bI ((1 ≤ stays ∧ stays ≤ 6) ∧ askC N first nights 1 0 ∧ tilC N till first)) (bI (N 6 < 10 ∧ N 5 + stays ≤ 60)))) hm (by first | omega | exact bI_in _) (by first | omega | exact bI_in _) (by first | omega | exact bI_in _) (fit_q2 (by first | rfl | exact (bI_t (by omega)).symm | exact (bI_f (by omega)).symm) rfl (bI_f (by omega)))) rfl hm.1.1 (by decide) rfl (Nat.le_of_ble_eq_true rfl) (RR rfl rfl rfl rfl) (fun z V77 e77 => ?_)
            have hm77 := gMd_o hm e77 (Or.inr ⟨rfl, by decide⟩)
            have h277 : V77 b 2 = V b 2 := by rw [e77, up_ne _ _ (Or.inr (by decide))]
            refine g_if_ne hC 85 dX12_group_80 rfl (by first | omega | exact bI_in _) (fun c80 => ?_) (fun c80 => ?_)
            · exact absurd (bI_n0.mp c80) (fit_n2 (by first | rfl | exact bI_f (by omega)))
            · have cF := bI_0.mp c80
              refine gB hC _ _ _ _ _ _ _ qX12_group_83 rfl ?_
              refine g_ireturn hC dX12_group_84 hr ⟨?_, rfl, ?_, ?_⟩ gs_rfl ⟨Nat.le_of_ble_eq_true rfl, Nat.le_of_ble_eq_true rfl⟩
              · rw [if_neg cF]
              · rw [if_neg cF]; exact e77
              · rw [if_neg cF]; decide
          · refine gB hC _ _ _ _ _ _ _ qX12_group_72 rfl ?_
            refine g_cV1m hC dX12_group_77 mX12_111 vX12_fits (kX12_fitsC (C := (fitC (bI (0 ≤ k0 ∧ k0 ≤ N 1 - 1)) (bI ((1 ≤ stays ∧ stays ≤ 6) ∧ askC N first nights 1 0 ∧ tilC N till first)) (bI (N 6 < 10 ∧ N 5 + stays ≤ 60)))) hm (by first | omega | exact bI_in _) (by first | omega | exact bI_in _) (by first | omega | exact bI_in _) (fit_q2 (by first | rfl | exact (bI_t (by omega)).symm | exact (bI_f (by omega)).symm) rfl (bI_f (by omega)))) rfl hm.1.1 (by decide) rfl (Nat.le_of_ble_eq_true rfl) (RR rfl rfl rfl rfl) (fun z V77 e77 => ?_)
            have hm77 := gMd_o hm e77 (Or.inr ⟨rfl, by decide⟩)
            have h277 : V77 b 2 = V b 2 := by rw [e77, up_ne _ _ (Or.inr (by decide))]
            refine g_if_ne hC 85 dX12_group_80 rfl (by first | omega | exact bI_in _) (fun c80 => ?_) (fun c80 => ?_)
            · exact absurd (bI_n0.mp c80) (fit_n2 (by first | rfl | exact bI_f (by omega)))
            · have cF := bI_0.mp c80
              refine gB hC _ _ _ _ _ _ _ qX12_group_83 rfl ?_
              refine g_ireturn hC dX12_group_84 hr ⟨?_, rfl, ?_, ?_⟩ gs_rfl ⟨Nat.le_of_ble_eq_true rfl, Nat.le_of_ble_eq_true rfl⟩
              · rw [if_neg cF]
              · rw [if_neg cF]; exact e77
              · rw [if_neg cF]; decide
      · have c29 := bI_n0.mp c29
        refine gB hC _ _ _ _ _ _ _ qX12_group_32 rfl ?_
        refine gB hC _ _ _ _ _ _ _ qX12_group_37 rfl ?_
        refine g_cV1 hC dX12_group_42 mX12_118 vX12_isKind (kX12_isKind hm (by omega) (by omega)) rfl hm.1.1 (by decide) rfl (Nat.le_of_ble_eq_true rfl) (RR rfl rfl rfl rfl) (fun z => ?_)
        refine gB hC _ _ _ _ _ _ _ qX12_group_45 rfl ?_
        refine g_getr hC dX12_group_48 fX12_9 hm.1.1 (by decide) rfl 0 rfl hm.2.1.1 ?_
        refine gB hC _ _ _ _ _ _ _ qX12_group_51 rfl ?_
        refine g_iald hC dX12_group_53 hm.1.2.1 (gMd_at hm _) (by omega) (by omega) (by decide) (fun i53 => ?_)
        refine gB hC _ _ _ _ _ _ _ qX12_group_54 rfl ?_
        refine g_icmp_ge hC 76 dX12_group_56 rfl (by first | omega | exact bI_in _) (by first | omega | exact bI_in _) (fun c56 => ?_) (fun c56 => ?_)
        · refine gB hC _ _ _ _ _ _ _ qX12_group_76 rfl ?_
          refine g_cV1m hC dX12_group_77 mX12_111 vX12_fits (kX12_fitsC (C := (fitC (bI (0 ≤ k0 ∧ k0 ≤ N 1 - 1)) (bI ((1 ≤ stays ∧ stays ≤ 6) ∧ askC N first nights 1 0 ∧ tilC N till first)) (bI (N 6 < 10 ∧ N 5 + stays ≤ 60)))) hm (by first | omega | exact bI_in _) (by first | omega | exact bI_in _) (by first | omega | exact bI_in _) (fit_eq (by first | rfl | exact (bI_t (by omega)).symm | exact (bI_f (by omega)).symm) (by first | rfl | exact (bI_t (by omega)).symm | exact (bI_f (by omega)).symm) (by first | rfl | exact (bI_t (by omega)).symm | exact (bI_f (by omega)).symm))) rfl hm.1.1 (by decide) rfl (Nat.le_of_ble_eq_true rfl) (RR rfl rfl rfl rfl) (fun z V77 e77 => ?_)
          have hm77 := gMd_o hm e77 (Or.inr ⟨rfl, by decide⟩)
          have h277 : V77 b 2 = V b 2 := by rw [e77, up_ne _ _ (Or.inr (by decide))]
          refine g_if_ne hC 85 dX12_group_80 rfl (by first | omega | exact bI_in _) (fun c80 => ?_) (fun c80 => ?_)
          · exact absurd (bI_n0.mp c80) (fit_n3 (by first | rfl | exact bI_f (by omega)))
          · have cF := bI_0.mp c80
            refine gB hC _ _ _ _ _ _ _ qX12_group_83 rfl ?_
            refine g_ireturn hC dX12_group_84 hr ⟨?_, rfl, ?_, ?_⟩ gs_rfl ⟨Nat.le_of_ble_eq_true rfl, Nat.le_of_ble_eq_true rfl⟩
            · rw [if_neg cF]
            · rw [if_neg cF]; exact e77
            · rw [if_neg cF]; decide
        · refine gB hC _ _ _ _ _ _ _ qX12_group_59 rfl ?_
          refine g_getr hC dX12_group_60 fX12_9 hm.1.1 (by decide) rfl 0 rfl hm.2.1.1 ?_
          refine gB hC _ _ _ _ _ _ _ qX12_group_63 rfl ?_
          refine g_iald hC dX12_group_64 hm.1.2.1 (gMd_at hm _) (by omega) (by omega) (by decide) (fun i64 => ?_)
          refine gB hC _ _ _ _ _ _ _ qX12_group_65 rfl ?_
          
          refine g_icmp_gt hC 76 dX12_group_69 rfl (by first | omega | exact bI_in _) (by first | omega | exact bI_in _) (fun c69 => ?_) (fun c69 => ?_)
          · refine gB hC _ _ _ _ _ _ _ qX12_group_76 rfl ?_
            refine g_cV1m hC dX12_group_77 mX12_111 vX12_fits (kX12_fitsC (C := (fitC (bI (0 ≤ k0 ∧ k0 ≤ N 1 - 1)) (bI ((1 ≤ stays ∧ stays ≤ 6) ∧ askC N first nights 1 0 ∧ tilC N till first)) (bI (N 6 < 10 ∧ N 5 + stays ≤ 60)))) hm (by first | omega | exact bI_in _) (by first | omega | exact bI_in _) (by first | omega | exact bI_in _) (fit_eq (by first | rfl | exact (bI_t (by omega)).symm | exact (bI_f (by omega)).symm) (by first | rfl | exact (bI_t (by omega)).symm | exact (bI_f (by omega)).symm) (by first | rfl | exact (bI_t (by omega)).symm | exact (bI_f (by omega)).symm))) rfl hm.1.1 (by decide) rfl (Nat.le_of_ble_eq_true rfl) (RR rfl rfl rfl rfl) (fun z V77 e77 => ?_)
            have hm77 := gMd_o hm e77 (Or.inr ⟨rfl, by decide⟩)
            have h277 : V77 b 2 = V b 2 := by rw [e77, up_ne _ _ (Or.inr (by decide))]
            refine g_if_ne hC 85 dX12_group_80 rfl (by first | omega | exact bI_in _) (fun c80 => ?_) (fun c80 => ?_)
            · exact absurd (bI_n0.mp c80) (fit_n3 (by first | rfl | exact bI_f (by omega)))
            · have cF := bI_0.mp c80
              refine gB hC _ _ _ _ _ _ _ qX12_group_83 rfl ?_
              refine g_ireturn hC dX12_group_84 hr ⟨?_, rfl, ?_, ?_⟩ gs_rfl ⟨Nat.le_of_ble_eq_true rfl, Nat.le_of_ble_eq_true rfl⟩
              · rw [if_neg cF]
              · rw [if_neg cF]; exact e77
              · rw [if_neg cF]; decide
          · refine gB hC _ _ _ _ _ _ _ qX12_group_72 rfl ?_
            refine g_cV1m hC dX12_group_77 mX12_111 vX12_fits (kX12_fitsC (C := (fitC (bI (0 ≤ k0 ∧ k0 ≤ N 1 - 1)) (bI ((1 ≤ stays ∧ stays ≤ 6) ∧ askC N first nights 1 0 ∧ tilC N till first)) (bI (N 6 < 10 ∧ N 5 + stays ≤ 60)))) hm (by first | omega | exact bI_in _) (by first | omega | exact bI_in _) (by first | omega | exact bI_in _) (fit_eq (by first | rfl | exact (bI_t (by omega)).symm | exact (bI_f (by omega)).symm) (by first | rfl | exact (bI_t (by omega)).symm | exact (bI_f (by omega)).symm) (by first | rfl | exact (bI_t (by omega)).symm | exact (bI_f (by omega)).symm))) rfl hm.1.1 (by decide) rfl (Nat.le_of_ble_eq_true rfl) (RR rfl rfl rfl rfl) (fun z V77 e77 => ?_)
            have hm77 := gMd_o hm e77 (Or.inr ⟨rfl, by decide⟩)
            have h277 : V77 b 2 = V b 2 := by rw [e77, up_ne _ _ (Or.inr (by decide))]
            refine g_if_ne hC 85 dX12_group_80 rfl (by first | omega | exact bI_in _) (fun c80 => ?_) (fun c80 => ?_)
            · have cF := bI_n0.mp c80
              have hp1 := fit_p1 cF
              have hp2 := fit_p2 cF
              have hp3 := fit_p3 cF
              have hO := grT_inv (k := k0) (first := dayZ first) (nights := nights) (till := dayZ till) (g := N 6) hI (by omega)
              refine gB hC _ _ _ _ _ _ _ qX12_group_85 rfl ?_
              refine g_cV0m hC dX12_group_86 mX12_115 vX12_keeps (kX12_keeps hm77 (by omega) (by omega)) rfl hm77.1.1 (by decide) rfl (Nat.le_of_ble_eq_true rfl) (RR rfl rfl rfl rfl) (fun z V86 e86 => ?_)
              have hm86 := gMd_kp hm77 e86
              refine gB hC _ _ _ _ _ _ _ qX12_group_89 rfl ?_
              have hV0 : V86 = wrN V86 b N := wrN_self hm86
              rw [hV0]
              refine g_loop (fun x : Nat × aV × aV => (x.1 : Int) ≤ stays ∧ (grT N k0 (dayZ first) nights (dayZ till) (N 6) x.1).2 = -1) (fun x => (stays - (x.1 : Int)).toNat) 92 (fun x => [(2, b), (0, k0), (0, stays), (0, first), (0, nights), (0, till), _, (0, (x.1 : Int)), x.2.1, x.2.2]) (fun x => wrN V86 b (grT N k0 (dayZ first) nights (dayZ till) (N 6) x.1).1) (0, (9, 0), (9, 0)) ⟨by show (0 : Int) ≤ stays; omega, rfl⟩ ?_
              rintro ⟨n, a8, a9⟩ z ⟨hn8, hgd⟩ ih
              dsimp only at hn8 hgd ih ⊢
              obtain ⟨hIn, e5, e5l, elo, -, -⟩ := hO n (by omega)
              have e5 := e5 hgd
              have e1 := elo 1 (by decide) (Or.inl (by omega))
              have e6 := elo 6 (by decide) (Or.inl (by omega))
              have e8 := elo 8 (by decide) (Or.inl (by omega))
              have hwn : gMw b V86 (grT N k0 (dayZ first) nights (dayZ till) (N 6) n).1 Sh (wrN V86 b (grT N k0 (dayZ first) nights (dayZ till) (N 6) n).1) := ⟨gMd_w hm86 rfl, rfl⟩
              have hrr := rfd_in (grT N k0 (dayZ first) nights (dayZ till) (N 6) n).1 (k := k0) (first := dayZ first) (nights := nights) (by omega) (by omega)
              refine gB hC _ _ _ _ _ _ _ qX12_group_92 rfl ?_
              refine g_icmp_ge hC 192 dX12_group_95 rfl (by first | omega | exact bI_in _) (by first | omega | exact bI_in _) (fun c95 => ?_) (fun c95 => ?_)
              · have hnn : n = stays.toNat := by omega
                refine gB hC _ _ _ _ _ _ _ qX12_group_192 rfl ?_
                refine g_getr hC dX12_group_193 fX12_9 hwn.1.1.1 (by decide) rfl 0 rfl hwn.1.2.1.1 ?_
                refine gB hC _ _ _ _ _ _ _ qX12_group_196 rfl ?_
                refine g_iald hC dX12_group_199 hwn.1.1.2.1 (gMd_at hwn.1 _) (by omega) (by omega) (by decide) (fun i199 => ?_)
                refine gB hC _ _ _ _ _ _ _ qX12_group_200 rfl ?_
                refine g_ast hC dX12_group_202 hwn.1.1.2.1 (by omega) (by omega) (by decide) (by first | omega | exact bI_in _) (fun V202 e202 => ?_)
                have hw202 := gMw_up hwn e202
                
                refine gB hC _ _ _ _ _ _ _ qX12_group_203 rfl ?_
                refine g_getr hC dX12_group_204 fX12_9 hw202.1.1.1 (by decide) rfl 0 rfl hw202.1.2.1.1 ?_
                refine gB hC _ _ _ _ _ _ _ qX12_group_207 rfl ?_
                refine g_iald hC dX12_group_209 hw202.1.1.2.1 (gMd_at hw202.1 _) (by omega) (by omega) (by decide) (fun i209 => ?_)
                refine gB hC _ _ _ _ _ _ _ qX12_group_210 rfl ?_
                refine g_ireturn hC dX12_group_212 hr ⟨?_, rfl, ?_, ?_⟩ gs_rfl ⟨Nat.le_of_ble_eq_true rfl, Nat.le_of_ble_eq_true rfl⟩
                · rw [if_pos cF]
                  first
                  | (rw [if_pos (by rw [← hnn]; exact hgd)]; rw [upN_eq]; congr 3; omega)
                  | (have hst : (grT N k0 (dayZ first) nights (dayZ till) (N 6) (n + 1)).2 ≠ -1 := by rw [grT, if_neg (by omega), if_neg (by omega)]; omega
                     have h8 := grT_stay hst (stays.toNat - (n + 1))
                     rw [show n + 1 + (stays.toNat - (n + 1)) = stays.toNat by omega] at h8
                     rw [h8, if_neg hst])
                · rw [if_pos cF, hw202.2, e86, e77, cF]
                  first
                  | (rw [if_pos (by rw [← hnn]; exact hgd), ← hnn, e6]; done)
                  | (have hst2 : (grT N k0 (dayZ first) nights (dayZ till) (N 6) (n + 1)).2 = rfd (grT N k0 (dayZ first) nights (dayZ till) (N 6) n).1 k0 (dayZ first) nights := by rw [grT, if_neg (by omega), if_neg (by omega)]
                     have hst : (grT N k0 (dayZ first) nights (dayZ till) (N 6) (n + 1)).2 ≠ -1 := by omega
                     have h8 := grT_stay hst (stays.toNat - (n + 1))
                     rw [show n + 1 + (stays.toNat - (n + 1)) = stays.toNat by omega] at h8
                     rw [h8, if_neg hst, hst2])
                · rw [if_pos cF]
                  split <;> omega
              · refine gB hC _ _ _ _ _ _ _ qX12_group_98 rfl ?_
                refine g_cS1i hC dX12_group_101 mX12_27 sX12_dayOf (kX12_dayOf (by omega)) rfl rfl (Nat.le_of_ble_eq_true rfl) (RR rfl rfl rfl rfl) (fun z i101 => ?_)
                refine gB hC _ _ _ _ _ _ _ qX12_group_104 rfl ?_
                refine g_cV1i hC dX12_group_106 mX12_94 vX12_refused (kX12_refused hwn.1 hIn.1 (by omega) (by rw [e1]; omega) (by omega) (by omega) (by omega)) rfl hwn.1.1.1 (by decide) rfl (Nat.le_of_ble_eq_true rfl) (RR rfl rfl rfl rfl) (fun z i106 => ?_)
                refine gB hC _ _ _ _ _ _ _ qX12_group_109 rfl ?_
                refine g_icmp_ne hC 147 dX12_group_114 rfl (by first | omega | exact bI_in _) (by first | omega | exact bI_in _) (fun c114 => ?_) (fun c114 => ?_)
                · refine gB hC _ _ _ _ _ _ _ qX12_group_147 rfl ?_
                  refine g_getr hC dX12_group_148 fX12_13 hwn.1.1.1 (by decide) rfl 1 rfl hwn.1.2.1.2.1 ?_
                  refine gB hC _ _ _ _ _ _ _ qX12_group_151 rfl ?_
                  refine g_geti hC dX12_group_152 fX12_101 hwn.1.1.1 (by decide) rfl 2 rfl (fun i152 => ?_)
                  refine gB hC _ _ _ _ _ _ _ qX12_group_155 rfl ?_
                  refine g_getr hC dX12_group_162 fX12_9 hwn.1.1.1 (by decide) rfl 0 rfl hwn.1.2.1.1 ?_
                  refine gB hC _ _ _ _ _ _ _ qX12_group_165 rfl ?_
                  have eVb : V86 b 2 = kpC V77 b + 1 := by rw [e86]; unfold kpV; rw [if_neg (by omega), if_pos ⟨rfl, rfl⟩]
                  have hkc : 0 ≤ kpC V77 b ∧ kpC V77 b ≤ 5 := by unfold kpC; split <;> omega
                  have eWb : ∀ X : gN0, wrN V86 b X b 2 = V86 b 2 := by intro X; unfold wrN; rw [if_neg (by omega)]
                  rw [eWb, eVb]
                  refine g_copy_int hC dX12_group_169 mX12_104 gCpN gCpS gCpI hwn.1.1.2.2.1 hwn.1.1.2.1 ⟨by decide, by decide⟩ (by omega) (by decide) (by decide) (by omega) (by decide) ⟨Nat.le_of_ble_eq_true rfl, Nat.le_of_ble_eq_true rfl⟩ ?_
                  have hwB := gMw_back hm77 e86 hwn (N := N) (fun j hj => elo j (by omega) (by omega)) (sp := (kpC V77 b + 1 - 1) * 5022) (by omega)
                  generalize cpV _ (b + 2) _ (b + 1) 0 5022 = VB at hwB
                  refine gB hC _ _ _ _ _ _ _ qX12_group_172 rfl ?_
                  refine g_getr hC dX12_group_173 fX12_9 hwB.1.1.1 (by decide) rfl 0 rfl hwB.1.2.1.1 ?_
                  refine gB hC _ _ _ _ _ _ _ qX12_group_176 rfl ?_
                  refine g_cS1i hC dX12_group_180 mX12_66 sX12_dateOf (kX12_dateOf (by omega) (by omega)) rfl rfl (Nat.le_of_ble_eq_true rfl) (RR rfl rfl rfl rfl) (fun z i180 => ?_)
                  refine g_ast hC dX12_group_183 hwB.1.1.2.1 (by omega) (by omega) (by decide) (by first | omega | exact bI_in _) (fun V183 e183 => ?_)
                  have hw183 := gMw_up hwB e183
                  refine gB hC _ _ _ _ _ _ _ qX12_group_184 rfl ?_
                  refine g_ireturn hC dX12_group_185 hr ⟨?_, rfl, ?_, ?_⟩ gs_rfl ⟨Nat.le_of_ble_eq_true rfl, Nat.le_of_ble_eq_true rfl⟩
                  · rw [if_pos cF]
                    first
                    | (rw [if_pos (by rw [← hnn]; exact hgd)]; rw [upN_eq]; congr 3; omega)
                    | (have hst : (grT N k0 (dayZ first) nights (dayZ till) (N 6) (n + 1)).2 ≠ -1 := by rw [grT, if_neg (by omega), if_neg (by omega)]; omega
                       have h8 := grT_stay hst (stays.toNat - (n + 1))
                       rw [show n + 1 + (stays.toNat - (n + 1)) = stays.toNat by omega] at h8
                       rw [h8, if_neg hst])
                  · rw [if_pos cF, hw183.2, e86, e77, cF]
                    first
                    | (rw [if_pos (by rw [← hnn]; exact hgd), ← hnn, e6]; done)
                    | (have hst2 : (grT N k0 (dayZ first) nights (dayZ till) (N 6) (n + 1)).2 = rfd (grT N k0 (dayZ first) nights (dayZ till) (N 6) n).1 k0 (dayZ first) nights := by rw [grT, if_neg (by omega), if_neg (by omega)]
                       have hst : (grT N k0 (dayZ first) nights (dayZ till) (N 6) (n + 1)).2 ≠ -1 := by omega
                       have h8 := grT_stay hst (stays.toNat - (n + 1))
                       rw [show n + 1 + (stays.toNat - (n + 1)) = stays.toNat by omega] at h8
                       rw [h8, if_neg hst, hst2])
                  · rw [if_pos cF]
                    split <;> omega
                · refine gB hC _ _ _ _ _ _ _ qX12_group_117 rfl ?_
                  refine g_cS1i hC dX12_group_120 mX12_27 sX12_dayOf (kX12_dayOf (by omega)) rfl rfl (Nat.le_of_ble_eq_true rfl) (RR rfl rfl rfl rfl) (fun z i120 => ?_)
                  refine gB hC _ _ _ _ _ _ _ qX12_group_123 rfl ?_
                  refine g_cS1i hC dX12_group_129 mX12_27 sX12_dayOf (kX12_dayOf (by omega)) rfl rfl (Nat.le_of_ble_eq_true rfl) (RR rfl rfl rfl rfl) (fun z i129 => ?_)
                  refine gB hC _ _ _ _ _ _ _ qX12_group_132 rfl ?_
                  refine g_getr hC dX12_group_133 fX12_9 hwn.1.1.1 (by decide) rfl 0 rfl hwn.1.2.1.1 ?_
                  refine gB hC _ _ _ _ _ _ _ qX12_group_136 rfl ?_
                  refine g_iald hC dX12_group_138 hwn.1.1.2.1 (gMd_at hwn.1 _) (by omega) (by omega) (by decide) (fun i138 => ?_)
                  rw [e6]
                  refine g_cV1im hC dX12_group_139 mX12_97 vX12_makes (kX12_makes hwn.1 hIn.1 (by unfold mkOk; omega)) rfl hwn.1.1.1 (by decide) rfl (Nat.le_of_ble_eq_true rfl) (RR rfl rfl rfl rfl) (fun z V139 e139 i139 => ?_)
                  have hw139 := gMw_wr hwn e139
                  refine gB hC _ _ _ _ _ _ _ qX12_group_142 rfl ?_
                  refine gB hC _ _ _ _ _ _ _ qX12_group_186 rfl ?_
                  have hst : grT N k0 (dayZ first) nights (dayZ till) (N 6) (n + 1) = (mkN (grT N k0 (dayZ first) nights (dayZ till) (N 6) n).1 k0 (dayZ first) nights 1 0 (dayZ till) (N 6), -1) := by rw [grT, if_neg (by omega), if_pos (by omega)]
                  rw [hw139.2, show mkN (grT N k0 (dayZ first) nights (dayZ till) (N 6) n).1 k0 (dayZ first) nights 1 0 (dayZ till) (N 6) = (grT N k0 (dayZ first) nights (dayZ till) (N 6) (n + 1)).1 by rw [hst]]
                  exact ih (n + 1, _, _) z ⟨by show ((n + 1 : Nat) : Int) ≤ stays; omega, by show (grT N k0 (dayZ first) nights (dayZ till) (N 6) (n + 1)).2 = -1; rw [hst]⟩ (by show (stays - ((n + 1 : Nat) : Int)).toNat < (stays - (n : Int)).toNat; omega)
            · have cF := bI_0.mp c80
              refine gB hC _ _ _ _ _ _ _ qX12_group_83 rfl ?_
              refine g_ireturn hC dX12_group_84 hr ⟨?_, rfl, ?_, ?_⟩ gs_rfl ⟨Nat.le_of_ble_eq_true rfl, Nat.le_of_ble_eq_true rfl⟩
              · rw [if_neg cF]
              · rw [if_neg cF]; exact e77
              · rw [if_neg cF]; decide
