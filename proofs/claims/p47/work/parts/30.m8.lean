/-! the reference: longer, shorter, groups (rows laid by wip/whole/m8.py) -/
theorem snT_in {N : gN0} (hI : InvC N) {k first : Int} (h0 : 0 ≤ k) (h1 : k < N 1) : ∀ n : Nat, (∀ i : Int, 0 ≤ i → i < n → cnt N k (first + i) < kF N k 0 + kF N k 2) → 0 ≤ snT N k first n ∧ snT N k first n ≤ 720000 * n := by
  intro n
  induction n with
  | zero => intro _; exact ⟨Int.le_refl _, Int.le_refl _⟩
  | succ n ih =>
    intro h
    have h2 := ih (fun i a b => h i a (by omega))
    have h3 := nPr_had hI h0 h1 (h n (by omega) (by omega))
    unfold snT
    omega
theorem loN_inv {N : gN0} {s n : Int} (hI : INV N) (h0 : 0 ≤ s) (h1 : s < N 5) (hn0 : 1 ≤ n) (hn : sF N s 3 + n ≤ 14) (he : sF N s 2 + sF N s 3 - 1 + n < 36525) (hh : ∀ i : Int, 0 ≤ i → i < n → cnt N (sF N s 1) (sF N s 2 + sF N s 3 + i) < kF N (sF N s 1) 0 + kF N (sF N s 1) 2) : INV (loN N s n) := by
  have h := hI.1.2.2.2.1 s h0 h1
  have h3 := h.1
  have hag : AgT N (loN N s n) s := by
    intro j q1 q2
    unfold loN
    rw [upN_ne (by omega)]
    exact prP_s h0 (by omega) hn j q1 q2
  have e1 : loN N s n 1 = N 1 := hag.lo h0 (by decide)
  have eb : ∀ j, 9 ≤ j → j ≤ 12 → loN N s n j = N j := by
    intro j a b
    unfold loN
    rw [upN_ne (by omega)]
    exact prP_ne _ _ _ (by unfold sF at *; omega)
  have e : ∀ w, w ≠ 3 → 0 ≤ w → w < 10 + sF N s 3 → sF (loN N s n) s w = sF N s w := by
    intro w a b b2
    unfold loN
    show upN _ _ _ _ = _
    rw [upN_ne (by omega)]
    exact prP_ne _ _ _ (by omega)
  have e3 : sF (loN N s n) s 3 = sF N s 3 + n := upN_eq _ _ _
  have ep : ∀ i, sF N s 3 ≤ i → i < sF N s 3 + n → sF (loN N s n) s (10 + i) = nPr N (sF N s 1) (sF N s 2 + sF N s 3 + (i - sF N s 3)) := by
    intro i a b
    unfold loN
    show upN _ _ _ _ = _
    rw [upN_ne (by omega), prP_at _ _ _ (by omega)]
    congr 1
    omega
  refine INV_s hag h0 h1 hI ?_ ?_
  · unfold sOk at h ⊢
    rw [e1, e3, e 0 (by decide) (by decide) (by omega), e 1 (by decide) (by decide) (by omega), e 2 (by decide) (by decide) (by omega), e 4 (by decide) (by decide) (by omega), e 5 (by decide) (by decide) (by omega), e 6 (by decide) (by decide) (by omega), e 7 (by decide) (by decide) (by omega), e 8 (by decide) (by decide) (by omega), e 9 (by decide) (by decide) (by omega)]
    refine ⟨by omega, fun i a b => ?_⟩
    by_cases hi : i < sF N s 3
    · rw [e _ (by omega) (by omega) (by omega)]
      exact h.2 i a hi
    · rw [ep i (by omega) b]
      exact nPr_had hI.1 (by omega) (by omega) (hh _ (by omega) (by omega))
  · rw [e 0 (by decide) (by decide) (by omega), eb 9 (by decide) (by decide), eb 10 (by decide) (by decide), eb 11 (by decide) (by decide), eb 12 (by decide) (by decide)]
    omega
/-- stays of a group, one behind the other: the state, the night by which one is refused -/
def grT (N : gN0) (k first nights till g : Int) : Nat → gN0 × Int
  | 0 => (N, -1)
  | m + 1 => if (grT N k first nights till g m).2 ≠ -1 then grT N k first nights till g m
    else if rfd (grT N k first nights till g m).1 k first nights = -1 then (mkN (grT N k first nights till g m).1 k first nights 1 0 till g, -1)
    else ((grT N k first nights till g m).1, rfd (grT N k first nights till g m).1 k first nights)
theorem grT_stay {N : gN0} {k first nights till g : Int} {i : Nat} (h : (grT N k first nights till g i).2 ≠ -1) : ∀ d : Nat, grT N k first nights till g (i + d) = grT N k first nights till g i := by
  intro d
  induction d with
  | zero => rfl
  | succ d ih =>
    rw [← Nat.add_assoc, grT, if_pos (by rw [ih]; exact h), ih]
theorem grT_inv {N : gN0} {k first nights till g : Int} (hI : INV N) (ho : 0 ≤ k ∧ k < N 1 ∧ 8822 ≤ first ∧ 1 ≤ nights ∧ nights ≤ 14 ∧ first + nights ≤ 36525 ∧ 8822 ≤ till ∧ till ≤ 36524 ∧ -1 ≤ g ∧ g ≤ 9) : ∀ m : Nat, N 5 + m ≤ 60 →
    INV (grT N k first nights till g m).1 ∧ ((grT N k first nights till g m).2 = -1 → (grT N k first nights till g m).1 5 = N 5 + m) ∧ N 5 ≤ (grT N k first nights till g m).1 5 ∧ (∀ j, j ≠ 5 → (j < 56 + 24 * N 5 ∨ 1496 ≤ j) → (grT N k first nights till g m).1 j = N j) ∧ -1 ≤ (grT N k first nights till g m).2 ∧ (grT N k first nights till g m).2 ≤ 36524 := by
  intro m
  induction m with
  | zero => intro _; exact ⟨hI, fun _ => by show N 5 = N 5 + ((0 : Nat) : Int); omega, Int.le_refl _, fun _ _ _ => rfl, by show (-1 : Int) ≤ -1; omega, by show (-1 : Int) ≤ _; omega⟩
  | succ m ih =>
    intro hm
    obtain ⟨a1, a2, a3, a4, a5, a6⟩ := ih (by omega)
    unfold grT
    split
    · rename_i h; exact ⟨a1, fun q => absurd q h, a3, a4, a5, a6⟩
    · rename_i h
      have h5 := a2 (by omega)
      have hs := a1.1.1
      unfold iScal at hs
      have e1 := a4 1 (by decide) (Or.inl (by have := hI.1.1; unfold iScal at this; omega))
      split
      · rename_i hr
        have hO : mkOk (grT N k first nights till g m).1 k first nights 1 0 till g := by unfold mkOk; omega
        refine ⟨INV_mk a1 hO (rfd_had hr (by omega) (by omega)).1, fun _ => ?_, ?_, ?_, by show (-1 : Int) ≤ -1; omega, by show (-1 : Int) ≤ _; omega⟩
        · dsimp only
          rw [mkN_5]; omega
        · dsimp only
          rw [mkN_5]; omega
        · intro j q1 q2
          dsimp only
          rw [mkN_old (by omega) (by omega) (by omega) q1 (by omega)]
          exact a4 j q1 q2
      · have hr := rfd_in (grT N k first nights till g m).1 (k := k) (first := first) (nights := nights) (by omega) (by omega)
        exact ⟨a1, fun q => absurd q (by assumption), a3, a4, by show -1 ≤ rfd _ _ _ _; omega, by show rfd _ _ _ _ ≤ _; omega⟩
/-- the kept state is laid again -/
theorem gMw_back {b : Int} {N M : gN0} {Sh : gSh} {V1 VK Vx : gV} {sp : Int} (h1 : gMd b N Sh V1) (eK : VK = kpV V1 b) (hx : gMw b VK M Sh Vx) (hM : ∀ j, (j < 0 ∨ 5022 ≤ j) → M j = N j) (hsp : sp = kpC V1 b * 5022) : gMw b VK N Sh (cpV Vx (b + 2) sp (b + 1) 0 5022) := by
  have e : cpV Vx (b + 2) sp (b + 1) 0 5022 = wrN VK b N := by
    funext a j
    unfold cpV
    by_cases ha : a = b + 1
    · subst ha
      have ew : wrN VK b N (b + 1) j = N j := by unfold wrN; rw [if_pos rfl]
      rw [ew]
      by_cases hj : 0 ≤ j ∧ j < 0 + 5022
      · rw [if_pos ⟨rfl, hj⟩, hx.2]
        unfold wrN
        rw [if_neg (by omega), eK]
        unfold kpV
        rw [if_pos rfl, if_pos (by omega), show sp + (j - 0) - kpC V1 b * 5022 = j by omega]
        exact gMd_at h1 j
      · rw [if_neg (fun q => hj q.2), gMd_at hx.1 j]
        exact hM j (by omega)
    · rw [if_neg (fun q => ha q.1), hx.2]
      unfold wrN
      rw [if_neg ha, if_neg ha]
  refine ⟨?_, e⟩
  rw [e]
  have hK : gMd b N Sh VK := gMd_kp h1 eK
  exact gMd_w hK rfl

