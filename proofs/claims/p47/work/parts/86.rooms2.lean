section RMS
variable {N rho : gN0} {k d : Int}
/-- stays in a room, by rooms and by stays -/
def ndX (N rho : gN0) (m d : Int) (n : Nat) : Nat → Int
  | 0 => 0
  | r + 1 => ndX N rho m d n r + (if (m = 45 ∧ (ndI N rho r d n).1 = 1) ∨ (m ≠ 45 ∧ (ndI N rho r d n).2 = 1 ∧ (ndI N rho r d n).1 = 0) then 1 else 0)
def clS (N rho : gN0) (m d : Int) : Nat → Int
  | 0 => 0
  | n + 1 => clS N rho m d n + (if rho n ≠ -1 ∧ (sF N n 2 ≤ d ∧ d ≤ sF N n 2 + sF N n 3 - 1) ∧ (m = 45 ↔ sF N n 2 + sF N n 3 - 1 = d) then 1 else 0)
theorem ndR_X (m : Int) : ∀ U : Nat, ndR N rho m d U = ndX N rho m d (N 5).toNat U := by
  intro U
  induction U with
  | zero => rfl
  | succ U ih => unfold ndR ndX; rw [ih]
theorem ndX_eq {m : Int} {n : Nat} : ∀ U : Nat, (∀ r : Nat, r < U → ndI N rho r d (n + 1) = ndI N rho r d n) → ndX N rho m d (n + 1) U = ndX N rho m d n U := by
  intro U
  induction U with
  | zero => intro _; rfl
  | succ U ih => intro h; unfold ndX; rw [ih (fun r hr => h r (by omega)), h U (by omega)]
theorem ndI_skip {r : Int} {n : Nat} (h : ¬ (rho n = r ∧ (sF N n 2 ≤ d ∧ d ≤ sF N n 2 + sF N n 3 - 1))) : ndI N rho r d (n + 1) = ndI N rho r d n := by rw [ndI, if_neg h]
theorem ndI_0 {r : Int} : ∀ n : Nat, (∀ s : Int, 0 ≤ s → s < n → rho s = r → ¬ (sF N s 2 ≤ d ∧ d ≤ sF N s 2 + sF N s 3 - 1)) → ndI N rho r d n = (0, 0) := by
  intro n
  induction n with
  | zero => intro _; rfl
  | succ n ih =>
    intro h
    rw [ndI_skip (fun q => h n (by omega) (by omega) q.1 q.2)]
    exact ih (fun s s0 s1 => h s s0 (by omega))
theorem ndI_1 {r : Int} : ∀ n : Nat, (∃ s : Int, 0 ≤ s ∧ s < n ∧ rho s = r ∧ (sF N s 2 ≤ d ∧ d ≤ sF N s 2 + sF N s 3 - 1)) → (ndI N rho r d n).2 = 1 := by
  intro n
  induction n with
  | zero => rintro ⟨s, s0, s1, _⟩; have : s < 0 := s1; omega
  | succ n ih =>
    rintro ⟨s, s0, s1, s2, s3⟩
    by_cases q : rho n = r ∧ (sF N n 2 ≤ d ∧ d ≤ sF N n 2 + sF N n 3 - 1)
    · rw [ndI, if_pos q]
    · rw [ndI_skip q]
      by_cases e : s = (n : Int)
      · subst e; exact absurd ⟨s2, s3⟩ q
      · exact ih ⟨s, s0, by omega, s2, s3⟩
theorem ndX_one {m : Int} {n r0 : Nat} (hr : rho n = r0) (hh : (sF N n 2 ≤ d ∧ d ≤ sF N n 2 + sF N n 3 - 1)) (h0 : ndI N rho r0 d n = (0, 0)) : ∀ U : Nat, ndX N rho m d (n + 1) U = ndX N rho m d n U + (if r0 < U ∧ (m = 45 ↔ sF N n 2 + sF N n 3 - 1 = d) then 1 else 0) := by
  intro U
  induction U with
  | zero => rw [if_neg (by omega)]; rfl
  | succ U ih =>
    unfold ndX
    rw [ih]
    by_cases e : U = r0
    · subst e
      have e1 : ndI N rho (U : Int) d (n + 1) = (if sF N n 2 + sF N n 3 - 1 = d then 1 else 0, 1) := by
        rw [ndI, if_pos ⟨hr, hh⟩, h0]; simp
      rw [e1, h0]
      dsimp only
      by_cases c1 : sF N n 2 + sF N n 3 - 1 = d <;> by_cases c2 : m = 45 <;> simp [c1, c2] <;> omega
    · rw [ndI_skip (r := (U : Int)) (n := n) (fun q => by have := q.1; omega)]
      by_cases c : r0 < U
      · by_cases c3 : (m = 45 ↔ sF N n 2 + sF N n 3 - 1 = d)
        · rw [if_pos (⟨c, c3⟩ : r0 < U ∧ _), if_pos (⟨by omega, c3⟩ : r0 < U + 1 ∧ _)]; omega
        · rw [if_neg (fun q : r0 < U ∧ _ => c3 q.2), if_neg (fun q : r0 < U + 1 ∧ _ => c3 q.2)]; omega
      · rw [if_neg (fun q : r0 < U ∧ _ => c q.1), if_neg (fun q : r0 < U + 1 ∧ _ => by have := q.1; omega)]; omega
/-- at most one stay in a room on a night: rooms counted are stays counted -/
theorem cl_nd {m : Int} {U : Nat} : ∀ n : Nat, (∀ s : Int, 0 ≤ s → s < n → rho s = -1 ∨ (0 ≤ rho s ∧ rho s < U)) → (∀ s t : Int, 0 ≤ s → s < t → t < n → rho s = rho t → rho s ≠ -1 → (sF N s 2 ≤ d ∧ d ≤ sF N s 2 + sF N s 3 - 1) → (sF N t 2 ≤ d ∧ d ≤ sF N t 2 + sF N t 3 - 1) → False) → ndX N rho m d n U = clS N rho m d n := by
  intro n
  induction n with
  | zero =>
    intro _ _
    have : ∀ U : Nat, ndX N rho m d 0 U = 0 := by
      intro U
      induction U with
      | zero => rfl
      | succ U ih => unfold ndX; rw [ih]; simp [ndI]
    exact this U
  | succ n ih =>
    intro hr hu
    have ih := ih (fun s s0 s1 => hr s s0 (by omega)) (fun s t s0 st t1 => hu s t s0 st (by omega))
    unfold clS
    rw [← ih]
    by_cases hh : (sF N n 2 ≤ d ∧ d ≤ sF N n 2 + sF N n 3 - 1)
    · rcases hr n (by omega) (by omega) with h1 | ⟨h1, h2⟩
      · rw [if_neg (fun q => q.1 h1), ndX_eq U (fun r hr => ndI_skip (fun q => by have := q.1; omega))]; omega
      · obtain ⟨r0, hr0⟩ : ∃ r0 : Nat, rho n = r0 := ⟨(rho n).toNat, by omega⟩
        rw [ndX_one hr0 hh (ndI_0 n (fun s s0 s1 s2 s3 => hu s n s0 s1 (by omega) (by omega) (by omega) s3 hh)) U]
        by_cases c3 : (m = 45 ↔ sF N n 2 + sF N n 3 - 1 = d)
        · rw [if_pos (⟨by omega, c3⟩ : r0 < U ∧ _), if_pos ⟨by omega, hh, c3⟩]
        · rw [if_neg (fun q : r0 < U ∧ _ => c3 q.2), if_neg (fun q => c3 q.2.2)]
    · rw [if_neg (fun q => hh q.2.1), ndX_eq U (fun r hr => ndI_skip (fun q => hh q.2))]; omega
theorem nd_U (n : Nat) : ∀ U : Nat, ndX N rho 45 d n U + ndX N rho 20 d n U ≤ U := by
  intro U
  induction U with
  | zero => exact Int.le_refl _
  | succ U ih =>
    have h := ndI_in N rho U d n
    unfold ndX
    split <;> split <;> omega
theorem nd_U1 (n : Nat) : ∀ U : Nat, (∀ r : Nat, r < U → (ndI N rho r d n).2 = 1) → (U : Int) ≤ ndX N rho 45 d n U + ndX N rho 20 d n U := by
  intro U
  induction U with
  | zero => intro _; exact Int.le_refl _
  | succ U ih =>
    intro h0
    have h1 := h0 U (by omega)
    have ih := ih (fun r hr => h0 r (by omega))
    have h := ndI_in N rho U d n
    unfold ndX
    split <;> split <;> omega
/-- rooms counted are not more than stays counted -/
theorem nd_one {n : Nat} {r0 : Int} (he : ∀ r : Nat, (r : Int) ≠ r0 → ndI N rho r d (n + 1) = ndI N rho r d n) : ∀ U : Nat, ndX N rho 45 d (n + 1) U + ndX N rho 20 d (n + 1) U ≤ ndX N rho 45 d n U + ndX N rho 20 d n U + (if r0 < U then 1 else 0) := by
  intro U
  induction U with
  | zero => show (0 : Int) + 0 ≤ 0 + 0 + _; split <;> omega
  | succ U ih =>
    have h := ndI_in N rho U d n
    have h' := ndI_in N rho U d (n + 1)
    by_cases e : (U : Int) = r0
    · rw [if_neg (by omega)] at ih
      rw [if_pos (by omega)]
      unfold ndX
      split <;> split <;> split <;> split <;> omega
    · have e1 := he U e
      have e2 : (if r0 < ((U + 1 : Nat) : Int) then (1 : Int) else 0) = if r0 < (U : Int) then 1 else 0 := by
        by_cases c : r0 < (U : Int)
        · rw [if_pos c, if_pos (by omega)]
        · rw [if_neg c, if_neg (by omega)]
      rw [e2]
      unfold ndX
      rw [e1]
      omega
theorem nd_cl {U : Nat} : ∀ n : Nat, ndX N rho 45 d n U + ndX N rho 20 d n U ≤ clS N rho 45 d n + clS N rho 20 d n := by
  intro n
  induction n with
  | zero =>
    have : ∀ (m : Int) (U : Nat), ndX N rho m d 0 U = 0 := by
      intro m U
      induction U with
      | zero => rfl
      | succ U ih => unfold ndX; rw [ih]; simp [ndI]
    rw [this, this]
    exact Int.le_refl _
  | succ n ih =>
    by_cases hh : rho n ≠ -1 ∧ (sF N n 2 ≤ d ∧ d ≤ sF N n 2 + sF N n 3 - 1)
    · have h1 := nd_one (N := N) (rho := rho) (d := d) (n := n) (r0 := rho n) (fun r hr => ndI_skip (fun q => hr q.1.symm)) U
      have h2 : (if rho n < (U : Int) then (1 : Int) else 0) ≤ 1 := by split <;> omega
      have h3 : clS N rho 45 d (n + 1) + clS N rho 20 d (n + 1) = clS N rho 45 d n + clS N rho 20 d n + 1 := by
        rw [show clS N rho 45 d (n + 1) = clS N rho 45 d n + _ from rfl, show clS N rho 20 d (n + 1) = clS N rho 20 d n + _ from rfl]
        by_cases c : sF N n 2 + sF N n 3 - 1 = d
        · rw [if_pos ⟨hh.1, hh.2, ⟨fun _ => c, fun _ => rfl⟩⟩, if_neg (fun q => absurd (q.2.2.mpr c) (by decide))]; omega
        · rw [if_neg (fun q => c (q.2.2.mp rfl)), if_pos ⟨hh.1, hh.2, ⟨fun g => absurd g (by decide), fun g => absurd g c⟩⟩]; omega
      omega
    · have h1 : ∀ r : Nat, r < U → ndI N rho r d (n + 1) = ndI N rho r d n := fun r _ => ndI_skip (fun q => hh ⟨by have := q.1; omega, q.2⟩)
      rw [ndX_eq U h1, ndX_eq U h1]
      unfold clS
      rw [if_neg (fun q => hh ⟨q.1, q.2.1⟩), if_neg (fun q => hh ⟨q.1, q.2.1⟩)]
      omega
theorem cl_cnt : ∀ n : Nat, (∀ s : Int, 0 ≤ s → s < n → rho s ≠ -1 → alK N k s) → clS N rho 45 d n + clS N rho 20 d n ≤ cntT N k d n := by
  intro n
  induction n with
  | zero => intro _; exact Int.le_refl _
  | succ n ih =>
    intro h
    have ih := ih (fun s s0 s1 => h s s0 (by omega))
    have h1 := h n (by omega) (by omega)
    unfold clS cntT
    by_cases hh : rho n ≠ -1 ∧ (sF N n 2 ≤ d ∧ d ≤ sF N n 2 + sF N n 3 - 1)
    · have a := h1 hh.1
      rw [if_pos (⟨a.1, a.2, hh.2⟩ : (sF N n 0 = 0 ∨ sF N n 0 = 1) ∧ _)]
      by_cases c : sF N n 2 + sF N n 3 - 1 = d
      · rw [if_pos ⟨hh.1, hh.2, ⟨fun _ => c, fun _ => rfl⟩⟩, if_neg (fun q => absurd (q.2.2.mpr c) (by decide))]; omega
      · rw [if_neg (fun q => c (q.2.2.mp rfl)), if_pos ⟨hh.1, hh.2, ⟨fun g => absurd g (by decide), fun g => absurd g c⟩⟩]; omega
    · rw [if_neg (fun q => hh ⟨q.1, q.2.1⟩), if_neg (fun q => hh ⟨q.1, q.2.1⟩)]
      split <;> omega
theorem cnt_cl : ∀ n : Nat, (∀ s : Int, 0 ≤ s → s < n → alK N k s → rho s ≠ -1) → cntT N k d n ≤ clS N rho 45 d n + clS N rho 20 d n := by
  intro n
  induction n with
  | zero => intro _; exact Int.le_refl _
  | succ n ih =>
    intro h
    have ih := ih (fun s s0 s1 => h s s0 (by omega))
    have h1 := h n (by omega) (by omega)
    unfold clS cntT
    by_cases hh : (sF N n 0 = 0 ∨ sF N n 0 = 1) ∧ sF N n 1 = k ∧ sF N n 2 ≤ d ∧ d ≤ sF N n 2 + sF N n 3 - 1
    · rw [if_pos hh]
      have a := h1 ⟨hh.1, hh.2.1⟩
      by_cases c : sF N n 2 + sF N n 3 - 1 = d
      · rw [if_pos ⟨a, hh.2.2, ⟨fun _ => c, fun _ => rfl⟩⟩]; split <;> omega
      · rw [if_neg (fun q => c (q.2.2.mp rfl)), if_pos ⟨a, hh.2.2, ⟨fun g => absurd g (by decide), fun g => absurd g c⟩⟩]; omega
    · rw [if_neg hh]
      split <;> split <;> omega
theorem cnt_ge {U n : Nat} (hp : ∀ s : Int, 0 ≤ s → s < n → rho s ≠ -1 → alK N k s) (h : ∀ r : Nat, r < U → ∃ s : Int, 0 ≤ s ∧ s < n ∧ rho s = r ∧ (sF N s 2 ≤ d ∧ d ≤ sF N s 2 + sF N s 3 - 1)) : (U : Int) ≤ cntT N k d n :=
  Int.le_trans (nd_U1 n U (fun r hr => ndI_1 n (h r hr))) (Int.le_trans (nd_cl n) (cl_cnt n hp))
end RMS
section GVS
variable {N : gN0} {k R : Int} {f : gN0} {m : Nat}
theorem lrT_ch (N rho : gN0) (k s : Int) : ∀ (n : Nat) (r : Int), (lrT N rho k s n r = -1 ∧ ∀ q : Int, r ≤ q → q < r + n → tkT N rho k q s (N 5).toNat = 1) ∨ (r ≤ lrT N rho k s n r ∧ lrT N rho k s n r < r + n ∧ tkT N rho k (lrT N rho k s n r) s (N 5).toNat ≠ 1 ∧ ∀ q : Int, r ≤ q → q < lrT N rho k s n r → tkT N rho k q s (N 5).toNat = 1) := by
  intro n
  induction n with
  | zero => intro r; exact Or.inl ⟨rfl, fun q a b => by have : q < r + 0 := b; omega⟩
  | succ n ih =>
    intro r
    by_cases h : tkT N rho k r s (N 5).toNat = 1
    · rw [lrT, if_pos h]
      rcases ih (r + 1) with ⟨h1, h2⟩ | ⟨h1, h2, h3, h4⟩
      · refine Or.inl ⟨h1, fun q a b => ?_⟩
        by_cases e : q = r
        · rw [e]; exact h
        · exact h2 q (by omega) (by omega)
      · refine Or.inr ⟨by omega, by omega, h3, fun q a b => ?_⟩
        by_cases e : q = r
        · rw [e]; exact h
        · exact h4 q (by omega) b
    · rw [lrT, if_neg h]
      exact Or.inr ⟨by omega, by omega, h, fun q a b => by omega⟩
theorem gv_keep (hI : InvC N) (H : SRT N k f m (N 5).toNat) {j : Nat} : ∀ i : Nat, j < i → i ≤ m → (gvT N k R i).1 (f j) = lrT N (gvT N k R j).1 k (f j) R.toNat 0 := by
  intro i
  induction i with
  | zero => intro h _; omega
  | succ i ih =>
    intro h1 h2
    by_cases e : j = i
    · subst e; exact gv_new hI H (by omega)
    · rw [gv_old hI H (by omega) (by omega) (by omega)]
      exact ih (by omega) (by omega)
theorem gv_img (hI : InvC N) (H : SRT N k f m (N 5).toNat) {i : Nat} (hi : i ≤ m) {t : Int} (h : (gvT N k R i).1 t ≠ -1) : ∃ j : Nat, j < i ∧ f j = t := by
  apply Classical.byContradiction
  intro q
  refine h (gv_rho hI H i hi t (fun j j0 j1 e => q ⟨j.toNat, by omega, ?_⟩))
  rw [show ((j.toNat : Nat) : Int) = j by omega]; exact e
theorem gv_dis (hI : InvC N) (H : SRT N k f m (N 5).toNat) {i j : Nat} (hij : i < j) (hj : j < m) (e : (gvT N k R m).1 (f i) = (gvT N k R m).1 (f j)) (hn : (gvT N k R m).1 (f i) ≠ -1) : sF N (f i) 2 + sF N (f i) 3 - 1 < sF N (f j) 2 := by
  have hs := hI.1
  unfold iScal at hs
  have e1 := gv_keep (R := R) hI H (j := i) m (by omega) (Nat.le_refl _)
  have e2 := gv_keep (R := R) hI H (j := i) j hij (by omega)
  have e3 := gv_keep (R := R) hI H (j := j) m hj (Nat.le_refl _)
  have hfi := H.1 i (by omega) (by omega)
  rcases lrT_ch N (gvT N k R j).1 k (f j) R.toNat 0 with ⟨h1, _⟩ | ⟨_, _, h3, _⟩
  · omega
  · apply Classical.byContradiction
    intro q
    refine h3 ((tkT_iff _ _ _ _ _ _).mpr ⟨f i, hfi.1, hfi.2.1, f_ne H (by omega) (by omega) (by omega), by omega, hfi.2.2, by omega⟩)
theorem gv_us (hI : InvC N) (H : SRT N k f m (N 5).toNat) : ∀ i : Nat, i ≤ m → 0 ≤ (gvT N k R i).2.2.2 ∧ ∀ j : Nat, j < i → -1 ≤ (gvT N k R i).1 (f j) ∧ (gvT N k R i).1 (f j) < (gvT N k R i).2.2.2 := by
  intro i
  induction i with
  | zero => intro _; exact ⟨Int.le_refl _, fun j h => by omega⟩
  | succ i ih =>
    intro hi
    obtain ⟨h1, h2⟩ := ih (by omega)
    have e : (gvT N k R (i + 1)).2.2.2 = max (gvT N k R i).2.2.2 (lrT N (gvT N k R i).1 k (f i) R.toNat 0 + 1) := by rw [gv_step hI H (by omega)]
    rw [e]
    refine ⟨by omega, fun j hj => ?_⟩
    by_cases q : j = i
    · subst q
      rw [gv_new hI H (by omega)]
      have := (lrT_in N (gvT N k R j).1 k (f j) R.toNat 0 (Int.le_refl _)).1
      omega
    · rw [gv_old hI H (by omega) (by omega) (by omega)]
      have := h2 j (by omega)
      omega
theorem gv_uniq (hI : InvC N) (H : SRT N k f m (N 5).toNat) {d s t : Int} (hst : s ≠ t) (e : (gvT N k R m).1 s = (gvT N k R m).1 t) (hn : (gvT N k R m).1 s ≠ -1) (h1 : (sF N s 2 ≤ d ∧ d ≤ sF N s 2 + sF N s 3 - 1)) (h2 : (sF N t 2 ≤ d ∧ d ≤ sF N t 2 + sF N t 3 - 1)) : False := by
  obtain ⟨i, hi, rfl⟩ := gv_img (R := R) hI H (Nat.le_refl m) hn
  obtain ⟨j, hj, rfl⟩ := gv_img (R := R) hI H (Nat.le_refl m) (fun q => hn (e.trans q))
  have hij : i ≠ j := fun q => hst (by rw [q])
  by_cases q : i < j
  · have := gv_dis hI H q hj e hn
    omega
  · have := gv_dis hI H (show j < i by omega) hi e.symm (fun g => hn (e.trans g))
    omega
theorem gv_rng (hI : InvC N) (H : SRT N k f m (N 5).toNat) (s : Int) : (gvT N k R m).1 s = -1 ∨ (0 ≤ (gvT N k R m).1 s ∧ (gvT N k R m).1 s < (((gvT N k R m).2.2.2.toNat : Nat) : Int)) := by
  by_cases h : (gvT N k R m).1 s = -1
  · exact Or.inl h
  · obtain ⟨j, hj, rfl⟩ := gv_img hI H (Nat.le_refl m) h
    have := gv_us (R := R) hI H m (Nat.le_refl _)
    have h2 := this.2 j hj
    omega
/-- rooms to clean: counted by rooms, counted by stays -/
theorem nd_sm (hI : InvC N) (H : SRT N k f m (N 5).toNat) (mm d : Int) : ndR N (gvT N k R (N 5).toNat).1 mm d (gvT N k R (N 5).toNat).2.2.2.toNat = smF (fun s => if (gvT N k R (N 5).toNat).1 s ≠ -1 ∧ (sF N s 2 ≤ d ∧ d ≤ sF N s 2 + sF N s 3 - 1) ∧ (mm = 45 ↔ sF N s 2 + sF N s 3 - 1 = d) then 1 else 0) f m := by
  rw [ndR_X, H.2.2.2.1]
  rw [gv_end hI H]
  rw [cl_nd (N 5).toNat (fun s _ _ => gv_rng hI H s) (fun s t s0 st t1 e hn h1 h2 => gv_uniq hI H (by omega) e hn h1 h2)]
  have key : ∀ n : Nat, clS N (gvT N k R m).1 mm d n = smA N k (fun s => if (gvT N k R m).1 s ≠ -1 ∧ (sF N s 2 ≤ d ∧ d ≤ sF N s 2 + sF N s 3 - 1) ∧ (mm = 45 ↔ sF N s 2 + sF N s 3 - 1 = d) then 1 else 0) n := by
    intro n
    induction n with
    | zero => rfl
    | succ n ih =>
      unfold clS smA
      rw [ih]
      by_cases h : alK N k n
      · rw [if_pos h]
      · rw [if_neg h, if_neg]
        intro q
        obtain ⟨j, hj, e⟩ := gv_img (R := R) hI H (Nat.le_refl m) q.1
        have := H.1 j (by omega) (by omega)
        rw [e] at this
        exact h this.2.2
  exact key _
theorem gv_occ (hI : InvC N) (H : SRT N k f m (N 5).toNat) {i q : Nat} (hi : i < m) (h : ∀ r : Int, 0 ≤ r → r < q → tkT N (gvT N k R i).1 k r (f i) (N 5).toNat = 1) : (q : Int) + 1 ≤ cnt N k (sF N (f i) 2) := by
  have hs := hI.1
  unfold iScal at hs
  have hfi := H.1 i (by omega) (by omega)
  have hsi := (hI.2.2.2.1 (f i) hfi.1 (by omega)).1
  have key := cnt_ge (N := N) (k := k) (d := sF N (f i) 2) (rho := upN (gvT N k R i).1 (f i) q) (U := q + 1) (n := (N 5).toNat) (fun s s0 s1 sr => ?_) (fun r hr => ?_)
  · unfold cnt; omega
  · by_cases e : s = f i
    · rw [e]; exact hfi.2.2
    · rw [upN_ne e] at sr
      obtain ⟨j, hj, ej⟩ := gv_img (R := R) hI H (by omega) sr
      have := H.1 j (by omega) (by omega)
      rw [ej] at this
      exact this.2.2
  · by_cases e : r = q
    · exact ⟨f i, hfi.1, hfi.2.1, by rw [upN_eq, e], Int.le_refl _, by omega⟩
    · obtain ⟨t, t0, t1, t2, t3, t4, t5⟩ := (tkT_iff _ _ _ _ _ _).mp (h r (by omega) (by omega))
      obtain ⟨j, hj, ej⟩ := gv_img (R := R) (t := t) hI H (show i ≤ m by omega) (by omega)
      have hl := lxl_ij H (i := (j : Int)) (j := (i : Int)) (by omega) (by omega) (by omega)
      rw [ej] at hl
      unfold lxl at hl
      exact ⟨t, t0, t1, by rw [upN_ne t2]; exact t3, by omega, t5⟩
theorem SRT_pl {t : Int} : ∀ n : Nat, n ≤ m → (∀ j : Int, (n : Int) ≤ j → j < m → sF N t 2 < sF N (f j) 2) → ∃ pl : Nat, pl ≤ m ∧ (∀ j : Int, (pl : Int) ≤ j → j < m → sF N t 2 < sF N (f j) 2) ∧ (pl = 0 ∨ sF N (f ((pl : Int) - 1)) 2 ≤ sF N t 2) := by
  intro n
  induction n with
  | zero => intro _ h; exact ⟨0, by omega, h, Or.inl rfl⟩
  | succ n ih =>
    intro hn h
    by_cases q : sF N (f n) 2 ≤ sF N t 2
    · exact ⟨n + 1, hn, h, Or.inr (by rw [show ((n + 1 : Nat) : Int) - 1 = (n : Int) by omega]; exact q)⟩
    · refine ih (by omega) (fun j j0 j1 => ?_)
      by_cases e : j = (n : Int)
      · rw [e]; omega
      · exact h j (by omega) j1
theorem SRT_ex (N : gN0) (k : Int) : ∀ t : Nat, ∃ (m : Nat) (f : gN0), SRT N k f m t := by
  intro t
  induction t with
  | zero => exact ⟨0, fun _ => 0, SRT_0 _ _ _⟩
  | succ t ih =>
    obtain ⟨m, f, H⟩ := ih
    by_cases h : alK N k t
    · obtain ⟨pl, p1, p2, p3⟩ := SRT_pl (N := N) (f := f) (m := m) (t := t) m (Nat.le_refl _) (fun j a b => by omega)
      refine ⟨m + 1, fun i => if i < pl then f i else if i = pl then t else f (i - 1), SRT_ins H h p1 p2 p3 (fun i a b => if_pos b) ?_ (fun i a b => ?_)⟩
      · show (if (pl : Int) < pl then _ else _) = _
        rw [if_neg (by omega), if_pos rfl]
      · show (if i < (pl : Int) then _ else _) = _
        rw [if_neg (by omega), if_neg (by omega)]
    · exact ⟨m, f, SRT_skip H h⟩
/-- as many rooms as the greatest count -/
theorem gv_mo (hI : InvC N) : (gvT N k 60 (N 5).toNat).2.2.2 = moN N k 0 36524 (N 5).toNat := by
  have hs := hI.1
  unfold iScal at hs
  obtain ⟨m, f, H⟩ := SRT_ex N k (N 5).toNat
  rw [gv_end hI H]
  have hge := moN_ge (N := N) (k := k) (x := 0) (y := 36524) (N 5).toNat
  have h0 := moN_in hI k 0 36524 (N 5).toNat
  have h1 : ∀ i : Nat, i ≤ m → (gvT N k 60 i).2.2.2 ≤ moN N k 0 36524 (N 5).toNat := by
    intro i
    induction i with
    | zero => intro _; exact h0.1
    | succ i ih =>
      intro hi
      have ih := ih (by omega)
      have hfi := H.1 i (by omega) (by omega)
      have hsi := (hI.2.2.2.1 (f i) hfi.1 (by omega)).1
      have e : (gvT N k 60 (i + 1)).2.2.2 = max (gvT N k 60 i).2.2.2 (lrT N (gvT N k 60 i).1 k (f i) (60 : Int).toNat 0 + 1) := by rw [gv_step hI H (by omega)]
      rw [e]
      rcases lrT_ch N (gvT N k 60 i).1 k (f i) (60 : Int).toNat 0 with ⟨a1, _⟩ | ⟨a1, a2, a3, a4⟩
      · omega
      · have := gv_occ (R := 60) (q := (lrT N (gvT N k 60 i).1 k (f i) (60 : Int).toNat 0).toNat) hI H (show i < m by omega) (fun r r0 r1 => a4 r r0 (by omega))
        have := hge.2 (f i) hfi.1 (by omega) hfi.2.2 (by omega) (by omega)
        omega
  have hall : ∀ s : Int, 0 ≤ s → s < (N 5).toNat → alK N k s → (gvT N k 60 m).1 s ≠ -1 := by
    intro s s0 s1 sa
    obtain ⟨j, j0, j1, j2⟩ := H.2.2.1 s s0 s1 sa
    obtain ⟨i, rfl⟩ : ∃ i : Nat, j = i := ⟨j.toNat, by omega⟩
    rw [← j2, gv_keep hI H m (by omega) (Nat.le_refl _)]
    rcases lrT_ch N (gvT N k 60 i).1 k (f i) (60 : Int).toNat 0 with ⟨a1, a2⟩ | ⟨a1, a2, a3, a4⟩
    · exfalso
      have := gv_occ (R := 60) (q := 60) hI H (show i < m by omega) (fun r r0 r1 => a2 r r0 (by show r < 0 + 60; omega))
      have := (cnt_in hI k (sF N (f i) 2)).2
      omega
    · omega
  have h2 : ∀ x : Int, cnt N k x ≤ (gvT N k 60 m).2.2.2 := by
    intro x
    have a := cnt_cl (d := x) (N 5).toNat hall
    have b : ∀ mm, ndX N (gvT N k 60 m).1 mm x (N 5).toNat (gvT N k 60 m).2.2.2.toNat = clS N (gvT N k 60 m).1 mm x (N 5).toNat := fun mm =>
      cl_nd (N 5).toNat (fun s _ _ => gv_rng hI H s) (fun s t s0 st t1 e hn g1 g2 => gv_uniq hI H (by omega) e hn g1 g2)
    have c := nd_U (N := N) (rho := (gvT N k 60 m).1) (d := x) (N 5).toNat (gvT N k 60 m).2.2.2.toNat
    have u := (gv_us (R := 60) hI H m (Nat.le_refl _)).1
    rw [b, b] at c
    unfold cnt
    omega
  have h3 := moN_le (N := N) (k := k) (x := 0) (y := 36524) (h2 0) (N 5).toNat (fun s _ _ _ _ _ => h2 _)
  have h4 := h1 m (Nat.le_refl _)
  omega
/-- the second way: someone too many, someone without a room -/
theorem er_1 (N rho : gN0) (k : Int) : ∀ n : Nat, IFF (erI N rho k n).1 (∃ s : Int, 0 ≤ s ∧ s < n ∧ alK N k s ∧ kF N k 0 < cnt N k (sF N s 2)) ∧ IFF (erI N rho k n).2 (∃ s : Int, 0 ≤ s ∧ s < n ∧ alK N k s ∧ rho s = -1) := by
  intro n
  induction n with
  | zero => exact ⟨⟨fun h => absurd (show (0 : Int) = 1 from h) (by decide), fun ⟨s, s0, s1, _⟩ => by have : s < 0 := s1; omega⟩, ⟨fun h => absurd (show (0 : Int) = 1 from h) (by decide), fun ⟨s, s0, s1, _⟩ => by have : s < 0 := s1; omega⟩⟩
  | succ n ih =>
    obtain ⟨i1, i2⟩ := ih
    unfold erI
    by_cases h : alK N k n
    · have h' : (sF N n 0 = 0 ∨ sF N n 0 = 1) ∧ sF N n 1 = k := h
      rw [if_pos h']
      refine ⟨⟨fun g => ?_, fun ⟨s, s0, s1, s2, s3⟩ => ?_⟩, ⟨fun g => ?_, fun ⟨s, s0, s1, s2, s3⟩ => ?_⟩⟩
      · dsimp only at g
        split at g
        · rename_i c
          rcases c with c | c
          · obtain ⟨s, s0, s1, s2, s3⟩ := i1.mp c; exact ⟨s, s0, by omega, s2, s3⟩
          · exact ⟨n, by omega, by omega, h, c⟩
        · exact absurd g (by decide)
      · dsimp only
        rw [if_pos]
        by_cases e : s = (n : Int)
        · right; rw [← e]; exact s3
        · left; exact i1.mpr ⟨s, s0, by omega, s2, s3⟩
      · dsimp only at g
        split at g
        · rename_i c
          rcases c with c | c
          · obtain ⟨s, s0, s1, s2, s3⟩ := i2.mp c; exact ⟨s, s0, by omega, s2, s3⟩
          · exact ⟨n, by omega, by omega, h, c⟩
        · exact absurd g (by decide)
      · dsimp only
        rw [if_pos]
        by_cases e : s = (n : Int)
        · right; rw [← e]; exact s3
        · left; exact i2.mpr ⟨s, s0, by omega, s2, s3⟩
    · have h' : ¬ ((sF N n 0 = 0 ∨ sF N n 0 = 1) ∧ sF N n 1 = k) := h
      rw [if_neg h']
      refine ⟨⟨fun g => ?_, fun ⟨s, s0, s1, s2, s3⟩ => ?_⟩, ⟨fun g => ?_, fun ⟨s, s0, s1, s2, s3⟩ => ?_⟩⟩
      · obtain ⟨s, s0, s1, s2, s3⟩ := i1.mp g; exact ⟨s, s0, by omega, s2, s3⟩
      · refine i1.mpr ⟨s, s0, ?_, s2, s3⟩
        by_cases e : s = (n : Int)
        · rw [e] at s2; exact absurd s2 h
        · omega
      · obtain ⟨s, s0, s1, s2, s3⟩ := i2.mp g; exact ⟨s, s0, by omega, s2, s3⟩
      · refine i2.mpr ⟨s, s0, ?_, s2, s3⟩
        by_cases e : s = (n : Int)
        · rw [e] at s2; exact absurd s2 h
        · omega
theorem cntT_ex {d : Int} : ∀ n : Nat, 0 < cntT N k d n → ∃ s : Int, 0 ≤ s ∧ s < n ∧ alK N k s ∧ (sF N s 2 ≤ d ∧ d ≤ sF N s 2 + sF N s 3 - 1) := by
  intro n
  induction n with
  | zero => intro h; exact absurd (show (0 : Int) < 0 from h) (by decide)
  | succ n ih =>
    intro h
    unfold cntT at h
    split at h
    · rename_i c; exact ⟨n, by omega, by omega, ⟨c.1, c.2.1⟩, c.2.2⟩
    · obtain ⟨s, s0, s1, s2⟩ := ih (by omega); exact ⟨s, s0, by omega, s2⟩
theorem er_mo (hI : InvC N) (hk : 0 ≤ kF N k 0) (rho : gN0) : (erI N rho k (N 5).toNat).1 = bI (kF N k 0 < moN N k 0 36524 (N 5).toNat) := by
  have hs := hI.1
  unfold iScal at hs
  have h1 := (er_1 N rho k (N 5).toNat).1
  have h2 := (erI_in N rho k (N 5).toNat).1
  have hge := moN_ge (N := N) (k := k) (x := 0) (y := 36524) (N 5).toNat
  by_cases q : kF N k 0 < moN N k 0 36524 (N 5).toNat
  · rw [bI_t q]
    apply h1.mpr
    apply Classical.byContradiction
    intro g
    have hc0 : cnt N k 0 ≤ kF N k 0 := by
      apply Classical.byContradiction
      intro g2
      obtain ⟨s, s0, s1, s2, s3⟩ := cntT_ex (N := N) (k := k) (d := 0) (N 5).toNat (by unfold cnt at g2; omega)
      have := (hI.2.2.2.1 s s0 (by omega)).1
      omega
    have := moN_le (N := N) (k := k) (x := 0) (y := 36524) hc0 (N 5).toNat (fun s s0 s1 s2 _ _ => by
      apply Classical.byContradiction
      intro g2
      exact g ⟨s, s0, s1, s2, by omega⟩)
    omega
  · rw [bI_f q]
    apply h2.resolve_right
    intro g
    obtain ⟨s, s0, s1, s2, s3⟩ := h1.mp g
    have hst := (hI.2.2.2.1 s s0 (by omega)).1
    have := hge.2 s s0 s1 s2 (by omega) (by omega)
    omega
theorem er_wo (H : SRT N k f m (N 5).toNat) {rho : gN0} {w : Int} (hw : w = 0 ∨ w = 1) (h : IFF w (∃ j : Int, 0 ≤ j ∧ j < m ∧ rho (f j) = -1)) : (erI N rho k (N 5).toNat).2 = w := by
  have h1 := (er_1 N rho k (N 5).toNat).2
  have h2 := (erI_in N rho k (N 5).toNat).2
  rcases hw with rfl | rfl
  · apply h2.resolve_right
    intro g
    obtain ⟨s, s0, s1, s2, s3⟩ := h1.mp g
    obtain ⟨j, j0, j1, j2⟩ := H.2.2.1 s s0 s1 s2
    exact absurd (h.mpr ⟨j, j0, j1, by rw [j2]; exact s3⟩) (by decide)
  · apply h1.mpr
    obtain ⟨j, j0, j1, j2⟩ := h.mp rfl
    have := H.1 j j0 j1
    exact ⟨f j, this.1, this.2.1, this.2.2, j2⟩
end GVS
