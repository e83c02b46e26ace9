/-! the reference: rooms (rows laid by wip/whole/m11.py) -/
theorem g_loopE_ : True := trivial
/-- the memory with rooms laid -/
def roV (V : gV) (b : Int) (rho : gN0) (n : Int) : gV := fun a j => if a = b + 3 ∧ 0 ≤ j ∧ j < n then rho j else V a j
theorem gMd_ro {b : Int} {N : gN0} {Sh : gSh} {V : gV} (h : gMd b N Sh V) (rho : gN0) (n : Int) : gMd b N Sh (roV V b rho n) := by
  have k : ∀ a, a ≠ b + 3 → roV V b rho n a = V a := by
    intro a ha
    funext j
    unfold roV
    rw [if_neg (fun q => ha q.1)]
  obtain ⟨h1, ⟨h2, h3, h4, h5, h6⟩, h7⟩ := h
  have kb := k b (by omega)
  refine ⟨h1, ⟨?_, ?_, ?_, ?_, ?_⟩, ?_⟩
  · rw [kb]; exact h2
  · rw [kb]; exact h3
  · rw [kb]; exact h4
  · rw [kb]; exact h5
  · rw [kb]; exact h6
  · rw [k (b + 1) (by omega)]; exact h7
theorem roV_at {V : gV} {b : Int} {rho : gN0} {n j : Int} (h0 : 0 ≤ j) (h1 : j < n) : roV V b rho n (b + 3) j = rho j := by unfold roV; rw [if_pos ⟨rfl, h0, h1⟩]
theorem roV_up {V : gV} {b : Int} {rho : gN0} {n j x : Int} (h0 : 0 ≤ j) (h1 : j < n) : up (roV V b rho n) (b + 3) j x = roV V b (upN rho j x) n := by
  funext a i
  unfold up roV upN
  by_cases ha : a = b + 3
  · subst ha
    by_cases hi : i = j
    · subst hi; rw [if_pos ⟨rfl, rfl⟩, if_pos ⟨rfl, h0, h1⟩, if_pos rfl]
    · rw [if_neg (fun q => hi q.2)]
      by_cases h2 : 0 ≤ i ∧ i < n
      · rw [if_pos ⟨rfl, h2⟩, if_pos ⟨rfl, h2⟩, if_neg hi]
      · rw [if_neg (fun q => h2 q.2), if_neg (fun q => h2 q.2)]
  · rw [if_neg (fun q => ha q.1), if_neg (fun q => ha q.1), if_neg (fun q => ha q.1)]
theorem roV_0 (V : gV) (b : Int) (rho : gN0) : V = roV V b rho 0 := by
  funext a j
  unfold roV
  rw [if_neg (by omega)]
theorem roV_1 {V : gV} {b x : Int} {n : Int} (h : 0 ≤ n) : up (roV V b (fun _ => x) n) (b + 3) n x = roV V b (fun _ => x) (n + 1) := by
  funext a i
  unfold up roV
  by_cases ha : a = b + 3
  · subst ha
    by_cases hi : i = n
    · subst hi; rw [if_pos ⟨rfl, rfl⟩, if_pos ⟨rfl, h, by omega⟩]
    · rw [if_neg (fun q => hi q.2)]
      by_cases h2 : 0 ≤ i ∧ i < n
      · rw [if_pos ⟨rfl, h2⟩, if_pos ⟨rfl, h2.1, by omega⟩]
      · rw [if_neg (fun q => h2 q.2), if_neg (fun q => by omega)]
  · rw [if_neg (fun q => ha q.1), if_neg (fun q => ha q.1), if_neg (fun q => ha q.1)]
/-- whether a room is taken for a stay -/
def tkT (N rho : gN0) (k r s : Int) : Nat → Int
  | 0 => 0
  | n + 1 => if tkT N rho k r s n = 1 ∨ ((n : Int) ≠ s ∧ rho n = r ∧ (sF N n 0 = 0 ∨ sF N n 0 = 1) ∧ sF N n 1 = k ∧ sF N s 2 ≤ sF N n 2 + sF N n 3 - 1) then 1 else 0
theorem tkT_in (N rho : gN0) (k r s : Int) : ∀ n, tkT N rho k r s n = 0 ∨ tkT N rho k r s n = 1 := by
  intro n
  cases n with
  | zero => exact Or.inl rfl
  | succ n => unfold tkT; split; exact Or.inr rfl; exact Or.inl rfl
/-- the lowest room that is free for a stay, of some from one on -/
def lrT (N rho : gN0) (k s : Int) : Nat → Int → Int
  | 0, _ => -1
  | m + 1, r => if tkT N rho k r s (N 5).toNat = 1 then lrT N rho k s m (r + 1) else r
theorem lrT_in (N rho : gN0) (k s : Int) : ∀ (m : Nat) (r : Int), 0 ≤ r → -1 ≤ lrT N rho k s m r ∧ lrT N rho k s m r < r + m ∧ (lrT N rho k s m r = -1 ∨ r ≤ lrT N rho k s m r) := by
  intro m
  induction m with
  | zero => intro r h; exact ⟨Int.le_refl _, by show (-1 : Int) < r + ((0 : Nat) : Int); omega, Or.inl rfl⟩
  | succ m ih =>
    intro r h
    unfold lrT
    split
    · have := ih (r + 1) (by omega); omega
    · omega
/-- the stay behind one, by first nights -/
def nxT (N : gN0) (k d s : Int) : Nat → Int
  | 0 => -1
  | n + 1 => if ((sF N n 0 = 0 ∨ sF N n 0 = 1) ∧ sF N n 1 = k ∧ d ≤ sF N n 2 ∧ (sF N n 2 ≠ d ∨ s < n)) ∧ (nxT N k d s n = -1 ∨ sF N n 2 < sF N (nxT N k d s n) 2) then n else nxT N k d s n
theorem nxT_in (N : gN0) (k d s : Int) : ∀ n : Nat, nxT N k d s n = -1 ∨ (0 ≤ nxT N k d s n ∧ nxT N k d s n < n ∧ d ≤ sF N (nxT N k d s n) 2 ∧ (sF N (nxT N k d s n) 2 ≠ d ∨ s < nxT N k d s n)) := by
  intro n
  induction n with
  | zero => exact Or.inl rfl
  | succ n ih =>
    unfold nxT
    split
    · rename_i h; exact Or.inr ⟨by omega, by omega, h.1.2.2.1, h.1.2.2.2⟩
    · rcases ih with h | h
      · exact Or.inl h
      · exact Or.inr ⟨h.1, by omega, h.2.2⟩
/-- rooms given to the stays of a kind: rooms, the first night and the number of the last one, rooms used -/
def gvT (N : gN0) (k rooms : Int) : Nat → gN0 × Int × Int × Int
  | 0 => (fun _ => -1, -1, -1, 0)
  | n + 1 => if nxT N k (gvT N k rooms n).2.1 (gvT N k rooms n).2.2.1 (N 5).toNat = -1 then gvT N k rooms n else
    (upN (gvT N k rooms n).1 (nxT N k (gvT N k rooms n).2.1 (gvT N k rooms n).2.2.1 (N 5).toNat) (lrT N (gvT N k rooms n).1 k (nxT N k (gvT N k rooms n).2.1 (gvT N k rooms n).2.2.1 (N 5).toNat) rooms.toNat 0),
      sF N (nxT N k (gvT N k rooms n).2.1 (gvT N k rooms n).2.2.1 (N 5).toNat) 2, nxT N k (gvT N k rooms n).2.1 (gvT N k rooms n).2.2.1 (N 5).toNat,
      max (gvT N k rooms n).2.2.2 (lrT N (gvT N k rooms n).1 k (nxT N k (gvT N k rooms n).2.1 (gvT N k rooms n).2.2.1 (N 5).toNat) rooms.toNat 0 + 1))
theorem gvT_stay {N : gN0} {k rooms : Int} {n : Nat} (h : nxT N k (gvT N k rooms n).2.1 (gvT N k rooms n).2.2.1 (N 5).toNat = -1) : ∀ d : Nat, gvT N k rooms (n + d) = gvT N k rooms n := by
  intro d
  induction d with
  | zero => rfl
  | succ d ih => rw [← Nat.add_assoc, gvT, ih, if_pos h]
theorem gvT_in (N : gN0) (k : Int) {rooms : Int} (hr : 0 ≤ rooms) : ∀ n : Nat, 0 ≤ (gvT N k rooms n).2.2.2 ∧ (gvT N k rooms n).2.2.2 ≤ rooms ∧ (∀ t : Int, ((gvT N k rooms n).2.1 < sF N t 2 ∨ (sF N t 2 = (gvT N k rooms n).2.1 ∧ (gvT N k rooms n).2.2.1 < t)) → (gvT N k rooms n).1 t = -1) ∧ (∀ t : Int, -1 ≤ (gvT N k rooms n).1 t ∧ (gvT N k rooms n).1 t < rooms ∨ (gvT N k rooms n).1 t = -1) := by
  intro n
  induction n with
  | zero => exact ⟨Int.le_refl _, hr, fun _ _ => rfl, fun _ => Or.inr rfl⟩
  | succ n ih =>
    obtain ⟨a1, a2, a3, a4⟩ := ih
    rw [gvT]
    split
    · exact ⟨a1, a2, a3, a4⟩
    · rename_i hn
      have hx := (nxT_in N k (gvT N k rooms n).2.1 (gvT N k rooms n).2.2.1 (N 5).toNat).resolve_left hn
      generalize nxT N k (gvT N k rooms n).2.1 (gvT N k rooms n).2.2.1 (N 5).toNat = x at *
      have hl := lrT_in N (gvT N k rooms n).1 k x rooms.toNat 0 (Int.le_refl _)
      generalize lrT N (gvT N k rooms n).1 k x rooms.toNat 0 = lr at *
      refine ⟨by dsimp only; omega, by dsimp only; omega, fun t ht => ?_, fun t => ?_⟩
      · dsimp only at ht ⊢
        have htx : t ≠ x := by intro q; subst q; omega
        rw [upN_ne htx]
        exact a3 t (by omega)
      · dsimp only
        unfold upN
        split
        · left; omega
        · exact a4 t
theorem gvT_d {N : gN0} (hI : InvC N) (k rooms : Int) : ∀ n : Nat, -1 ≤ (gvT N k rooms n).2.1 ∧ (gvT N k rooms n).2.1 ≤ 36525 ∧ -1 ≤ (gvT N k rooms n).2.2.1 ∧ (gvT N k rooms n).2.2.1 ≤ 60 := by
  have hs := hI.1
  unfold iScal at hs
  intro n
  induction n with
  | zero => exact ⟨Int.le_refl _, by show (-1 : Int) ≤ _; omega, Int.le_refl _, by show (-1 : Int) ≤ _; omega⟩
  | succ n ih =>
    rw [gvT]
    split
    · exact ih
    · rename_i hn
      have hx := (nxT_in N k (gvT N k rooms n).2.1 (gvT N k rooms n).2.2.1 (N 5).toNat).resolve_left hn
      have hsk := (hI.2.2.2.1 _ hx.1 (by omega)).1
      dsimp only
      omega

