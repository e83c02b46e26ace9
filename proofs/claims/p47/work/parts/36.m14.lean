/-! the reference: limbs (rows laid by wip/whole/m14.py) -/
/-- the memory with a row laid -/
def rwV (V : gV) (a0 : Int) (C : gN0) (m : Int) : gV := fun a j => if a = a0 ∧ 0 ≤ j ∧ j < m then C j else V a j
theorem rwV_at {V : gV} {a0 : Int} {C : gN0} {m j : Int} (h0 : 0 ≤ j) (h1 : j < m) : rwV V a0 C m a0 j = C j := by unfold rwV; rw [if_pos ⟨rfl, h0, h1⟩]
theorem rwV_up {V : gV} {a0 : Int} {C : gN0} {n j x : Int} (h0 : 0 ≤ j) (h1 : j < n) : up (rwV V a0 C n) a0 j x = rwV V a0 (upN C j x) n := by
  funext a i
  unfold up rwV upN
  by_cases ha : a = a0
  · subst ha
    by_cases hi : i = j
    · subst hi; rw [if_pos ⟨rfl, rfl⟩, if_pos ⟨rfl, h0, h1⟩, if_pos rfl]
    · rw [if_neg (fun q => hi q.2)]
      by_cases h2 : 0 ≤ i ∧ i < n
      · rw [if_pos ⟨rfl, h2⟩, if_pos ⟨rfl, h2⟩, if_neg hi]
      · rw [if_neg (fun q => h2 q.2), if_neg (fun q => h2 q.2)]
  · rw [if_neg (fun q => ha q.1), if_neg (fun q => ha q.1), if_neg (fun q => ha q.1)]
theorem rwV_0 (V : gV) (a0 : Int) (C : gN0) : V = rwV V a0 C 0 := by
  funext a j
  unfold rwV
  rw [if_neg (by omega)]
theorem rwV_1 {V : gV} {a0 x : Int} {n : Int} (h : 0 ≤ n) : up (rwV V a0 (fun _ => x) n) a0 n x = rwV V a0 (fun _ => x) (n + 1) := by
  funext a i
  unfold up rwV
  by_cases ha : a = a0
  · subst ha
    by_cases hi : i = n
    · subst hi; rw [if_pos ⟨rfl, rfl⟩, if_pos ⟨rfl, h, by omega⟩]
    · rw [if_neg (fun q => hi q.2)]
      by_cases h2 : 0 ≤ i ∧ i < n
      · rw [if_pos ⟨rfl, h2⟩, if_pos ⟨rfl, h2.1, by omega⟩]
      · rw [if_neg (fun q => h2 q.2), if_neg (fun q => by omega)]
  · rw [if_neg (fun q => ha q.1), if_neg (fun q => ha q.1), if_neg (fun q => ha q.1)]
theorem gMd_rw {b : Int} {N : gN0} {Sh : gSh} {V : gV} (h : gMd b N Sh V) (C : gN0) (m : Int) : gMd b N Sh (rwV V (b + 5) C m) := by
  have k : ∀ a, a ≠ b + 5 → rwV V (b + 5) C m a = V a := by
    intro a ha
    funext j
    unfold rwV
    rw [if_neg (fun q => ha q.1)]
  obtain ⟨h1, ⟨h2, h3, h4, h5, h6⟩, h7⟩ := h
  have kb := k b (by omega)
  refine ⟨h1, ⟨?_, ?_, ?_, ?_, ?_⟩, ?_⟩
  · rw [kb]; exact h2
  · rw [kb]; exact h3
  · rw [kb]; exact h4
  · rw [kb]; exact h5
  · rw [kb]; exact h6
  · rw [k (b + 1) (by omega)]; exact h7
/-- limbs -/
def liOk (C : gN0) : Prop := ∀ j, 0 ≤ j → j < 44 → 0 ≤ C j ∧ C j ≤ 999999999
def mxT (C : gN0) (to by9 other oby : Int) : Nat → gN0 × Int
  | 0 => (C, 0)
  | n + 1 => (upN (mxT C to by9 other oby n).1 (to * 4 + n) (((mxT C to by9 other oby n).1 (to * 4 + n) * by9 + (if other < 0 then 0 else (mxT C to by9 other oby n).1 (other * 4 + n) * oby) + (mxT C to by9 other oby n).2) % 1000000000),
      ((mxT C to by9 other oby n).1 (to * 4 + n) * by9 + (if other < 0 then 0 else (mxT C to by9 other oby n).1 (other * 4 + n) * oby) + (mxT C to by9 other oby n).2) / 1000000000)
theorem mx_v {x y u w c : Int} (hx : 0 ≤ x ∧ x ≤ 999999999) (hy : 0 ≤ y ∧ y ≤ 1000) (hu : 0 ≤ u ∧ u ≤ 999999999) (hw : 0 ≤ w ∧ w ≤ 1000) (hc : 0 ≤ c ∧ c ≤ 2000) : 0 ≤ x * y ∧ x * y ≤ 999999999000 ∧ 0 ≤ u * w ∧ u * w ≤ 999999999000 := by
  have h1 : 0 ≤ x * y := Int.mul_nonneg hx.1 hy.1
  have h2 : x * y ≤ 999999999 * y := Int.mul_le_mul_of_nonneg_right hx.2 hy.1
  have h3 : 0 ≤ u * w := Int.mul_nonneg hu.1 hw.1
  have h4 : u * w ≤ 999999999 * w := Int.mul_le_mul_of_nonneg_right hu.2 hw.1
  omega
theorem mxT_in {C : gN0} {to by9 other oby : Int} (h : liOk C) (ht : 0 ≤ to ∧ to ≤ 10) (ho : other ≤ 10) (hb : 0 ≤ by9 ∧ by9 ≤ 1000) (hob : 0 ≤ oby ∧ oby ≤ 1000) : ∀ n : Nat, n ≤ 4 → liOk (mxT C to by9 other oby n).1 ∧ 0 ≤ (mxT C to by9 other oby n).2 ∧ (mxT C to by9 other oby n).2 ≤ 2000 := by
  intro n
  induction n with
  | zero => intro _; exact ⟨h, Int.le_refl _, by show (0 : Int) ≤ 2000; decide⟩
  | succ n ih =>
    intro hn
    obtain ⟨a1, a2, a3⟩ := ih (by omega)
    have hx := a1 (to * 4 + n) (by omega) (by omega)
    have hu : 0 ≤ (if other < 0 then 0 else (mxT C to by9 other oby n).1 (other * 4 + n) * oby) ∧ (if other < 0 then 0 else (mxT C to by9 other oby n).1 (other * 4 + n) * oby) ≤ 999999999000 := by
      split
      · omega
      · have h5 := a1 (other * 4 + n) (by omega) (by omega)
        have h6 := mx_v h5 hob h5 hob ⟨a2, a3⟩
        omega
    have hv := mx_v hx hb hx hb ⟨a2, a3⟩
    rw [mxT]
    generalize (if other < 0 then 0 else (mxT C to by9 other oby n).1 (other * 4 + n) * oby) = u at *
    refine ⟨fun j j0 j1 => ?_, by dsimp only; omega, by dsimp only; omega⟩
    dsimp only
    unfold upN
    split
    · omega
    · exact a1 j j0 j1

