/-! the reference: what is kept (rows laid by wip/whole/m5.py) -/
/-- how many changes are kept when one more is to be -/
def kpC (V : gV) (b : Int) : Int := if V b 2 = 6 then 5 else V b 2
/-- the memory with the state kept -/
def kpV (V : gV) (b : Int) : gV := fun a j => if a = b + 2 then (if kpC V b * 5022 ≤ j ∧ j < kpC V b * 5022 + 5022 then V (b + 1) (j - kpC V b * 5022) else if V b 2 = 6 ∧ 0 ≤ j ∧ j < 25110 then V (b + 2) (5022 + j) else V (b + 2) j) else if a = b ∧ j = 2 then kpC V b + 1 else V a j
theorem gMd_cp {b : Int} {N : gN0} {Sh : gSh} {V V1 : gV} {a0 sp dp n : Int} (h : gMd b N Sh V) (e : V1 = cpV V a0 sp (b + 2) dp n) : gMd b N Sh V1 ∧ V1 b = V b := by
  subst e
  obtain ⟨h1, ⟨h2, h3, h4, h5, h6⟩, h7⟩ := h
  have k : ∀ a, a ≠ b + 2 → cpV V a0 sp (b + 2) dp n a = V a := by
    intro a ha
    funext j
    unfold cpV
    rw [if_neg (by omega)]
  have kb := k b (by omega)
  refine ⟨⟨h1, ⟨?_, ?_, ?_, ?_, ?_⟩, ?_⟩, kb⟩
  · rw [kb]; exact h2
  · rw [kb]; exact h3
  · rw [kb]; exact h4
  · rw [kb]; exact h5
  · rw [kb]; exact h6
  · rw [k (b + 1) (by omega)]; exact h7
theorem gMd_kp {b : Int} {N : gN0} {Sh : gSh} {V V1 : gV} (h : gMd b N Sh V) (e : V1 = kpV V b) : gMd b N Sh V1 := by
  subst e
  obtain ⟨h1, ⟨h2, h3, h4, h5, h6⟩, h7⟩ := h
  have k : ∀ j, j ≠ 2 → kpV V b b j = V b j := by
    intro j hj
    unfold kpV
    rw [if_neg (by omega), if_neg (by omega)]
  refine ⟨h1, ⟨?_, ?_, ?_, ?_, ?_⟩, ?_⟩
  · rw [k _ (by decide)]; exact h2
  · rw [k _ (by decide)]; exact h3
  · rw [k _ (by decide)]; exact h4
  · rw [k _ (by decide)]; exact h5
  · rw [k _ (by decide)]; exact h6
  · funext j
    unfold kpV
    rw [if_neg (by omega), if_neg (by omega)]
    exact congrFun h7 j
theorem fit_eq {x1 x2 x3 y1 y2 y3 : Int} (h1 : x1 = y1) (h2 : x2 = y2) (h3 : x3 = y3) : fitC x1 x2 x3 = fitC y1 y2 y3 := by rw [h1, h2, h3]
theorem fit_n1 {x1 x2 x3 : Int} (h : x1 = 0) : fitC x1 x2 x3 ≠ 0 := by unfold fitC; (repeat' split) <;> omega
theorem fit_n2 {x1 x2 x3 : Int} (h : x2 = 0) : fitC x1 x2 x3 ≠ 0 := by unfold fitC; (repeat' split) <;> omega
theorem fit_n3 {x1 x2 x3 : Int} (h : x3 = 0) : fitC x1 x2 x3 ≠ 0 := by unfold fitC; (repeat' split) <;> omega
theorem fit_ok {x1 x2 x3 : Int} (h1 : x1 = 1) (h2 : x2 = 1) (h3 : x3 = 1) : fitC x1 x2 x3 = 0 := by subst h1; subst h2; subst h3; rfl
theorem fit_p1 {P : Prop} [Decidable P] {x2 x3 : Int} (h : fitC (bI P) x2 x3 = 0) : P := by
  unfold fitC at h
  by_cases hp : P
  · exact hp
  · rw [bI_f hp, if_pos rfl] at h; omega
theorem fit_p2 {P : Prop} [Decidable P] {x1 x3 : Int} (h : fitC x1 (bI P) x3 = 0) : P := by
  by_cases hp : P
  · exact hp
  · exact absurd h (fit_n2 (bI_f hp))
theorem fit_p3 {P : Prop} [Decidable P] {x1 x2 : Int} (h : fitC x1 x2 (bI P) = 0) : P := by
  by_cases hp : P
  · exact hp
  · exact absurd h (fit_n3 (bI_f hp))
