/-! the reference: how many more (rows laid by wip/whole/m17.py) -/
theorem rwV_rw (V : gV) (a0 : Int) (C D : gN0) {m n : Int} (h : m ≤ n) : rwV (rwV V a0 C m) a0 D n = rwV V a0 D n := by
  funext a j
  unfold rwV
  by_cases q : a = a0 ∧ 0 ≤ j ∧ j < n
  · rw [if_pos q, if_pos q]
  · rw [if_neg q, if_neg q, if_neg (fun g => q ⟨g.1, g.2.1, by omega⟩)]
/-- how many more can be sold, of some -/
def moT (odds risk rooms : Int) : Nat → Int
  | 0 => 0
  | m + 1 => if smT odds (rooms + (m + 1)).toNat rooms (rooms + (m + 1) - rooms).toNat ≤ risk * pw (rooms + (m + 1) - 1).toNat then m + 1 else moT odds risk rooms m
theorem moT_in (odds risk rooms : Int) : ∀ m : Nat, 0 ≤ moT odds risk rooms m ∧ moT odds risk rooms m ≤ m := by
  intro m
  induction m with
  | zero => exact ⟨Int.le_refl _, Int.le_refl _⟩
  | succ m ih => unfold moT; split <;> omega
/-- an answer, the limbs may be others -/
def gRm (x b : Int) (Sh : gSh) (V : gV) : gPo := fun o Sh' V' _ => o = .inl (some (0, x)) ∧ Sh' = Sh ∧ inI x ∧ ∃ (C : gN0) (m : Int), m ≤ 44 ∧ V' = rwV V (b + 5) C m

