/-! the reference: readers (rows laid by wip/whole/m1.py) -/
abbrev RR {a b c d e f g h : Nat} (h1 : Nat.ble a b = true) (h2 : Nat.ble c d = true) (h3 : Nat.ble e f = true) (h4 : Nat.ble g h = true) : (a ≤ b ∧ c ≤ d) ∧ (e ≤ f ∧ g ≤ h) := ⟨⟨Nat.le_of_ble_eq_true h1, Nat.le_of_ble_eq_true h2⟩, Nat.le_of_ble_eq_true h3, Nat.le_of_ble_eq_true h4⟩
