/-! the reference: dates, checks (rows laid by wip/whole/m2.py) -/
def fitC (x1 x2 x3 : Int) : Int := if x1 = 0 then 1 else if x2 = 0 then 2 else if x3 = 0 then 3 else 0
theorem fitC_in (x1 x2 x3 : Int) : 0 ≤ fitC x1 x2 x3 ∧ fitC x1 x2 x3 ≤ 3 := by unfold fitC; (repeat' split) <;> omega
