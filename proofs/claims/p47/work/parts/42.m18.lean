/-! the reference: it is made (rows laid by wip/whole/m18.py) -/
theorem shp_ne (Sh : gSh) {a c : Int} (sh : Nat × Nat) (h : c ≠ a) : shp Sh a sh c = Sh c := if_neg h
theorem shp_eq (Sh : gSh) (a : Int) (sh : Nat × Nat) : shp Sh a sh a = some sh := if_pos rfl
theorem vn_ne (V : gV) {a c : Int} (f : Int → Int) (h : c ≠ a) : vnew V a f c = V c := if_neg h
theorem vn_eq (V : gV) (a : Int) (f : Int → Int) : vnew V a f a = f := if_pos rfl
theorem up_row (V : gV) {a c : Int} (i x : Int) (h : c ≠ a) : up V a i x c = V c := by
  funext j
  exact up_ne V x (Or.inl h)
/-- the state at first -/
def iniN : gN0 := upN (upN (upN (upN (upN (upN (fun _ => 0) 0 8822) 1 2) 31 3) 32 10000) 34 1) 35 25000
def iniSh (Sh : gSh) (b : Int) : gSh := shp (shp (shp (shp (shp (Sh) (b + 1) (100, 5022)) (b + 2) (100, 30132)) (b + 3) (100, 60)) (b + 4) (101, 30)) (b + 5) (101, 44)
/-- the reference is made -/
def gRn (b : Int) (Sh : gSh) (V : gV) : gPo := fun o Sh' V' _ => o = .inl none ∧ Sh' = iniSh Sh b ∧ gMd b iniN Sh' V' ∧ V' b 2 = 0 ∧ V' b 3 = 0 ∧ ∀ a, a < b → V' a = V a

