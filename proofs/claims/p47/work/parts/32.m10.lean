/-! the reference: readers (rows laid by wip/whole/m10.py) -/
def grZ (N : gN0) (k d : Int) : Nat → Int
  | 0 => 0
  | n + 1 => max (grZ N k d n) (cnt N k (d + n))
theorem grZ_in {N : gN0} (h : InvC N) (k d : Int) : ∀ n, 0 ≤ grZ N k d n ∧ grZ N k d n ≤ 60 := by
  intro n
  induction n with
  | zero => exact ⟨Int.le_refl _, by show (0 : Int) ≤ 60; decide⟩
  | succ n ih =>
    have := cnt_in h k (d + n)
    unfold grZ
    omega
def ckZ (N : gN0) : Nat → Int
  | 0 => 17
  | n + 1 => 31 * (31 * (31 * ckZ N n + sF N n 0) + sPr N n) + sF N n 3
def wI (x : Int) : Int := (Int32.ofInt x).toInt
def mnI (N : gN0) (month s : Int) : Nat → Int
  | 0 => 0
  | n + 1 => mnI N month s n + (if dateZ (sF N s 2 + n) / 100 = month then 1 else 0)
def mnT (N : gN0) (month : Int) : Nat → Int
  | 0 => 0
  | n + 1 => mnT N month n + (if sF N n 0 = 1 ∨ sF N n 0 = 4 then mnI N month n (sF N n 3).toNat else 0)
theorem mnI_in (N : gN0) (month s : Int) : ∀ n, 0 ≤ mnI N month s n ∧ mnI N month s n ≤ n := by
  intro n
  induction n with
  | zero => exact ⟨Int.le_refl _, Int.le_refl _⟩
  | succ n ih => unfold mnI; split <;> omega
theorem mnT_in {N : gN0} (h : InvC N) (month : Int) : ∀ n : Nat, (n : Int) ≤ N 5 → 0 ≤ mnT N month n ∧ mnT N month n ≤ 14 * n := by
  intro n
  induction n with
  | zero => intro _; exact ⟨Int.le_refl _, by show (0 : Int) ≤ 14 * ((0 : Nat) : Int); omega⟩
  | succ n ih =>
    intro hn
    have h1 := ih (by omega)
    have hs := (h.2.2.2.1 n (by omega) (by omega)).1
    have h2 := mnI_in N month n (sF N n 3).toNat
    unfold mnT
    split <;> omega
def miI (N : gN0) (month s : Int) : Nat → Int
  | 0 => 0
  | n + 1 => miI N month s n + (if dateZ (sF N s 2 + n) / 100 = month then sF N s (10 + n) else 0)
def miT (N : gN0) (month : Int) : Nat → Int
  | 0 => 0
  | n + 1 => miT N month n + (if sF N n 0 = 1 ∨ sF N n 0 = 4 then miI N month n (sF N n 3).toNat else 0)
theorem miI_in {N : gN0} {month s : Int} (h : sOk N s) : ∀ n : Nat, (n : Int) ≤ sF N s 3 → 0 ≤ miI N month s n ∧ miI N month s n ≤ 720000 * n := by
  intro n
  induction n with
  | zero => intro _; exact ⟨Int.le_refl _, by show (0 : Int) ≤ 720000 * ((0 : Nat) : Int); omega⟩
  | succ n ih =>
    intro hn
    have h1 := ih (by omega)
    have h2 := h.2 n (by omega) (by omega)
    unfold miI
    split <;> omega
theorem miT_in {N : gN0} (h : InvC N) (month : Int) : ∀ n : Nat, (n : Int) ≤ N 5 → 0 ≤ miT N month n ∧ miT N month n ≤ 10080000 * n := by
  intro n
  induction n with
  | zero => intro _; exact ⟨Int.le_refl _, by show (0 : Int) ≤ 10080000 * ((0 : Nat) : Int); omega⟩
  | succ n ih =>
    intro hn
    have h1 := ih (by omega)
    have hs := h.2.2.2.1 n (by omega) (by omega)
    have hs1 := hs.1
    have h2 := miI_in (month := month) hs (sF N n 3).toNat (by omega)
    unfold miT
    split <;> omega
/-- what is told of a stay -/
def stZ (N : gN0) (s w : Int) : Int := if w = 0 then sF N s 0 else if w = 1 then sF N s 1 else if w = 2 then dateZ (sF N s 2) else if w = 3 then sF N s 3 else if w = 4 then sPr N s else if w = 5 then sF N s 6 else if w = 6 then sTx N s else if w = 7 then sF N s 8 else dateZ (sF N s 9)
section GW3
variable {E : gE} {own : ClassId} {nL : Nat} {p : Program} {l : Launch} {e : Env} {R : Room} {s : State} {m : MethodId} {args : Array Value} {below : List Frame} {meth : Method} {c : Code} {Q : State → Prop} {pc k n : Nat} {L st : List aV} {Sh : gSh} {V : gV} {z : Int}
theorem g_wrap1 {x : Int} (kk : gG E nL p l e R s m args below meth c Q pc L ((0, wI x) :: st) Sh V z k n) : gG E nL p l e R s m args below meth c Q pc L ((0, x) :: st) Sh V z k n := by
  have hx : cv (0, x) = cv (0, wI x) := by
    show Value.int _ = Value.int _
    unfold wI
    rw [Int32.ofInt_toInt]
  intro H locs ls h1 h2 h3 h4 h5
  have h6 := kk H locs ls h1 h2 h3 h4 h5
  simp only [List.map_cons] at h6 ⊢
  rw [hx]
  exact h6
end GW3
