/-! the state: a row of numbers; what is read off it -/
abbrev gN0 : Type := Int → Int
def upN (N : gN0) (i x : Int) : gN0 := fun j => if j = i then x else N j
def kF (N : gN0) (k w : Int) : Int := N (31 + k * 3 + w)
def seF (N : gN0) (i w : Int) : Int := N (40 + i * 4 + w)
def sF (N : gN0) (s w : Int) : Int := N (56 + s * 24 + w)
def gF (N : gN0) (g w : Int) : Int := N (1496 + g * 5 + w)
def iScal (N : gN0) : Prop := 8822 ≤ N 0 ∧ N 0 ≤ 36524 ∧ 2 ≤ N 1 ∧ N 1 ≤ 3 ∧ 0 ≤ N 2 ∧ N 2 ≤ 4 ∧ 0 ≤ N 3 ∧ N 3 ≤ 100 ∧ 0 ≤ N 4 ∧ N 4 ≤ 1000 ∧ 0 ≤ N 5 ∧ N 5 ≤ 60 ∧ 0 ≤ N 6 ∧ N 6 ≤ 10 ∧ 0 ≤ N 7 ∧ N 7 ≤ 20
def kOk (N : gN0) (k : Int) : Prop := 1 ≤ kF N k 0 ∧ kF N k 0 ≤ 6 ∧ 100 ≤ kF N k 1 ∧ kF N k 1 ≤ 100000 ∧ 0 ≤ kF N k 2 ∧ kF N k 2 ≤ 3
def seOk (N : gN0) (i : Int) : Prop := 101 ≤ seF N i 0 ∧ seF N i 0 ≤ 1231 ∧ 101 ≤ seF N i 1 ∧ seF N i 1 ≤ 1231 ∧ -50 ≤ seF N i 2 ∧ seF N i 2 ≤ 100 ∧ 1 ≤ seF N i 3 ∧ seF N i 3 ≤ 7
def sOk (N : gN0) (s : Int) : Prop := (0 ≤ sF N s 0 ∧ sF N s 0 ≤ 4 ∧ 0 ≤ sF N s 1 ∧ sF N s 1 < N 1 ∧ 8822 ≤ sF N s 2 ∧ 1 ≤ sF N s 3 ∧ sF N s 3 ≤ 14 ∧ sF N s 2 + sF N s 3 ≤ 36525 ∧ 1 ≤ sF N s 4 ∧ sF N s 4 ≤ 4 ∧ 0 ≤ sF N s 5 ∧ sF N s 5 ≤ 4 ∧
  0 ≤ sF N s 6 ∧ sF N s 6 ≤ 2016000 ∧ 0 ≤ sF N s 7 ∧ sF N s 7 ≤ 1000 ∧ -1 ≤ sF N s 8 ∧ sF N s 8 ≤ 9 ∧ 8822 ≤ sF N s 9 ∧ sF N s 9 ≤ 36524) ∧ ∀ n, 0 ≤ n → n < sF N s 3 → 0 ≤ sF N s (10 + n) ∧ sF N s (10 + n) ≤ 720000
def gOk (N : gN0) (g : Int) : Prop := 0 ≤ gF N g 0 ∧ gF N g 0 < N 1 ∧ 8822 ≤ gF N g 1 ∧ 1 ≤ gF N g 2 ∧ gF N g 2 ≤ 14 ∧ gF N g 1 + gF N g 2 ≤ 36525 ∧ 1 ≤ gF N g 3 ∧ gF N g 3 ≤ 4 ∧ 0 ≤ gF N g 4 ∧ gF N g 4 ≤ 4
/-- kinds, seasons, stays, those who wait are as they should be -/
def InvC (N : gN0) : Prop := iScal N ∧ (∀ k, 0 ≤ k → k < N 1 → kOk N k) ∧ (∀ i, 0 ≤ i → i < N 2 → seOk N i) ∧ (∀ s, 0 ≤ s → s < N 5 → sOk N s) ∧ ∀ g, 0 ≤ g → g < N 7 → gOk N g
def sAl (N : gN0) (s : Int) : Prop := sF N s 0 = 0 ∨ sF N s 0 = 1
def sLast (N : gN0) (s : Int) : Int := sF N s 2 + sF N s 3 - 1
def sHas (N : gN0) (s d : Int) : Prop := sF N s 2 ≤ d ∧ d ≤ sLast N s
/-- a stay that counts for a kind on a night -/
def sCt (N : gN0) (s k d : Int) : Prop := (sF N s 0 = 0 ∨ sF N s 0 = 1) ∧ sF N s 1 = k ∧ sF N s 2 ≤ d ∧ d ≤ sF N s 2 + sF N s 3 - 1
def cntT (N : gN0) (k d : Int) : Nat → Int
  | 0 => 0
  | n + 1 => cntT N k d n + (if (sF N n 0 = 0 ∨ sF N n 0 = 1) ∧ sF N n 1 = k ∧ sF N n 2 ≤ d ∧ d ≤ sF N n 2 + sF N n 3 - 1 then 1 else 0)
def cnt (N : gN0) (k d : Int) : Int := cntT N k d (N 5).toNat
theorem cntT_in (N : gN0) (k d : Int) : ∀ n, 0 ≤ cntT N k d n ∧ cntT N k d n ≤ n := by
  intro n
  induction n with
  | zero => exact ⟨Int.le_refl _, Int.le_refl _⟩
  | succ n ih => unfold cntT; split <;> omega
theorem cnt_in {N : gN0} (h : InvC N) (k d : Int) : 0 ≤ cnt N k d ∧ cnt N k d ≤ 60 := by
  have h1 := cntT_in N k d (N 5).toNat
  have h2 := h.1
  unfold iScal at h2
  unfold cnt
  omega
/-- a bit of a number -/
def bitZ (w : Int) (j : Nat) : Int := w / 2 ^ j % 2
def clB (N : gN0) (k d : Int) : Prop := bitZ (N (1596 + k * 1142 + d / 32)) (d % 32).toNat = 1
/-- a night that cannot be had -/
def badN (N : gN0) (k d : Int) : Prop := bitZ (N (1596 + k * 1142 + d / 32)) (d % 32).toNat = 1 ∨ kF N k 0 + kF N k 2 ≤ cnt N k d
def rfsT (N : gN0) (k d : Int) : Nat → Int
  | 0 => -1
  | n + 1 => if bitZ (N (1596 + k * 1142 + d / 32)) (d % 32).toNat = 1 ∨ kF N k 0 + kF N k 2 ≤ cnt N k d then d else rfsT N k (d + 1) n
/-- the first of some nights that cannot be had; -1 -/
def rfs (N : gN0) (k first nights : Int) : Int := rfsT N k first nights.toNat
def inSe (N : gN0) (i md : Int) : Prop := (seF N i 0 ≤ seF N i 1 ∧ seF N i 0 ≤ md ∧ md ≤ seF N i 1) ∨ (seF N i 1 < seF N i 0 ∧ (seF N i 0 ≤ md ∨ md ≤ seF N i 1))
def lstT (N : gN0) (md : Int) : Nat → Int
  | 0 => 1
  | n + 1 => if (seF N n 0 ≤ seF N n 1 ∧ seF N n 0 ≤ md ∧ md ≤ seF N n 1) ∨ (seF N n 1 < seF N n 0 ∧ (seF N n 0 ≤ md ∨ md ≤ seF N n 1)) then max (lstT N md n) (seF N n 3) else lstT N md n
def lstN (N : gN0) (d : Int) : Int := lstT N (dateZ d % 10000) (N 2).toNat
/-- the night by which a stay would be refused; -1 -/
def rfd (N : gN0) (k first nights : Int) : Int := if rfs N k first nights ≠ -1 then rfs N k first nights else if nights < lstN N first then first else -1
def pctT (N : gN0) (md p : Int) : Nat → Int
  | 0 => p
  | n + 1 => pctT N md p n + (if (seF N n 0 ≤ seF N n 1 ∧ seF N n 0 ≤ md ∧ md ≤ seF N n 1) ∨ (seF N n 1 < seF N n 0 ∧ (seF N n 0 ≤ md ∨ md ≤ seF N n 1)) then seF N n 2 else 0)
def pct (N : gN0) (k d : Int) : Int := pctT N (dateZ d % 10000) (100 + 10 * (4 * cnt N k d / kF N k 0)) (N 2).toNat + (if wdZ d = 5 ∨ wdZ d = 6 then N 3 else 0)
/-- the price of a night -/
def nPr (N : gN0) (k d : Int) : Int := if pct N k d < 0 then 0 else (kF N k 1 * pct N k d + 50) / 100
def prT (N : gN0) (s : Int) : Nat → Int
  | 0 => 0
  | n + 1 => prT N s n + sF N s (10 + n)
def sPr (N : gN0) (s : Int) : Int := prT N s (sF N s 3).toNat
def sTx (N : gN0) (s : Int) : Int := sF N s 3 * (sF N s 4 * sF N s 7 + sF N s 5 * ((sF N s 7 + 1) / 2))
/-! the reference in the heap: its object at b, its rows at b + 1 .. b + 5 -/
def gMd (b : Int) (N : gN0) (Sh : gSh) (V : gV) : Prop :=
  (Sh b = some (11, 0) ∧ Sh (b + 1) = some (100, 5022) ∧ Sh (b + 2) = some (100, 30132) ∧ Sh (b + 3) = some (100, 60) ∧ Sh (b + 4) = some (101, 30) ∧ Sh (b + 5) = some (101, 44)) ∧
  (V b 0 = b + 1 ∧ V b 1 = b + 2 ∧ V b 4 = b + 3 ∧ V b 5 = b + 4 ∧ V b 6 = b + 5) ∧ V (b + 1) = N
theorem gMd_at {b : Int} {N : gN0} {Sh : gSh} {V : gV} (h : gMd b N Sh V) (i : Int) : V (b + 1) i = N i := congrFun h.2.2 i
/-- another cell than now is written, or a number of the object -/
theorem gMd_o {b : Int} {N : gN0} {Sh : gSh} {V V1 : gV} {a i x : Int} (h : gMd b N Sh V) (e : V1 = up V a i x) (ha : (a ≠ b ∧ a ≠ b + 1) ∨ (a = b ∧ (i = 2 ∨ i = 3))) : gMd b N Sh V1 := by
  subst e
  obtain ⟨h1, ⟨h2, h3, h4, h5, h6⟩, h7⟩ := h
  have k : ∀ j : Int, j ≠ 2 → j ≠ 3 → up V a i x b j = V b j := by
    intro j j2 j3
    refine up_ne V x ?_
    rcases ha with ⟨g1, g2⟩ | ⟨g1, g2⟩
    · exact Or.inl (fun q => g1 q.symm)
    · right; rcases g2 with rfl | rfl <;> assumption
  refine ⟨h1, ⟨?_, ?_, ?_, ?_, ?_⟩, ?_⟩
  · rw [k 0 (by decide) (by decide)]; exact h2
  · rw [k 1 (by decide) (by decide)]; exact h3
  · rw [k 4 (by decide) (by decide)]; exact h4
  · rw [k 5 (by decide) (by decide)]; exact h5
  · rw [k 6 (by decide) (by decide)]; exact h6
  · funext j
    rw [up_ne V x (Or.inl (by omega))]
    exact congrFun h7 j
/-- the memory with another state row -/
def wrN (V : gV) (b : Int) (N : gN0) : gV := fun a => if a = b + 1 then N else V a
theorem wrN_self {b : Int} {N : gN0} {Sh : gSh} {V : gV} (h : gMd b N Sh V) : V = wrN V b N := by
  funext a
  unfold wrN
  split
  · rename_i ha; rw [ha]; exact h.2.2
  · rfl
theorem gMd_w {b : Int} {N N' : gN0} {Sh : gSh} {V V1 : gV} (h : gMd b N Sh V) (e : V1 = wrN V b N') : gMd b N' Sh V1 := by
  subst e
  obtain ⟨h1, ⟨h2, h3, h4, h5, h6⟩, h7⟩ := h
  have k : wrN V b N' b = V b := by unfold wrN; rw [if_neg (by omega)]
  exact ⟨h1, ⟨by rw [k]; exact h2, by rw [k]; exact h3, by rw [k]; exact h4, by rw [k]; exact h5, by rw [k]; exact h6⟩, by unfold wrN; rw [if_pos rfl]⟩
/-- the state row in a walk that began at V0 -/
def gMw (b : Int) (V0 : gV) (N : gN0) (Sh : gSh) (V : gV) : Prop := gMd b N Sh V ∧ V = wrN V0 b N
theorem gMw_in {b : Int} {N : gN0} {Sh : gSh} {V : gV} (h : gMd b N Sh V) : gMw b V N Sh V := ⟨h, wrN_self h⟩
theorem gMw_up {b : Int} {N : gN0} {Sh : gSh} {V0 V V1 : gV} {i x : Int} (h : gMw b V0 N Sh V) (e : V1 = up V (b + 1) i x) : gMw b V0 (upN N i x) Sh V1 := by
  have e2 : V1 = wrN V b (upN N i x) := by
    rw [e]
    funext a j
    unfold up wrN upN
    by_cases ha : a = b + 1
    · subst ha
      rw [if_pos rfl]
      by_cases hj : j = i
      · subst hj; simp
      · simp [hj]; exact gMd_at h.1 j
    · simp [ha]
  refine ⟨gMd_w h.1 e2, ?_⟩
  rw [e2, h.2]
  funext a
  unfold wrN
  split <;> rfl
theorem gMw_wr {b : Int} {N N' : gN0} {Sh : gSh} {V0 V V1 : gV} (h : gMw b V0 N Sh V) (e : V1 = wrN V b N') : gMw b V0 N' Sh V1 := by
  refine ⟨gMd_w h.1 e, ?_⟩
  rw [e, h.2]
  funext a
  unfold wrN
  split <;> rfl

