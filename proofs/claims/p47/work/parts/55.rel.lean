/-! the class in the heap: a hotel's cells at h .. h + 161 -/
/-- the shape of a hotel's cell -/
def hsh (j : Int) : Nat × Nat := if j = 0 then (1, 0) else if j = 1 then (104, 3) else if j = 2 then (105, 4) else if j = 3 then (107, 20) else if j = 4 then (8, 0) else if j = 5 then (106, 60) else if j < 126 then (if j % 2 = 0 then (7, 0) else (100, 14)) else if j = 126 then (101, 4) else if j = 127 then (3, 0) else if j = 128 then (100, 4) else if j = 129 then (100, 4) else if j = 130 then (5, 0) else if j = 131 then (100, 4) else if j < 138 then (if j % 2 = 0 then (2, 0) else (101, 571)) else if j < 142 then (6, 0) else (9, 0)
def shH (h : Int) (Sh : gSh) : Prop := ∀ j, 0 ≤ j → j < 162 → Sh (h + j) = some (hsh j)
theorem shH.sH {h : Int} {Sh : gSh} (H : shH h Sh) : Sh h = some (1, 0) := by have := H 0 (by decide) (by decide); rwa [Int.add_zero] at this
theorem shH.sK {h : Int} {Sh : gSh} (H : shH h Sh) : Sh (h + 1) = some (104, 3) := H 1 (by decide) (by decide)
theorem shH.sE {h : Int} {Sh : gSh} (H : shH h Sh) : Sh (h + 2) = some (105, 4) := H 2 (by decide) (by decide)
theorem shH.sG {h : Int} {Sh : gSh} (H : shH h Sh) : Sh (h + 3) = some (107, 20) := H 3 (by decide) (by decide)
theorem shH.sT {h : Int} {Sh : gSh} (H : shH h Sh) : Sh (h + 4) = some (8, 0) := H 4 (by decide) (by decide)
theorem shH.sR {h : Int} {Sh : gSh} (H : shH h Sh) : Sh (h + 5) = some (106, 60) := H 5 (by decide) (by decide)
theorem shH.sB {h : Int} {Sh : gSh} (H : shH h Sh) : Sh (h + 126) = some (101, 4) := H 126 (by decide) (by decide)
theorem shH.sM {h : Int} {Sh : gSh} (H : shH h Sh) : Sh (h + 127) = some (3, 0) := H 127 (by decide) (by decide)
theorem shH.sP {h : Int} {Sh : gSh} (H : shH h Sh) : Sh (h + 128) = some (100, 4) := H 128 (by decide) (by decide)
theorem shH.sO {h : Int} {Sh : gSh} (H : shH h Sh) : Sh (h + 129) = some (100, 4) := H 129 (by decide) (by decide)
theorem shH.sA {h : Int} {Sh : gSh} (H : shH h Sh) : Sh (h + 130) = some (5, 0) := H 130 (by decide) (by decide)
theorem shH.sF {h : Int} {Sh : gSh} (H : shH h Sh) : Sh (h + 131) = some (100, 4) := H 131 (by decide) (by decide)
theorem shH.ss {h s : Int} {Sh : gSh} (H : shH h Sh) (h0 : 0 ≤ s) (h1 : s < 60) : Sh (h + 6 + 2 * s) = some (7, 0) := by
  have := H (6 + 2 * s) (by omega) (by omega)
  unfold hsh at this
  rw [if_neg (by omega), if_neg (by omega), if_neg (by omega), if_neg (by omega), if_neg (by omega), if_neg (by omega), if_pos (by omega), if_pos (by omega)] at this
  rwa [show h + (6 + 2 * s) = h + 6 + 2 * s by omega] at this
theorem shH.sn {h s : Int} {Sh : gSh} (H : shH h Sh) (h0 : 0 ≤ s) (h1 : s < 60) : Sh (h + 6 + 2 * s + 1) = some (100, 14) := by
  have := H (6 + 2 * s + 1) (by omega) (by omega)
  unfold hsh at this
  rw [if_neg (by omega), if_neg (by omega), if_neg (by omega), if_neg (by omega), if_neg (by omega), if_neg (by omega), if_pos (by omega), if_neg (by omega)] at this
  rwa [show h + (6 + 2 * s + 1) = h + 6 + 2 * s + 1 by omega] at this
theorem shH.sk {h k : Int} {Sh : gSh} (H : shH h Sh) (h0 : 0 ≤ k) (h1 : k < 3) : Sh (h + 132 + 2 * k) = some (2, 0) := by
  have := H (132 + 2 * k) (by omega) (by omega)
  unfold hsh at this
  rw [if_neg (by omega), if_neg (by omega), if_neg (by omega), if_neg (by omega), if_neg (by omega), if_neg (by omega), if_neg (by omega), if_neg (by omega), if_neg (by omega), if_neg (by omega), if_neg (by omega), if_neg (by omega), if_neg (by omega), if_pos (by omega), if_pos (by omega)] at this
  rwa [show h + (132 + 2 * k) = h + 132 + 2 * k by omega] at this
theorem shH.sc {h k : Int} {Sh : gSh} (H : shH h Sh) (h0 : 0 ≤ k) (h1 : k < 3) : Sh (h + 132 + 2 * k + 1) = some (101, 571) := by
  have := H (132 + 2 * k + 1) (by omega) (by omega)
  unfold hsh at this
  rw [if_neg (by omega), if_neg (by omega), if_neg (by omega), if_neg (by omega), if_neg (by omega), if_neg (by omega), if_neg (by omega), if_neg (by omega), if_neg (by omega), if_neg (by omega), if_neg (by omega), if_neg (by omega), if_neg (by omega), if_pos (by omega), if_neg (by omega)] at this
  rwa [show h + (132 + 2 * k + 1) = h + 132 + 2 * k + 1 by omega] at this
theorem shH.se {h i : Int} {Sh : gSh} (H : shH h Sh) (h0 : 0 ≤ i) (h1 : i < 4) : Sh (h + 138 + i) = some (6, 0) := by
  have := H (138 + i) (by omega) (by omega)
  unfold hsh at this
  rw [if_neg (by omega), if_neg (by omega), if_neg (by omega), if_neg (by omega), if_neg (by omega), if_neg (by omega), if_neg (by omega), if_neg (by omega), if_neg (by omega), if_neg (by omega), if_neg (by omega), if_neg (by omega), if_neg (by omega), if_neg (by omega), if_pos (by omega)] at this
  rwa [show h + (138 + i) = h + 138 + i by omega] at this
theorem shH.sg {h g : Int} {Sh : gSh} (H : shH h Sh) (h0 : 0 ≤ g) (h1 : g < 20) : Sh (h + 142 + g) = some (9, 0) := by
  have := H (142 + g) (by omega) (by omega)
  unfold hsh at this
  rw [if_neg (by omega), if_neg (by omega), if_neg (by omega), if_neg (by omega), if_neg (by omega), if_neg (by omega), if_neg (by omega), if_neg (by omega), if_neg (by omega), if_neg (by omega), if_neg (by omega), if_neg (by omega), if_neg (by omega), if_neg (by omega), if_neg (by omega)] at this
  rwa [show h + (142 + g) = h + 142 + g by omega] at this
/-- where its references lead -/
def ptH (h : Int) (V : gV) : Prop := (V h 8 = h + 1 ∧ V h 9 = h + 2 ∧ V h 10 = h + 3 ∧ V h 11 = h + 4 ∧ V h 12 = h + 126 ∧ V h 13 = h + 127 ∧ V h 14 = h + 130 ∧ V (h + 4) 0 = h + 5 ∧ V (h + 127) 0 = h + 128 ∧ V (h + 127) 1 = h + 129 ∧ V (h + 130) 6 = h + 131) ∧
  (∀ s, 0 ≤ s → s < 60 → V (h + 5) s = h + 6 + 2 * s ∧ V (h + 6 + 2 * s) 11 = h + 6 + 2 * s + 1) ∧ (∀ k, 0 ≤ k → k < 3 → V (h + 1) k = h + 132 + 2 * k ∧ V (h + 132 + 2 * k) 3 = h + 132 + 2 * k + 1) ∧
  (∀ i, 0 ≤ i → i < 4 → V (h + 2) i = h + 138 + i) ∧ ∀ g, 0 ≤ g → g < 20 → V (h + 3) g = h + 142 + g
theorem ptH.p8 {h : Int} {V : gV} (H : ptH h V) : V h 8 = h + 1 := H.1.1
theorem ptH.p9 {h : Int} {V : gV} (H : ptH h V) : V h 9 = h + 2 := H.1.2.1
theorem ptH.p10 {h : Int} {V : gV} (H : ptH h V) : V h 10 = h + 3 := H.1.2.2.1
theorem ptH.p11 {h : Int} {V : gV} (H : ptH h V) : V h 11 = h + 4 := H.1.2.2.2.1
theorem ptH.p12 {h : Int} {V : gV} (H : ptH h V) : V h 12 = h + 126 := H.1.2.2.2.2.1
theorem ptH.p13 {h : Int} {V : gV} (H : ptH h V) : V h 13 = h + 127 := H.1.2.2.2.2.2.1
theorem ptH.p14 {h : Int} {V : gV} (H : ptH h V) : V h 14 = h + 130 := H.1.2.2.2.2.2.2.1
theorem ptH.pR {h : Int} {V : gV} (H : ptH h V) : V (h + 4) 0 = h + 5 := H.1.2.2.2.2.2.2.2.1
theorem ptH.pP {h : Int} {V : gV} (H : ptH h V) : V (h + 127) 0 = h + 128 := H.1.2.2.2.2.2.2.2.2.1
theorem ptH.pO {h : Int} {V : gV} (H : ptH h V) : V (h + 127) 1 = h + 129 := H.1.2.2.2.2.2.2.2.2.2.1
theorem ptH.pF {h : Int} {V : gV} (H : ptH h V) : V (h + 130) 6 = h + 131 := H.1.2.2.2.2.2.2.2.2.2.2
theorem ptH.ps {h s : Int} {V : gV} (H : ptH h V) (h0 : 0 ≤ s) (h1 : s < 60) : V (h + 5) s = h + 6 + 2 * s := (H.2.1 s h0 h1).1
theorem ptH.pn {h s : Int} {V : gV} (H : ptH h V) (h0 : 0 ≤ s) (h1 : s < 60) : V (h + 6 + 2 * s) 11 = h + 6 + 2 * s + 1 := (H.2.1 s h0 h1).2
theorem ptH.pk {h k : Int} {V : gV} (H : ptH h V) (h0 : 0 ≤ k) (h1 : k < 3) : V (h + 1) k = h + 132 + 2 * k := (H.2.2.1 k h0 h1).1
theorem ptH.pc {h k : Int} {V : gV} (H : ptH h V) (h0 : 0 ≤ k) (h1 : k < 3) : V (h + 132 + 2 * k) 3 = h + 132 + 2 * k + 1 := (H.2.2.1 k h0 h1).2
theorem ptH.pe {h i : Int} {V : gV} (H : ptH h V) (h0 : 0 ≤ i) (h1 : i < 4) : V (h + 2) i = h + 138 + i := (H.2.2.2.1 i h0 h1)
theorem ptH.pg {h g : Int} {V : gV} (H : ptH h V) (h0 : 0 ≤ g) (h1 : g < 20) : V (h + 3) g = h + 142 + g := (H.2.2.2.2 g h0 h1)
/-- a reference's place -/
def isPt (c j : Int) : Prop := (c = 0 ∧ 8 ≤ j ∧ j ≤ 14) ∨ c = 1 ∨ c = 2 ∨ c = 3 ∨ (c = 4 ∧ j = 0) ∨ c = 5 ∨ (6 ≤ c ∧ c < 126 ∧ c % 2 = 0 ∧ j = 11) ∨ c = 127 ∨ (c = 130 ∧ j = 6) ∨ (132 ≤ c ∧ c < 138 ∧ c % 2 = 0 ∧ j = 3)
theorem ptH_ag {h : Int} {V V' : gV} (H : ptH h V) (e : ∀ c j, isPt c j → V' (h + c) j = V (h + c) j) : ptH h V' := by
  obtain ⟨⟨a1, a2, a3, a4, a5, a6, a7, a8, a9, a10, a11⟩, b1, b2, b3, b4⟩ := H
  have e0 : ∀ j, 8 ≤ j → j ≤ 14 → V' h j = V h j := fun j x y => by have := e 0 j (Or.inl ⟨rfl, x, y⟩); rwa [Int.add_zero] at this
  refine ⟨⟨(e0 8 (by decide) (by decide)).trans a1, (e0 9 (by decide) (by decide)).trans a2, (e0 10 (by decide) (by decide)).trans a3, (e0 11 (by decide) (by decide)).trans a4, (e0 12 (by decide) (by decide)).trans a5, (e0 13 (by decide) (by decide)).trans a6, (e0 14 (by decide) (by decide)).trans a7,
    (e 4 0 (by unfold isPt; omega)).trans a8, (e 127 0 (by unfold isPt; omega)).trans a9, (e 127 1 (by unfold isPt; omega)).trans a10, (e 130 6 (by unfold isPt; omega)).trans a11⟩, fun s h0 h1 => ⟨(e 5 s (by unfold isPt; omega)).trans (b1 s h0 h1).1, ?_⟩, fun k h0 h1 => ⟨(e 1 k (by unfold isPt; omega)).trans (b2 k h0 h1).1, ?_⟩,
    fun i h0 h1 => (e 2 i (by unfold isPt; omega)).trans (b3 i h0 h1), fun g h0 h1 => (e 3 g (by unfold isPt; omega)).trans (b4 g h0 h1)⟩
  · have := e (6 + 2 * s) 11 (by unfold isPt; omega)
    rw [show h + (6 + 2 * s) = h + 6 + 2 * s by omega] at this
    exact this.trans (b1 s h0 h1).2
  · have := e (132 + 2 * k) 3 (by unfold isPt; omega)
    rw [show h + (132 + 2 * k) = h + 132 + 2 * k by omega] at this
    exact this.trans (b2 k h0 h1).2
/-- a stay's row at a tells stay s of a state -/
def stR (a s : Int) (N : gN0) (V : gV) : Prop := (V a 0 = sF N s 0 ∧ V a 1 = sF N s 1 ∧ V a 2 = sF N s 2 ∧ V a 3 = sF N s 3 ∧ V a 4 = sF N s 4 ∧ V a 5 = sF N s 5 ∧ V a 6 = sF N s 7 ∧ V a 7 = sPr N s ∧ V a 8 = sF N s 6 ∧ V a 9 = sF N s 8 ∧ V a 10 = sF N s 9) ∧ ∀ n, 0 ≤ n → n < sF N s 3 → V (a + 1) n = sF N s (10 + n)
theorem stR.f0 {a s : Int} {N : gN0} {V : gV} (H : stR a s N V) : V a 0 = sF N s 0 := H.1.1
theorem stR.f1 {a s : Int} {N : gN0} {V : gV} (H : stR a s N V) : V a 1 = sF N s 1 := H.1.2.1
theorem stR.f2 {a s : Int} {N : gN0} {V : gV} (H : stR a s N V) : V a 2 = sF N s 2 := H.1.2.2.1
theorem stR.f3 {a s : Int} {N : gN0} {V : gV} (H : stR a s N V) : V a 3 = sF N s 3 := H.1.2.2.2.1
theorem stR.f4 {a s : Int} {N : gN0} {V : gV} (H : stR a s N V) : V a 4 = sF N s 4 := H.1.2.2.2.2.1
theorem stR.f5 {a s : Int} {N : gN0} {V : gV} (H : stR a s N V) : V a 5 = sF N s 5 := H.1.2.2.2.2.2.1
theorem stR.f6 {a s : Int} {N : gN0} {V : gV} (H : stR a s N V) : V a 6 = sF N s 7 := H.1.2.2.2.2.2.2.1
theorem stR.f7 {a s : Int} {N : gN0} {V : gV} (H : stR a s N V) : V a 7 = sPr N s := H.1.2.2.2.2.2.2.2.1
theorem stR.f8 {a s : Int} {N : gN0} {V : gV} (H : stR a s N V) : V a 8 = sF N s 6 := H.1.2.2.2.2.2.2.2.2.1
theorem stR.f9 {a s : Int} {N : gN0} {V : gV} (H : stR a s N V) : V a 9 = sF N s 8 := H.1.2.2.2.2.2.2.2.2.2.1
theorem stR.f10 {a s : Int} {N : gN0} {V : gV} (H : stR a s N V) : V a 10 = sF N s 9 := H.1.2.2.2.2.2.2.2.2.2.2
/-- insertion: how many stay ahead, the row behind -/
def isP (f : gN0) (x : Int) : Nat → Nat
  | 0 => 0
  | n + 1 => if f (n : Int) < x then isP f x n else n + 1
def isT (f : gN0) (n : Nat) (x : Int) : gN0 := fun i => if i < (isP f x n : Int) then f i else if i = (isP f x n : Int) then x else f (i - 1)
/-- the offers, the greatest one first -/
def soT (N : gN0) : Nat → gN0
  | 0 => fun _ => 0
  | n + 1 => isT (soT N n) n (N (27 + (n : Int)))
def rfR (v n : Int) : Prop := (v = -1 ∧ n = 0) ∨ (0 ≤ v ∧ v ≤ 36524 ∧ n = dateZ v)
def vH (h : Int) (N : gN0) (V : gV) : Prop := V h 0 = N 0 ∧ rfR (V h 1) (N 8) ∧ V h 2 = N 1 ∧ V h 3 = N 2 ∧ V h 4 = N 7 ∧ V h 5 = N 6 ∧ V h 6 = N 3 ∧ V h 7 = N 4 ∧ V (h + 4) 1 = N 5
def vK (h : Int) (N : gN0) (V : gV) : Prop := ∀ k, 0 ≤ k → k < N 1 → (V (h + 132 + 2 * k) 0 = kF N k 0 ∧ V (h + 132 + 2 * k) 1 = kF N k 1 ∧ V (h + 132 + 2 * k) 2 = kF N k 2) ∧ ∀ d, 0 ≤ d → d < 36525 → bitZ (V (h + 132 + 2 * k + 1) (d / 64)) (d % 64).toNat = bitZ (N (1596 + k * 1142 + d / 32)) (d % 32).toNat
def vE (h : Int) (N : gN0) (V : gV) : Prop := ∀ i, 0 ≤ i → i < N 2 → V (h + 138 + i) 0 = seF N i 0 ∧ V (h + 138 + i) 1 = seF N i 1 ∧ V (h + 138 + i) 2 = seF N i 2 ∧ V (h + 138 + i) 3 = seF N i 3
def vS (h : Int) (N : gN0) (V : gV) : Prop := ∀ s, 0 ≤ s → s < N 5 → stR (h + 6 + 2 * s) s N V
def vG (h : Int) (N : gN0) (V : gV) : Prop := ∀ g, 0 ≤ g → g < N 7 → V (h + 142 + g) 0 = gF N g 0 ∧ V (h + 142 + g) 1 = gF N g 1 ∧ V (h + 142 + g) 2 = gF N g 2 ∧ V (h + 142 + g) 3 = gF N g 3 ∧ V (h + 142 + g) 4 = gF N g 4
def vB (h : Int) (N : gN0) (V : gV) : Prop := ∀ i, 0 ≤ i → i < 4 → V (h + 126) i = N (9 + i)
def vM (h : Int) (N : gN0) (V : gV) : Prop := ∀ i, 0 ≤ i → i < 4 → V (h + 128) i = N (17 + i) ∧ V (h + 129) i = N (13 + i)
def vA (h : Int) (N : gN0) (V : gV) : Prop := (V (h + 130) 0 = N 21 ∧ V (h + 130) 1 = N 22 ∧ V (h + 130) 2 = N 23 ∧ V (h + 130) 3 = N 24 ∧ V (h + 130) 4 = N 25 ∧ V (h + 130) 5 = N 26) ∧ ∀ i, 0 ≤ i → i < N 26 → V (h + 131) i = soT N (N 26).toNat i
/-- a hotel at h tells a state -/
def RH (h : Int) (N : gN0) (Sh : gSh) (V : gV) : Prop := shH h Sh ∧ ptH h V ∧ vH h N V ∧ vK h N V ∧ vE h N V ∧ vS h N V ∧ vG h N V ∧ vB h N V ∧ vM h N V ∧ vA h N V
theorem RH.t0 {h : Int} {N : gN0} {Sh : gSh} {V : gV} (H : RH h N Sh V) : V h 0 = N 0 := H.2.2.1.1
theorem RH.t1 {h : Int} {N : gN0} {Sh : gSh} {V : gV} (H : RH h N Sh V) : rfR (V h 1) (N 8) := H.2.2.1.2.1
theorem RH.t2 {h : Int} {N : gN0} {Sh : gSh} {V : gV} (H : RH h N Sh V) : V h 2 = N 1 := H.2.2.1.2.2.1
theorem RH.t3 {h : Int} {N : gN0} {Sh : gSh} {V : gV} (H : RH h N Sh V) : V h 3 = N 2 := H.2.2.1.2.2.2.1
theorem RH.t4 {h : Int} {N : gN0} {Sh : gSh} {V : gV} (H : RH h N Sh V) : V h 4 = N 7 := H.2.2.1.2.2.2.2.1
theorem RH.t5 {h : Int} {N : gN0} {Sh : gSh} {V : gV} (H : RH h N Sh V) : V h 5 = N 6 := H.2.2.1.2.2.2.2.2.1
theorem RH.t6 {h : Int} {N : gN0} {Sh : gSh} {V : gV} (H : RH h N Sh V) : V h 6 = N 3 := H.2.2.1.2.2.2.2.2.2.1
theorem RH.t7 {h : Int} {N : gN0} {Sh : gSh} {V : gV} (H : RH h N Sh V) : V h 7 = N 4 := H.2.2.1.2.2.2.2.2.2.2.1
theorem RH.tS {h : Int} {N : gN0} {Sh : gSh} {V : gV} (H : RH h N Sh V) : V (h + 4) 1 = N 5 := H.2.2.1.2.2.2.2.2.2.2.2
theorem RH.k0 {h k : Int} {N : gN0} {Sh : gSh} {V : gV} (H : RH h N Sh V) (h0 : 0 ≤ k) (h1 : k < N 1) : V (h + 132 + 2 * k) 0 = kF N k 0 := (H.2.2.2.1 k h0 h1).1.1
theorem RH.k1 {h k : Int} {N : gN0} {Sh : gSh} {V : gV} (H : RH h N Sh V) (h0 : 0 ≤ k) (h1 : k < N 1) : V (h + 132 + 2 * k) 1 = kF N k 1 := (H.2.2.2.1 k h0 h1).1.2.1
theorem RH.k2 {h k : Int} {N : gN0} {Sh : gSh} {V : gV} (H : RH h N Sh V) (h0 : 0 ≤ k) (h1 : k < N 1) : V (h + 132 + 2 * k) 2 = kF N k 2 := (H.2.2.2.1 k h0 h1).1.2.2
theorem RH.e0 {h i : Int} {N : gN0} {Sh : gSh} {V : gV} (H : RH h N Sh V) (h0 : 0 ≤ i) (h1 : i < N 2) : V (h + 138 + i) 0 = seF N i 0 := (H.2.2.2.2.1 i h0 h1).1
theorem RH.e1 {h i : Int} {N : gN0} {Sh : gSh} {V : gV} (H : RH h N Sh V) (h0 : 0 ≤ i) (h1 : i < N 2) : V (h + 138 + i) 1 = seF N i 1 := (H.2.2.2.2.1 i h0 h1).2.1
theorem RH.e2 {h i : Int} {N : gN0} {Sh : gSh} {V : gV} (H : RH h N Sh V) (h0 : 0 ≤ i) (h1 : i < N 2) : V (h + 138 + i) 2 = seF N i 2 := (H.2.2.2.2.1 i h0 h1).2.2.1
theorem RH.e3 {h i : Int} {N : gN0} {Sh : gSh} {V : gV} (H : RH h N Sh V) (h0 : 0 ≤ i) (h1 : i < N 2) : V (h + 138 + i) 3 = seF N i 3 := (H.2.2.2.2.1 i h0 h1).2.2.2
theorem RH.st {h s : Int} {N : gN0} {Sh : gSh} {V : gV} (H : RH h N Sh V) (h0 : 0 ≤ s) (h1 : s < N 5) : stR (h + 6 + 2 * s) s N V := H.2.2.2.2.2.1 s h0 h1
theorem RH.g0 {h g : Int} {N : gN0} {Sh : gSh} {V : gV} (H : RH h N Sh V) (h0 : 0 ≤ g) (h1 : g < N 7) : V (h + 142 + g) 0 = gF N g 0 := (H.2.2.2.2.2.2.1 g h0 h1).1
theorem RH.g1 {h g : Int} {N : gN0} {Sh : gSh} {V : gV} (H : RH h N Sh V) (h0 : 0 ≤ g) (h1 : g < N 7) : V (h + 142 + g) 1 = gF N g 1 := (H.2.2.2.2.2.2.1 g h0 h1).2.1
theorem RH.g2 {h g : Int} {N : gN0} {Sh : gSh} {V : gV} (H : RH h N Sh V) (h0 : 0 ≤ g) (h1 : g < N 7) : V (h + 142 + g) 2 = gF N g 2 := (H.2.2.2.2.2.2.1 g h0 h1).2.2.1
theorem RH.g3 {h g : Int} {N : gN0} {Sh : gSh} {V : gV} (H : RH h N Sh V) (h0 : 0 ≤ g) (h1 : g < N 7) : V (h + 142 + g) 3 = gF N g 3 := (H.2.2.2.2.2.2.1 g h0 h1).2.2.2.1
theorem RH.g4 {h g : Int} {N : gN0} {Sh : gSh} {V : gV} (H : RH h N Sh V) (h0 : 0 ≤ g) (h1 : g < N 7) : V (h + 142 + g) 4 = gF N g 4 := (H.2.2.2.2.2.2.1 g h0 h1).2.2.2.2
theorem RH.b {h i : Int} {N : gN0} {Sh : gSh} {V : gV} (H : RH h N Sh V) (h0 : 0 ≤ i) (h1 : i < 4) : V (h + 126) i = N (9 + i) := H.2.2.2.2.2.2.2.1 i h0 h1
theorem RH.mp {h i : Int} {N : gN0} {Sh : gSh} {V : gV} (H : RH h N Sh V) (h0 : 0 ≤ i) (h1 : i < 4) : V (h + 128) i = N (17 + i) := (H.2.2.2.2.2.2.2.2.1 i h0 h1).1
theorem RH.mo {h i : Int} {N : gN0} {Sh : gSh} {V : gV} (H : RH h N Sh V) (h0 : 0 ≤ i) (h1 : i < 4) : V (h + 129) i = N (13 + i) := (H.2.2.2.2.2.2.2.2.1 i h0 h1).2
theorem RH.a0 {h : Int} {N : gN0} {Sh : gSh} {V : gV} (H : RH h N Sh V) : V (h + 130) 0 = N 21 := H.2.2.2.2.2.2.2.2.2.1.1
theorem RH.a1 {h : Int} {N : gN0} {Sh : gSh} {V : gV} (H : RH h N Sh V) : V (h + 130) 1 = N 22 := H.2.2.2.2.2.2.2.2.2.1.2.1
theorem RH.a2 {h : Int} {N : gN0} {Sh : gSh} {V : gV} (H : RH h N Sh V) : V (h + 130) 2 = N 23 := H.2.2.2.2.2.2.2.2.2.1.2.2.1
theorem RH.a3 {h : Int} {N : gN0} {Sh : gSh} {V : gV} (H : RH h N Sh V) : V (h + 130) 3 = N 24 := H.2.2.2.2.2.2.2.2.2.1.2.2.2.1
theorem RH.a4 {h : Int} {N : gN0} {Sh : gSh} {V : gV} (H : RH h N Sh V) : V (h + 130) 4 = N 25 := H.2.2.2.2.2.2.2.2.2.1.2.2.2.2.1
theorem RH.a5 {h : Int} {N : gN0} {Sh : gSh} {V : gV} (H : RH h N Sh V) : V (h + 130) 5 = N 26 := H.2.2.2.2.2.2.2.2.2.1.2.2.2.2.2
theorem RH.of {h i : Int} {N : gN0} {Sh : gSh} {V : gV} (H : RH h N Sh V) (h0 : 0 ≤ i) (h1 : i < N 26) : V (h + 131) i = soT N (N 26).toNat i := H.2.2.2.2.2.2.2.2.2.2 i h0 h1
/-- what lies outside a hotel is as it was -/
def OUT (h : Int) (V V' : gV) : Prop := ∀ a, (a < h ∨ h + 162 ≤ a) → V' a = V a
theorem OUT.tr {h : Int} {V V1 V2 : gV} (h1 : OUT h V V1) (h2 : OUT h V1 V2) : OUT h V V2 := fun a ha => (h2 a ha).trans (h1 a ha)
theorem OUT.rfl' (h : Int) (V : gV) : OUT h V V := fun _ _ => rfl
theorem OUT.up {h a j x : Int} {V V1 : gV} (h1 : OUT h V V1) (h2 : h ≤ a ∧ a < h + 162) : OUT h V (up V1 a j x) := fun b hb => by
  rw [← h1 b hb]
  funext i
  exact up_ne V1 x (Or.inl (by omega))
section AG
variable {h : Int} {N M : gN0} {V V' : gV}
theorem stR_ag {a s : Int} (hN : ∀ w, 0 ≤ w → w < 24 → sF M s w = sF N s w) (h0 : sF N s 3 ≤ 14) (hV : V' a = V a) (hV1 : V' (a + 1) = V (a + 1)) (H : stR a s N V) : stR a s M V' := by
  have ep : ∀ n : Nat, n ≤ 14 → prT M s n = prT N s n := by
    intro n
    induction n with
    | zero => intro _; rfl
    | succ n ih => intro hn; unfold prT; rw [ih (by omega), hN _ (by omega) (by omega)]
  obtain ⟨⟨a0, a1, a2, a3, a4, a5, a6, a7, a8, a9, a10⟩, b⟩ := H
  have e3 := hN 3 (by decide) (by decide)
  unfold stR
  rw [hV, hV1, hN 0 (by decide) (by decide), hN 1 (by decide) (by decide), hN 2 (by decide) (by decide), e3, hN 4 (by decide) (by decide), hN 5 (by decide) (by decide), hN 6 (by decide) (by decide), hN 7 (by decide) (by decide), hN 8 (by decide) (by decide), hN 9 (by decide) (by decide)]
  have e7 : sPr M s = sPr N s := by unfold sPr; rw [e3]; exact ep _ (by omega)
  rw [e7]
  refine ⟨⟨a0, a1, a2, a3, a4, a5, a6, a7, a8, a9, a10⟩, fun n n0 n1 => ?_⟩
  rw [hN _ (by omega) (by omega)]
  exact b n n0 n1
theorem vK_ag (h1 : M 1 = N 1) (h2 : N 1 ≤ 3) (hN : ∀ j, (31 ≤ j ∧ j < 40) ∨ (1596 ≤ j ∧ j < 5022) → M j = N j) (hV : ∀ a, h + 132 ≤ a → a < h + 138 → V' a = V a) (H : vK h N V) : vK h M V' := by
  intro k k0 k1
  rw [h1] at k1
  obtain ⟨⟨a0, a1, a2⟩, b⟩ := H k k0 k1
  rw [hV _ (by omega) (by omega), hV _ (by omega) (by omega)]
  unfold kF at *
  rw [hN _ (by omega), hN _ (by omega), hN _ (by omega)]
  refine ⟨⟨a0, a1, a2⟩, fun d d0 d1 => ?_⟩
  rw [hN _ (by omega)]
  exact b d d0 d1
theorem vE_ag (h1 : M 2 = N 2) (h2 : N 2 ≤ 4) (hN : ∀ j, 40 ≤ j → j < 56 → M j = N j) (hV : ∀ a, h + 138 ≤ a → a < h + 142 → V' a = V a) (H : vE h N V) : vE h M V' := by
  intro i i0 i1
  rw [h1] at i1
  have := H i i0 i1
  rw [hV _ (by omega) (by omega)]
  unfold seF at *
  rw [hN _ (by omega) (by omega), hN _ (by omega) (by omega), hN _ (by omega) (by omega), hN _ (by omega) (by omega)]
  exact this
theorem vS_ag (h1 : M 5 = N 5) (h2 : N 5 ≤ 60) (hs : ∀ s, 0 ≤ s → s < N 5 → sF N s 3 ≤ 14) (hN : ∀ j, 56 ≤ j → j < 1496 → M j = N j) (hV : ∀ a, h + 6 ≤ a → a < h + 126 → V' a = V a) (H : vS h N V) : vS h M V' := by
  intro s s0 s1
  rw [h1] at s1
  exact stR_ag (fun w w0 w1 => by unfold sF; exact hN _ (by omega) (by omega)) (hs s s0 s1) (hV _ (by omega) (by omega)) (hV _ (by omega) (by omega)) (H s s0 s1)
theorem vG_ag (h1 : M 7 = N 7) (h2 : N 7 ≤ 20) (hN : ∀ j, 1496 ≤ j → j < 1596 → M j = N j) (hV : ∀ a, h + 142 ≤ a → a < h + 162 → V' a = V a) (H : vG h N V) : vG h M V' := by
  intro g g0 g1
  rw [h1] at g1
  have := H g g0 g1
  rw [hV _ (by omega) (by omega)]
  unfold gF at *
  rw [hN _ (by omega) (by omega), hN _ (by omega) (by omega), hN _ (by omega) (by omega), hN _ (by omega) (by omega), hN _ (by omega) (by omega)]
  exact this
theorem vB_ag (hN : ∀ j, 9 ≤ j → j < 13 → M j = N j) (hV : V' (h + 126) = V (h + 126)) (H : vB h N V) : vB h M V' := by
  intro i i0 i1
  rw [hV, hN _ (by omega) (by omega)]
  exact H i i0 i1
theorem vM_ag (hN : ∀ j, 13 ≤ j → j < 21 → M j = N j) (hV : V' (h + 128) = V (h + 128)) (hV2 : V' (h + 129) = V (h + 129)) (H : vM h N V) : vM h M V' := by
  intro i i0 i1
  rw [hV, hV2, hN _ (by omega) (by omega), hN _ (by omega) (by omega)]
  exact H i i0 i1
theorem soT_ag : ∀ n : Nat, (∀ j, 27 ≤ j → j < 27 + (n : Int) → M j = N j) → soT M n = soT N n := by
  intro n
  induction n with
  | zero => intro _; rfl
  | succ n ih => intro hN; unfold soT; rw [ih (fun j a b => hN j a (by omega)), hN _ (by omega) (by omega)]
theorem vA_ag (h2 : N 26 ≤ 4) (hN : ∀ j, 21 ≤ j → j < 31 → M j = N j) (hV : V' (h + 130) = V (h + 130)) (hV2 : V' (h + 131) = V (h + 131)) (H : vA h N V) : vA h M V' := by
  unfold vA at *
  rw [hV, hV2, hN 21 (by decide) (by decide), hN 22 (by decide) (by decide), hN 23 (by decide) (by decide), hN 24 (by decide) (by decide), hN 25 (by decide) (by decide), hN 26 (by decide) (by decide)]
  refine ⟨H.1, fun i i0 i1 => ?_⟩
  rw [soT_ag (N := N) _ (fun j a b => hN j (by omega) (by omega))]
  exact H.2 i i0 i1
theorem vH_ag (hN : ∀ j, 0 ≤ j → j < 9 → M j = N j) (hV : ∀ j, 0 ≤ j → j < 8 → V' h j = V h j) (hV2 : V' (h + 4) 1 = V (h + 4) 1) (H : vH h N V) : vH h M V' := by
  unfold vH at *
  rw [hV2, hV 0 (by decide) (by decide), hV 1 (by decide) (by decide), hV 2 (by decide) (by decide), hV 3 (by decide) (by decide), hV 4 (by decide) (by decide), hV 5 (by decide) (by decide), hV 6 (by decide) (by decide), hV 7 (by decide) (by decide), hN 0 (by decide) (by decide), hN 1 (by decide) (by decide), hN 2 (by decide) (by decide), hN 3 (by decide) (by decide), hN 4 (by decide) (by decide), hN 5 (by decide) (by decide), hN 6 (by decide) (by decide), hN 7 (by decide) (by decide), hN 8 (by decide) (by decide)]
  exact H
end AG
/-- sizes that hold for every state here -/
def szO (N : gN0) : Prop := N 1 ≤ 3 ∧ N 2 ≤ 4 ∧ N 5 ≤ 60 ∧ N 7 ≤ 20 ∧ N 26 ≤ 4 ∧ ∀ s, 0 ≤ s → s < N 5 → sF N s 3 ≤ 14
theorem INV.szO {N : gN0} (H : INV N) : szO N := by
  have h1 := H.1.1
  unfold iScal at h1
  have h2 := H.2.2.2.2.1
  refine ⟨by omega, by omega, by omega, by omega, by omega, fun s s0 s1 => ?_⟩
  have := (H.1.2.2.2.1 s s0 s1).1
  omega
/-- the same state told, or a state alike where it counts -/
theorem RH_ag {h : Int} {N M : gN0} {Sh : gSh} {V V' : gV} (H : RH h N Sh V) (hz : szO N) (hN : ∀ j, 0 ≤ j → j < 5022 → M j = N j) (hV : ∀ a, h ≤ a → a < h + 162 → V' a = V a) : RH h M Sh V' := by
  obtain ⟨z1, z2, z5, z7, z26, zs⟩ := hz
  obtain ⟨a1, a2, a3, a4, a5, a6, a7, a8, a9, a10⟩ := H
  exact ⟨a1, ptH_ag a2 (fun c j hc => by unfold isPt at hc; rw [hV _ (by omega) (by omega)]), vH_ag (fun j x y => hN j x (by omega)) (fun j _ _ => by rw [hV _ (by omega) (by omega)]) (by rw [hV _ (by omega) (by omega)]) a3,
    vK_ag (hN 1 (by decide) (by decide)) z1 (fun j hj => hN j (by omega) (by omega)) (fun a x y => hV a (by omega) (by omega)) a4, vE_ag (hN 2 (by decide) (by decide)) z2 (fun j x y => hN j (by omega) (by omega)) (fun a x y => hV a (by omega) (by omega)) a5,
    vS_ag (hN 5 (by decide) (by decide)) z5 zs (fun j x y => hN j (by omega) (by omega)) (fun a x y => hV a (by omega) (by omega)) a6, vG_ag (hN 7 (by decide) (by decide)) z7 (fun j x y => hN j (by omega) (by omega)) (fun a x y => hV a (by omega) (by omega)) a7,
    vB_ag (fun j x y => hN j (by omega) (by omega)) (hV _ (by omega) (by omega)) a8, vM_ag (fun j x y => hN j (by omega) (by omega)) (hV _ (by omega) (by omega)) (hV _ (by omega) (by omega)) a9, vA_ag z26 (fun j x y => hN j (by omega) (by omega)) (hV _ (by omega) (by omega)) (hV _ (by omega) (by omega)) a10⟩
theorem RH.out {h h' : Int} {N : gN0} {Sh : gSh} {V V' : gV} (H : RH h N Sh V) (ho : OUT h' V V') (hd : h + 162 ≤ h' ∨ h' + 162 ≤ h) (hz : szO N) : RH h N Sh V' := RH_ag H hz (fun _ _ _ => rfl) (fun a x y => ho a (by omega))

