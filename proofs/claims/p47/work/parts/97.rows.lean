/-! the law's own rows: its object at q, its dice at q + 1, the class's object at q + 2, its rows at w .. w + 151 (laid by wip/p47/g97.py) -/
def lsh (j : Int) : Nat × Nat := if j < 2 then (100, 100) else if j < 5 then (100, 2) else if j = 5 then (109, 2) else if j < 8 then (102, 100) else if j = 8 then (108, 60) else if j < 69 then (100, 10) else if j = 69 then (108, 60) else if j < 130 then (100, 14) else if j = 130 then (108, 20) else if j < 151 then (100, 5) else (101, 4)
def llA (q w : Int) : Prop := 0 ≤ q ∧ q + 1143 ≤ w
def llS (q w : Int) (Sh : gSh) : Prop := Sh q = some (12, 0) ∧ Sh (q + 1) = some (11, 0) ∧ Sh (q + 2) = some (10, 0) ∧ ∀ j, 0 ≤ j → j < 152 → Sh (w + j) = some (lsh j)
def gpOk (w : Int) (Sh : gSh) (p : Int) : Prop := Sh p = some (100, 5) ∧ ((w + 131 ≤ p ∧ p < w + 151) ∨ w + 152 ≤ p)
def llP (q w : Int) (V : gV) : Prop := (V q 0 = q + 2 ∧ V q 1 = q + 1 ∧ V q 2 = w ∧ V q 3 = w + 1 ∧ V q 5 = w + 2 ∧ V q 6 = w + 3 ∧ V q 7 = w + 4 ∧ V q 8 = w + 5 ∧ V q 15 = w + 8 ∧ V q 16 = w + 69 ∧ V q 19 = w + 130 ∧ V q 21 = w + 151) ∧
  (∀ k, 0 ≤ k → k < 2 → V (w + 5) k = w + 6 + k) ∧ ∀ s, 0 ≤ s → s < 60 → V (w + 8) s = w + 9 + s ∧ V (w + 69) s = w + 70 + s
def llD (w : Int) (V : gV) : Prop := ∀ j, 0 ≤ j → j < 100 → V w j = dateZ (8822 + j) ∧ V (w + 1) j = wdZ (8822 + j)
def llG (w : Int) (Sh : gSh) (V : gV) : Prop := ∀ i, 0 ≤ i → i < 20 → gpOk w Sh (V (w + 130) i)
def llV (q : Int) (N : gN0) (V : gV) : Prop := V q 4 = N 0 - 8822 ∧ V q 9 = N 3 ∧ V q 10 = N 4 ∧ V q 17 = N 5 ∧ V q 18 = N 6 ∧ V q 22 = N 8
def llE (q : Int) (N : gN0) (V : gV) : Prop := (N 2 = 0 ∧ V q 14 = 0) ∨ (N 2 = 1 ∧ V q 11 = seF N 0 0 ∧ V q 12 = seF N 0 1 ∧ V q 13 = seF N 0 2 ∧ V q 14 = seF N 0 3)
def clb (N : gN0) (k d : Int) : Int := bI (bitZ (N (1596 + k * 1142 + d / 32)) (d % 32).toNat = 1)
def llK (w : Int) (N : gN0) (V : gV) : Prop := ∀ k, 0 ≤ k → k < 2 → (V (w + 2) k = kF N k 0 ∧ V (w + 3) k = kF N k 1 ∧ V (w + 4) k = kF N k 2) ∧ ∀ d, 0 ≤ d → d < 100 → V (w + 6 + k) d = clb N k (8822 + d)
def llB (w : Int) (N : gN0) (V : gV) : Prop := ∀ b, 0 ≤ b → b < 4 → V (w + 151) b = N (9 + b)
def pNt (N : gN0) (s : Int) : Int := sF N s 4 * sF N s 7 + sF N s 5 * ((sF N s 7 + 1) / 2)
def stL (a s : Int) (N : gN0) (V : gV) : Prop := V a 0 = sF N s 0 ∧ V a 1 = sF N s 1 ∧ V a 2 = sF N s 2 - 8822 ∧ V a 3 = sF N s 3 ∧ V a 4 = sF N s 4 ∧ V a 5 = sF N s 5 ∧ V a 6 = sF N s 6 ∧ V a 7 = pNt N s ∧ V a 8 = sF N s 8 ∧ V a 9 = sF N s 9 - 8822
def llT (w : Int) (N : gN0) (V : gV) : Prop := ∀ s, 0 ≤ s → s < N 5 → stL (w + 9 + s) s N V ∧ ∀ n, 0 ≤ n → n < sF N s 3 → V (w + 70 + s) n = sF N s (10 + n)
def gsL (p g : Int) (N : gN0) (V : gV) : Prop := V p 0 = gF N g 0 ∧ V p 1 = gF N g 1 - 8822 ∧ V p 2 = gF N g 2 ∧ V p 3 = gF N g 3 ∧ V p 4 = gF N g 4
/-- all but those who wait -/
def LB (q w : Int) (N : gN0) (Sh : gSh) (V : gV) : Prop := llA q w ∧ llS q w Sh ∧ llP q w V ∧ llD w V ∧ llG w Sh V ∧ llV q N V ∧ llE q N V ∧ llK w N V ∧ llB w N V ∧ llT w N V
def LW (q w : Int) (N : gN0) (V : gV) : Prop := V q 20 = N 7 ∧ ∀ g, 0 ≤ g → g < N 7 → gsL (V (w + 130) g) g N V
theorem LB.a0 {q w : Int} {N : gN0} {Sh : gSh} {V : gV} (H : LB q w N Sh V) : 0 ≤ q ∧ q + 1143 ≤ w := H.1
theorem LB.sL {q w : Int} {N : gN0} {Sh : gSh} {V : gV} (H : LB q w N Sh V) : Sh q = some (12, 0) := H.2.1.1
theorem LB.sD {q w : Int} {N : gN0} {Sh : gSh} {V : gV} (H : LB q w N Sh V) : Sh (q + 1) = some (11, 0) := H.2.1.2.1
theorem LB.sX {q w : Int} {N : gN0} {Sh : gSh} {V : gV} (H : LB q w N Sh V) : Sh (q + 2) = some (10, 0) := H.2.1.2.2.1
theorem LB.sw {q w : Int} {N : gN0} {Sh : gSh} {V : gV} (H : LB q w N Sh V) {j : Int} (h0 : 0 ≤ j) (h1 : j < 152) : Sh (w + j) = some (lsh j) := H.2.1.2.2.2 j h0 h1
theorem LB.sdt {q w : Int} {N : gN0} {Sh : gSh} {V : gV} (H : LB q w N Sh V) : Sh w = some (100, 100) := by have := H.sw (j := 0) (by decide) (by decide); rwa [Int.add_zero] at this
theorem LB.swk {q w : Int} {N : gN0} {Sh : gSh} {V : gV} (H : LB q w N Sh V) : Sh (w + 1) = some (100, 100) := H.sw (j := 1) (by decide) (by decide)
theorem LB.srm {q w : Int} {N : gN0} {Sh : gSh} {V : gV} (H : LB q w N Sh V) : Sh (w + 2) = some (100, 2) := H.sw (j := 2) (by decide) (by decide)
theorem LB.sbs {q w : Int} {N : gN0} {Sh : gSh} {V : gV} (H : LB q w N Sh V) : Sh (w + 3) = some (100, 2) := H.sw (j := 3) (by decide) (by decide)
theorem LB.sex {q w : Int} {N : gN0} {Sh : gSh} {V : gV} (H : LB q w N Sh V) : Sh (w + 4) = some (100, 2) := H.sw (j := 4) (by decide) (by decide)
theorem LB.scO {q w : Int} {N : gN0} {Sh : gSh} {V : gV} (H : LB q w N Sh V) : Sh (w + 5) = some (109, 2) := H.sw (j := 5) (by decide) (by decide)
theorem LB.ssO {q w : Int} {N : gN0} {Sh : gSh} {V : gV} (H : LB q w N Sh V) : Sh (w + 8) = some (108, 60) := H.sw (j := 8) (by decide) (by decide)
theorem LB.spO {q w : Int} {N : gN0} {Sh : gSh} {V : gV} (H : LB q w N Sh V) : Sh (w + 69) = some (108, 60) := H.sw (j := 69) (by decide) (by decide)
theorem LB.sgO {q w : Int} {N : gN0} {Sh : gSh} {V : gV} (H : LB q w N Sh V) : Sh (w + 130) = some (108, 20) := H.sw (j := 130) (by decide) (by decide)
theorem LB.sbk {q w : Int} {N : gN0} {Sh : gSh} {V : gV} (H : LB q w N Sh V) : Sh (w + 151) = some (101, 4) := H.sw (j := 151) (by decide) (by decide)
theorem LB.scR {q w : Int} {N : gN0} {Sh : gSh} {V : gV} (H : LB q w N Sh V) {k : Int} (h0 : 0 ≤ k) (h1 : k < 2) : Sh (w + 6 + k) = some (102, 100) := by
  have h := H.sw (j := 6 + k) (by omega) (by omega)
  rw [show w + (6 + k) = w + 6 + k by omega] at h
  rw [h]; congr 1; unfold lsh; repeat' (first | rw [if_pos (by omega)] | rw [if_neg (by omega)])
theorem LB.ssR {q w : Int} {N : gN0} {Sh : gSh} {V : gV} (H : LB q w N Sh V) {s : Int} (h0 : 0 ≤ s) (h1 : s < 60) : Sh (w + 9 + s) = some (100, 10) := by
  have h := H.sw (j := 9 + s) (by omega) (by omega)
  rw [show w + (9 + s) = w + 9 + s by omega] at h
  rw [h]; congr 1; unfold lsh; repeat' (first | rw [if_pos (by omega)] | rw [if_neg (by omega)])
theorem LB.spR {q w : Int} {N : gN0} {Sh : gSh} {V : gV} (H : LB q w N Sh V) {s : Int} (h0 : 0 ≤ s) (h1 : s < 60) : Sh (w + 70 + s) = some (100, 14) := by
  have h := H.sw (j := 70 + s) (by omega) (by omega)
  rw [show w + (70 + s) = w + 70 + s by omega] at h
  rw [h]; congr 1; unfold lsh; repeat' (first | rw [if_pos (by omega)] | rw [if_neg (by omega)])
theorem LB.p0 {q w : Int} {N : gN0} {Sh : gSh} {V : gV} (H : LB q w N Sh V) : V q 0 = q + 2 := H.2.2.1.1.1
theorem LB.p1 {q w : Int} {N : gN0} {Sh : gSh} {V : gV} (H : LB q w N Sh V) : V q 1 = q + 1 := H.2.2.1.1.2.1
theorem LB.p2 {q w : Int} {N : gN0} {Sh : gSh} {V : gV} (H : LB q w N Sh V) : V q 2 = w := H.2.2.1.1.2.2.1
theorem LB.p3 {q w : Int} {N : gN0} {Sh : gSh} {V : gV} (H : LB q w N Sh V) : V q 3 = w + 1 := H.2.2.1.1.2.2.2.1
theorem LB.p5 {q w : Int} {N : gN0} {Sh : gSh} {V : gV} (H : LB q w N Sh V) : V q 5 = w + 2 := H.2.2.1.1.2.2.2.2.1
theorem LB.p6 {q w : Int} {N : gN0} {Sh : gSh} {V : gV} (H : LB q w N Sh V) : V q 6 = w + 3 := H.2.2.1.1.2.2.2.2.2.1
theorem LB.p7 {q w : Int} {N : gN0} {Sh : gSh} {V : gV} (H : LB q w N Sh V) : V q 7 = w + 4 := H.2.2.1.1.2.2.2.2.2.2.1
theorem LB.p8 {q w : Int} {N : gN0} {Sh : gSh} {V : gV} (H : LB q w N Sh V) : V q 8 = w + 5 := H.2.2.1.1.2.2.2.2.2.2.2.1
theorem LB.p15 {q w : Int} {N : gN0} {Sh : gSh} {V : gV} (H : LB q w N Sh V) : V q 15 = w + 8 := H.2.2.1.1.2.2.2.2.2.2.2.2.1
theorem LB.p16 {q w : Int} {N : gN0} {Sh : gSh} {V : gV} (H : LB q w N Sh V) : V q 16 = w + 69 := H.2.2.1.1.2.2.2.2.2.2.2.2.2.1
theorem LB.p19 {q w : Int} {N : gN0} {Sh : gSh} {V : gV} (H : LB q w N Sh V) : V q 19 = w + 130 := H.2.2.1.1.2.2.2.2.2.2.2.2.2.2.1
theorem LB.p21 {q w : Int} {N : gN0} {Sh : gSh} {V : gV} (H : LB q w N Sh V) : V q 21 = w + 151 := H.2.2.1.1.2.2.2.2.2.2.2.2.2.2.2
theorem LB.pc {q w : Int} {N : gN0} {Sh : gSh} {V : gV} (H : LB q w N Sh V) {k : Int} (h0 : 0 ≤ k) (h1 : k < 2) : V (w + 5) k = w + 6 + k := H.2.2.1.2.1 k h0 h1
theorem LB.ps {q w : Int} {N : gN0} {Sh : gSh} {V : gV} (H : LB q w N Sh V) {s : Int} (h0 : 0 ≤ s) (h1 : s < 60) : V (w + 8) s = w + 9 + s := (H.2.2.1.2.2 s h0 h1).1
theorem LB.pp {q w : Int} {N : gN0} {Sh : gSh} {V : gV} (H : LB q w N Sh V) {s : Int} (h0 : 0 ≤ s) (h1 : s < 60) : V (w + 69) s = w + 70 + s := (H.2.2.1.2.2 s h0 h1).2
theorem LB.dt {q w : Int} {N : gN0} {Sh : gSh} {V : gV} (H : LB q w N Sh V) {j : Int} (h0 : 0 ≤ j) (h1 : j < 100) : V w j = dateZ (8822 + j) := (H.2.2.2.1 j h0 h1).1
theorem LB.wk {q w : Int} {N : gN0} {Sh : gSh} {V : gV} (H : LB q w N Sh V) {j : Int} (h0 : 0 ≤ j) (h1 : j < 100) : V (w + 1) j = wdZ (8822 + j) := (H.2.2.2.1 j h0 h1).2
theorem LB.gp {q w : Int} {N : gN0} {Sh : gSh} {V : gV} (H : LB q w N Sh V) {i : Int} (h0 : 0 ≤ i) (h1 : i < 20) : gpOk w Sh (V (w + 130) i) := H.2.2.2.2.1 i h0 h1
theorem LB.sgR {q w : Int} {N : gN0} {Sh : gSh} {V : gV} (H : LB q w N Sh V) {i : Int} (h0 : 0 ≤ i) (h1 : i < 20) : Sh (V (w + 130) i) = some (100, 5) := (H.2.2.2.2.1 i h0 h1).1
theorem LB.v4 {q w : Int} {N : gN0} {Sh : gSh} {V : gV} (H : LB q w N Sh V) : V q 4 = N 0 - 8822 := H.2.2.2.2.2.1.1
theorem LB.v9 {q w : Int} {N : gN0} {Sh : gSh} {V : gV} (H : LB q w N Sh V) : V q 9 = N 3 := H.2.2.2.2.2.1.2.1
theorem LB.v10 {q w : Int} {N : gN0} {Sh : gSh} {V : gV} (H : LB q w N Sh V) : V q 10 = N 4 := H.2.2.2.2.2.1.2.2.1
theorem LB.v17 {q w : Int} {N : gN0} {Sh : gSh} {V : gV} (H : LB q w N Sh V) : V q 17 = N 5 := H.2.2.2.2.2.1.2.2.2.1
theorem LB.v18 {q w : Int} {N : gN0} {Sh : gSh} {V : gV} (H : LB q w N Sh V) : V q 18 = N 6 := H.2.2.2.2.2.1.2.2.2.2.1
theorem LB.v22 {q w : Int} {N : gN0} {Sh : gSh} {V : gV} (H : LB q w N Sh V) : V q 22 = N 8 := H.2.2.2.2.2.1.2.2.2.2.2
theorem LB.ve {q w : Int} {N : gN0} {Sh : gSh} {V : gV} (H : LB q w N Sh V) : llE q N V := H.2.2.2.2.2.2.1
theorem LB.k0 {q w : Int} {N : gN0} {Sh : gSh} {V : gV} (H : LB q w N Sh V) {k : Int} (h0 : 0 ≤ k) (h1 : k < 2) : V (w + 2) k = kF N k 0 := (H.2.2.2.2.2.2.2.1 k h0 h1).1.1
theorem LB.k1 {q w : Int} {N : gN0} {Sh : gSh} {V : gV} (H : LB q w N Sh V) {k : Int} (h0 : 0 ≤ k) (h1 : k < 2) : V (w + 3) k = kF N k 1 := (H.2.2.2.2.2.2.2.1 k h0 h1).1.2.1
theorem LB.k2 {q w : Int} {N : gN0} {Sh : gSh} {V : gV} (H : LB q w N Sh V) {k : Int} (h0 : 0 ≤ k) (h1 : k < 2) : V (w + 4) k = kF N k 2 := (H.2.2.2.2.2.2.2.1 k h0 h1).1.2.2
theorem LB.kc {q w : Int} {N : gN0} {Sh : gSh} {V : gV} (H : LB q w N Sh V) {k d : Int} (h0 : 0 ≤ k) (h1 : k < 2) (d0 : 0 ≤ d) (d1 : d < 100) : V (w + 6 + k) d = clb N k (8822 + d) := (H.2.2.2.2.2.2.2.1 k h0 h1).2 d d0 d1
theorem LB.b {q w : Int} {N : gN0} {Sh : gSh} {V : gV} (H : LB q w N Sh V) {b : Int} (h0 : 0 ≤ b) (h1 : b < 4) : V (w + 151) b = N (9 + b) := H.2.2.2.2.2.2.2.2.1 b h0 h1
theorem LB.t {q w : Int} {N : gN0} {Sh : gSh} {V : gV} (H : LB q w N Sh V) {s : Int} (h0 : 0 ≤ s) (h1 : s < N 5) : stL (w + 9 + s) s N V := (H.2.2.2.2.2.2.2.2.2 s h0 h1).1
theorem LB.tp {q w : Int} {N : gN0} {Sh : gSh} {V : gV} (H : LB q w N Sh V) {s n : Int} (h0 : 0 ≤ s) (h1 : s < N 5) (n0 : 0 ≤ n) (n1 : n < sF N s 3) : V (w + 70 + s) n = sF N s (10 + n) := (H.2.2.2.2.2.2.2.2.2 s h0 h1).2 n n0 n1
theorem LB.t0 {q w : Int} {N : gN0} {Sh : gSh} {V : gV} (H : LB q w N Sh V) {s : Int} (h0 : 0 ≤ s) (h1 : s < N 5) : V (w + 9 + s) 0 = sF N s 0 := (H.t h0 h1).1
theorem LB.t1 {q w : Int} {N : gN0} {Sh : gSh} {V : gV} (H : LB q w N Sh V) {s : Int} (h0 : 0 ≤ s) (h1 : s < N 5) : V (w + 9 + s) 1 = sF N s 1 := (H.t h0 h1).2.1
theorem LB.t2 {q w : Int} {N : gN0} {Sh : gSh} {V : gV} (H : LB q w N Sh V) {s : Int} (h0 : 0 ≤ s) (h1 : s < N 5) : V (w + 9 + s) 2 = sF N s 2 - 8822 := (H.t h0 h1).2.2.1
theorem LB.t3 {q w : Int} {N : gN0} {Sh : gSh} {V : gV} (H : LB q w N Sh V) {s : Int} (h0 : 0 ≤ s) (h1 : s < N 5) : V (w + 9 + s) 3 = sF N s 3 := (H.t h0 h1).2.2.2.1
theorem LB.t4 {q w : Int} {N : gN0} {Sh : gSh} {V : gV} (H : LB q w N Sh V) {s : Int} (h0 : 0 ≤ s) (h1 : s < N 5) : V (w + 9 + s) 4 = sF N s 4 := (H.t h0 h1).2.2.2.2.1
theorem LB.t5 {q w : Int} {N : gN0} {Sh : gSh} {V : gV} (H : LB q w N Sh V) {s : Int} (h0 : 0 ≤ s) (h1 : s < N 5) : V (w + 9 + s) 5 = sF N s 5 := (H.t h0 h1).2.2.2.2.2.1
theorem LB.t6 {q w : Int} {N : gN0} {Sh : gSh} {V : gV} (H : LB q w N Sh V) {s : Int} (h0 : 0 ≤ s) (h1 : s < N 5) : V (w + 9 + s) 6 = sF N s 6 := (H.t h0 h1).2.2.2.2.2.2.1
theorem LB.t7 {q w : Int} {N : gN0} {Sh : gSh} {V : gV} (H : LB q w N Sh V) {s : Int} (h0 : 0 ≤ s) (h1 : s < N 5) : V (w + 9 + s) 7 = pNt N s := (H.t h0 h1).2.2.2.2.2.2.2.1
theorem LB.t8 {q w : Int} {N : gN0} {Sh : gSh} {V : gV} (H : LB q w N Sh V) {s : Int} (h0 : 0 ≤ s) (h1 : s < N 5) : V (w + 9 + s) 8 = sF N s 8 := (H.t h0 h1).2.2.2.2.2.2.2.2.1
theorem LB.t9 {q w : Int} {N : gN0} {Sh : gSh} {V : gV} (H : LB q w N Sh V) {s : Int} (h0 : 0 ≤ s) (h1 : s < N 5) : V (w + 9 + s) 9 = sF N s 9 - 8822 := (H.t h0 h1).2.2.2.2.2.2.2.2.2
theorem LW.g0 {q w g : Int} {N : gN0} {V : gV} (H : LW q w N V) (h0 : 0 ≤ g) (h1 : g < N 7) : V (V (w + 130) g) 0 = gF N g 0 := (H.2 g h0 h1).1
theorem LW.g1 {q w g : Int} {N : gN0} {V : gV} (H : LW q w N V) (h0 : 0 ≤ g) (h1 : g < N 7) : V (V (w + 130) g) 1 = gF N g 1 - 8822 := (H.2 g h0 h1).2.1
theorem LW.g2 {q w g : Int} {N : gN0} {V : gV} (H : LW q w N V) (h0 : 0 ≤ g) (h1 : g < N 7) : V (V (w + 130) g) 2 = gF N g 2 := (H.2 g h0 h1).2.2.1
theorem LW.g3 {q w g : Int} {N : gN0} {V : gV} (H : LW q w N V) (h0 : 0 ≤ g) (h1 : g < N 7) : V (V (w + 130) g) 3 = gF N g 3 := (H.2 g h0 h1).2.2.2.1
theorem LW.g4 {q w g : Int} {N : gN0} {V : gV} (H : LW q w N V) (h0 : 0 ≤ g) (h1 : g < N 7) : V (V (w + 130) g) 4 = gF N g 4 := (H.2 g h0 h1).2.2.2.2
theorem LW.v20 {q w : Int} {N : gN0} {V : gV} (H : LW q w N V) : V q 20 = N 7 := H.1
section LA
variable {q w : Int} {N M : gN0} {Sh Sh' : gSh} {V V' : gV}
theorem llP_ag (h1 : V' q 0 = V q 0 ∧ V' q 1 = V q 1 ∧ V' q 2 = V q 2 ∧ V' q 3 = V q 3 ∧ V' q 5 = V q 5 ∧ V' q 6 = V q 6 ∧ V' q 7 = V q 7 ∧ V' q 8 = V q 8 ∧ V' q 15 = V q 15 ∧ V' q 16 = V q 16 ∧ V' q 19 = V q 19 ∧ V' q 21 = V q 21) (h2 : V' (w + 5) = V (w + 5)) (h3 : V' (w + 8) = V (w + 8)) (h4 : V' (w + 69) = V (w + 69)) (H : llP q w V) : llP q w V' := by
  obtain ⟨⟨a0, a1, a2, a3, a4, a5, a6, a7, a8, a9, a10, a11⟩, b, c⟩ := H
  obtain ⟨e0, e1, e2, e3, e4, e5, e6, e7, e8, e9, e10, e11⟩ := h1
  exact ⟨⟨e0.trans a0, e1.trans a1, e2.trans a2, e3.trans a3, e4.trans a4, e5.trans a5, e6.trans a6, e7.trans a7, e8.trans a8, e9.trans a9, e10.trans a10, e11.trans a11⟩, fun k k0 k1 => by rw [h2]; exact b k k0 k1, fun s s0 s1 => by rw [h3, h4]; exact c s s0 s1⟩
theorem llD_ag (h1 : V' w = V w) (h2 : V' (w + 1) = V (w + 1)) (H : llD w V) : llD w V' := fun j j0 j1 => by rw [h1, h2]; exact H j j0 j1
theorem llG_ag (h1 : V' (w + 130) = V (w + 130)) (hs : ∀ a sh, Sh a = some sh → Sh' a = some sh) (H : llG w Sh V) : llG w Sh' V' := fun i i0 i1 => by
  rw [h1]
  exact ⟨hs _ _ (H i i0 i1).1, (H i i0 i1).2⟩
theorem llS_ag (hs : ∀ a sh, Sh a = some sh → Sh' a = some sh) (H : llS q w Sh) : llS q w Sh' := ⟨hs _ _ H.1, hs _ _ H.2.1, hs _ _ H.2.2.1, fun j j0 j1 => hs _ _ (H.2.2.2 j j0 j1)⟩
theorem llE_ag (h2 : M 2 = N 2) (hN : ∀ j, 40 ≤ j → j < 44 → M j = N j) (hV : ∀ j, 11 ≤ j → j < 15 → V' q j = V q j) (H : llE q N V) : llE q M V' := by
  have e : ∀ k, 0 ≤ k → k < 4 → seF M 0 k = seF N 0 k := fun k k0 k1 => hN _ (by omega) (by omega)
  unfold llE at *
  rw [h2, hV 11 (by decide) (by decide), hV 12 (by decide) (by decide), hV 13 (by decide) (by decide), hV 14 (by decide) (by decide), e 0 (by decide) (by decide), e 1 (by decide) (by decide), e 2 (by decide) (by decide), e 3 (by decide) (by decide)]
  exact H
theorem clb_ag {k d : Int} (hN : M (1596 + k * 1142 + d / 32) = N (1596 + k * 1142 + d / 32)) : clb M k d = clb N k d := by unfold clb; rw [hN]
theorem llK_ag (hN : ∀ j, (31 ≤ j ∧ j < 40) ∨ (1596 ≤ j ∧ j < 5022) → M j = N j) (hV : ∀ a, w + 2 ≤ a → a < w + 8 → a ≠ w + 5 → V' a = V a) (H : llK w N V) : llK w M V' := fun k k0 k1 => by
  obtain ⟨⟨a, b, c⟩, d⟩ := H k k0 k1
  refine ⟨⟨?_, ?_, ?_⟩, fun x x0 x1 => ?_⟩
  · rw [hV _ (by omega) (by omega) (by omega), a]; exact (hN _ (by omega)).symm
  · rw [hV _ (by omega) (by omega) (by omega), b]; exact (hN _ (by omega)).symm
  · rw [hV _ (by omega) (by omega) (by omega), c]; exact (hN _ (by omega)).symm
  · rw [hV _ (by omega) (by omega) (by omega), d x x0 x1]; exact (clb_ag (hN _ (by omega))).symm
theorem llB_ag (hN : ∀ j, 9 ≤ j → j < 13 → M j = N j) (hV : V' (w + 151) = V (w + 151)) (H : llB w N V) : llB w M V' := fun b b0 b1 => by
  rw [hV, H b b0 b1, hN _ (by omega) (by omega)]
theorem stL_ag {a s : Int} (hN : ∀ j, 0 ≤ j → j < 10 → sF M s j = sF N s j) (hV : ∀ j, 0 ≤ j → j < 10 → V' a j = V a j) (H : stL a s N V) : stL a s M V' := by
  have hp : pNt M s = pNt N s := by unfold pNt; rw [hN 4 (by decide) (by decide), hN 5 (by decide) (by decide), hN 7 (by decide) (by decide)]
  unfold stL at *
  rw [hp, hN 0 (by decide) (by decide), hN 1 (by decide) (by decide), hN 2 (by decide) (by decide), hN 3 (by decide) (by decide), hN 4 (by decide) (by decide), hN 5 (by decide) (by decide), hN 6 (by decide) (by decide), hN 8 (by decide) (by decide), hN 9 (by decide) (by decide)]
  rw [hV 0 (by decide) (by decide), hV 1 (by decide) (by decide), hV 2 (by decide) (by decide), hV 3 (by decide) (by decide), hV 4 (by decide) (by decide), hV 5 (by decide) (by decide), hV 6 (by decide) (by decide), hV 7 (by decide) (by decide), hV 8 (by decide) (by decide), hV 9 (by decide) (by decide)]
  exact H
theorem llT_ag (h5 : M 5 = N 5) (hN : ∀ s j, 0 ≤ s → s < N 5 → 0 ≤ j → j < 10 + sF N s 3 → sF M s j = sF N s j) (h3 : ∀ s, 0 ≤ s → s < N 5 → 0 ≤ sF N s 3) (hV : ∀ a, (w + 9 ≤ a ∧ a < w + 69) ∨ (w + 70 ≤ a ∧ a < w + 130) → V' a = V a) (h60 : N 5 ≤ 60) (H : llT w N V) : llT w M V' := fun s s0 s1 => by
  rw [h5] at s1
  obtain ⟨a, b⟩ := H s s0 s1
  have hs3 := h3 s s0 s1
  refine ⟨stL_ag (fun j j0 j1 => hN s j s0 s1 j0 (by omega)) (fun j _ _ => by rw [hV _ (by omega)]) a, fun n n0 n1 => ?_⟩
  rw [hN s 3 s0 s1 (by decide) (by omega)] at n1
  rw [hV _ (by omega), b n n0 n1, hN s _ s0 s1 (by omega) (by omega)]
theorem gsL_ag {p g : Int} (hN : ∀ j, 0 ≤ j → j < 5 → gF M g j = gF N g j) (hV : V' p = V p) (H : gsL p g N V) : gsL p g M V' := by
  unfold gsL at *
  rw [hV, hN 0 (by decide) (by decide), hN 1 (by decide) (by decide), hN 2 (by decide) (by decide), hN 3 (by decide) (by decide), hN 4 (by decide) (by decide)]
  exact H
theorem LW_ag (h7 : M 7 = N 7) (h20 : N 7 ≤ 20) (hN : ∀ j, 1496 ≤ j → j < 1596 → M j = N j) (hg : llG w Sh V) (h1 : V' q 20 = V q 20) (h2 : V' (w + 130) = V (w + 130)) (hV : ∀ p, gpOk w Sh p → V' p = V p) (H : LW q w N V) : LW q w M V' := by
  refine ⟨h1.trans (H.1.trans h7.symm), fun g g0 g1 => ?_⟩
  rw [h7] at g1
  rw [h2]
  exact gsL_ag (fun j j0 j1 => hN _ (by omega) (by omega)) (hV _ (hg g g0 (by omega))) (H.2 g g0 g1)
/-- another world of the same numbers: all that the law has stays -/
theorem LB_to (h60 : N 5 ≤ 60) (hs : ∀ a sh, Sh a = some sh → Sh' a = some sh) (hV : ∀ a sh, Sh a = some sh → (a = q ∨ w ≤ a) → V' a = V a) (H : LB q w N Sh V) : LB q w N Sh' V' := by
  have e : ∀ j, 0 ≤ j → j < 152 → V' (w + j) = V (w + j) := fun j j0 j1 => hV _ _ (H.sw j0 j1) (Or.inr (by omega))
  have e0 : V' w = V w := by have := e 0 (by decide) (by decide); rwa [Int.add_zero] at this
  have eq' : V' q = V q := hV q _ H.sL (Or.inl rfl)
  obtain ⟨a1, a2, a3, a4, a5, a6, a7, a8, a9, a10⟩ := H
  refine ⟨a1, llS_ag hs a2, llP_ag (by rw [eq']; exact ⟨rfl, rfl, rfl, rfl, rfl, rfl, rfl, rfl, rfl, rfl, rfl, rfl⟩) (e 5 (by decide) (by decide)) (e 8 (by decide) (by decide)) (e 69 (by decide) (by decide)) a3, llD_ag e0 (e 1 (by decide) (by decide)) a4, llG_ag (e 130 (by decide) (by decide)) hs a5, by unfold llV at *; rw [eq']; exact a6, by unfold llE at *; rw [eq']; exact a7, ?_, llB_ag (fun _ _ _ => rfl) (e 151 (by decide) (by decide)) a9, ?_⟩
  · exact llK_ag (fun _ _ => rfl) (fun a h1 h2 _ => by have := e (a - w) (by omega) (by omega); rwa [show w + (a - w) = a by omega] at this) a8
  · intro s s0 s1
    obtain ⟨b1, b2⟩ := a10 s s0 s1
    have f1 : V' (w + 9 + s) = V (w + 9 + s) := by have := e (9 + s) (by omega) (by omega); rwa [show w + (9 + s) = w + 9 + s by omega] at this
    have f2 : V' (w + 70 + s) = V (w + 70 + s) := by have := e (70 + s) (by omega) (by omega); rwa [show w + (70 + s) = w + 70 + s by omega] at this
    exact ⟨by unfold stL at *; rw [f1]; exact b1, fun n n0 n1 => by rw [f2]; exact b2 n n0 n1⟩
theorem LW_to (h20 : N 7 ≤ 20) (hB : LB q w N Sh V) (hV : ∀ a sh, Sh a = some sh → (a = q ∨ w ≤ a) → V' a = V a) (H : LW q w N V) : LW q w N V' :=
  LW_ag rfl h20 (fun _ _ _ => rfl) hB.2.2.2.2.1 (by rw [hV q _ hB.sL (Or.inl rfl)]) (hV _ _ hB.sgO (Or.inr (by omega))) (fun p hp => hV p _ hp.1 (Or.inr (by rcases hp.2 with h | h <;> omega))) H
/-- another row than the pointers' is written -/
theorem LB_r {r : Int} (H : LB q w N Sh V) (e : ∀ a, a ≠ r → V' a = V a) (hq : r ≠ q) (h0 : r ≠ w) (h1 : r ≠ w + 1) (h5 : r ≠ w + 5) (h8 : r ≠ w + 8) (h69 : r ≠ w + 69) (h130 : r ≠ w + 130) (hv : llV q M V) (he : M 2 = N 2 ∧ ∀ j, 40 ≤ j → j < 44 → M j = N j) (hK : llK w M V') (hB : llB w M V') (hT : llT w M V') : LB q w M Sh V' := by
  have eq' : V' q = V q := e q (fun h => hq h.symm)
  obtain ⟨a1, a2, a3, a4, a5, a6, a7, a8, a9, a10⟩ := H
  refine ⟨a1, a2, llP_ag (by rw [eq']; exact ⟨rfl, rfl, rfl, rfl, rfl, rfl, rfl, rfl, rfl, rfl, rfl, rfl⟩) (e _ (fun h => h5 h.symm)) (e _ (fun h => h8 h.symm)) (e _ (fun h => h69 h.symm)) a3, llD_ag (e _ (fun h => h0 h.symm)) (e _ (fun h => h1 h.symm)) a4, llG_ag (e _ (fun h => h130 h.symm)) (fun _ _ h => h) a5, by unfold llV at *; rw [eq']; exact hv, llE_ag he.1 he.2 (fun j _ _ => by rw [eq']) a7, hK, hB, hT⟩
theorem llV_ag (h : ∀ j, 0 ≤ j → j < 9 → M j = N j) (H : llV q N V) : llV q M V := by
  unfold llV at *
  rw [h 0 (by decide) (by decide), h 3 (by decide) (by decide), h 4 (by decide) (by decide), h 5 (by decide) (by decide), h 6 (by decide) (by decide), h 8 (by decide) (by decide)]
  exact H
/-- a number of the law's object is written -/
theorem LB_q {i x : Int} (h60 : N 5 ≤ 60) (H : LB q w N Sh V) (e : V' = up V q i x) (hi : i = 4 ∨ i = 9 ∨ i = 10 ∨ i = 17 ∨ i = 18 ∨ i = 20 ∨ i = 22) (hv : llV q M V') (h5 : M 5 = N 5) (h2 : M 2 = N 2) (hN : ∀ j, 8 < j → M j = N j) (h3 : ∀ s, 0 ≤ s → s < N 5 → 0 ≤ sF N s 3) : LB q w M Sh V' := by
  have hqw := H.a0
  have eo : ∀ a, a ≠ q → V' a = V a := fun a ha => by rw [e]; exact up_row _ _ _ ha
  have en : ∀ j, j ≠ i → V' q j = V q j := fun j hj => by rw [e]; exact up_ne _ _ (Or.inr hj)
  obtain ⟨a1, a2, a3, a4, a5, a6, a7, a8, a9, a10⟩ := H
  refine ⟨a1, a2, llP_ag ⟨en _ (by omega), en _ (by omega), en _ (by omega), en _ (by omega), en _ (by omega), en _ (by omega), en _ (by omega), en _ (by omega), en _ (by omega), en _ (by omega), en _ (by omega), en _ (by omega)⟩ (eo _ (by omega)) (eo _ (by omega)) (eo _ (by omega)) a3, llD_ag (eo _ (by omega)) (eo _ (by omega)) a4, llG_ag (eo _ (by omega)) (fun _ _ h => h) a5, hv, llE_ag h2 (fun j h _ => hN j (by omega)) (fun j h1 h2 => en j (by omega)) a7, llK_ag (fun j h => hN j (by omega)) (fun a h1 h2 _ => eo a (by omega)) a8, llB_ag (fun j h _ => hN j (by omega)) (eo _ (by omega)) a9, llT_ag h5 (fun s j s0 s1 j0 j1 => hN _ (by omega)) h3 (fun a h => eo a (by omega)) h60 a10⟩
/-- as many numbers alike as are told -/
theorem LB_N (h60 : N 5 ≤ 60) (H : LB q w N Sh V) (h9 : ∀ j, 0 ≤ j → j < 13 → j ≠ 7 → M j = N j) (hK : ∀ j, (31 ≤ j ∧ j < 44) ∨ (1596 ≤ j ∧ j < 5022) → M j = N j) (hT : ∀ s j, 0 ≤ s → s < N 5 → 0 ≤ j → j < 10 + sF N s 3 → sF M s j = sF N s j) (h3 : ∀ s, 0 ≤ s → s < N 5 → 0 ≤ sF N s 3) : LB q w M Sh V := by
  obtain ⟨a1, a2, a3, a4, a5, a6, a7, a8, a9, a10⟩ := H
  refine ⟨a1, a2, a3, a4, a5, ?_, llE_ag (h9 2 (by decide) (by decide) (by decide)) (fun j h h' => hK j (by omega)) (fun _ _ _ => rfl) a7, llK_ag (fun j h => hK j (by omega)) (fun _ _ _ _ => rfl) a8, llB_ag (fun j h h' => h9 j (by omega) (by omega) (by omega)) rfl a9, llT_ag (h9 5 (by decide) (by decide) (by decide)) hT h3 (fun _ _ => rfl) h60 a10⟩
  unfold llV at *
  rw [h9 0 (by decide) (by decide) (by decide), h9 3 (by decide) (by decide) (by decide), h9 4 (by decide) (by decide) (by decide), h9 5 (by decide) (by decide) (by decide), h9 6 (by decide) (by decide) (by decide), h9 8 (by decide) (by decide) (by decide)]
  exact a6
/-- a price of a night that isn't told -/
theorem LB_pr {s n x : Int} (h60 : N 5 ≤ 60) (H : LB q w N Sh V) (e : V' = up V (w + 70 + s) n x) (s0 : 0 ≤ s) (s1 : s < 60) (hn : N 5 ≤ s ∨ sF N s 3 ≤ n) : LB q w N Sh V' := by
  have hqw := H.a0
  have eo : ∀ a, a ≠ w + 70 + s → V' a = V a := fun a ha => by rw [e]; exact up_row _ _ _ ha
  refine LB_r H eo (by omega) (by omega) (by omega) (by omega) (by omega) (by omega) (by omega) H.2.2.2.2.2.1 ⟨rfl, fun _ _ _ => rfl⟩ (llK_ag (fun _ _ => rfl) (fun a h1 h2 _ => eo a (by omega)) H.2.2.2.2.2.2.2.1) (llB_ag (fun _ _ _ => rfl) (eo _ (by omega)) H.2.2.2.2.2.2.2.2.1) ?_
  intro t t0 t1
  obtain ⟨b1, b2⟩ := H.2.2.2.2.2.2.2.2.2 t t0 t1
  refine ⟨by unfold stL at *; rw [eo _ (by omega)]; exact b1, fun m m0 m1 => ?_⟩
  have hor : w + 70 + t ≠ w + 70 + s ∨ m ≠ n := by
    by_cases h : t = s
    · right; subst h; omega
    · left; omega
  rw [e, up_ne V x hor]
  exact b2 m m0 m1
/-- a book -/
theorem LB_bk {b x : Int} (h60 : N 5 ≤ 60) (H : LB q w N Sh V) (e : V' = up V (w + 151) b x) (b0 : 0 ≤ b) (b1 : b < 4) (h3 : ∀ s, 0 ≤ s → s < N 5 → 0 ≤ sF N s 3) : LB q w (upN N (9 + b) x) Sh V' := by
  have hqw := H.a0
  have eo : ∀ a, a ≠ w + 151 → V' a = V a := fun a ha => by rw [e]; exact up_row _ _ _ ha
  refine LB_r H eo (by omega) (by omega) (by omega) (by omega) (by omega) (by omega) (by omega) (llV_ag (fun j _ _ => upN_ne (by omega)) H.2.2.2.2.2.1) ⟨upN_ne (by omega), fun j _ _ => upN_ne (by omega)⟩ (llK_ag (fun j h => upN_ne (by omega)) (fun a h1 h2 _ => eo a (by omega)) H.2.2.2.2.2.2.2.1) ?_ (llT_ag (upN_ne (by omega)) (fun s j s0 s1 j0 j1 => upN_ne (by omega)) h3 (fun a h => eo a (by omega)) h60 H.2.2.2.2.2.2.2.2.2)
  intro c c0 c1
  by_cases h : c = b
  · subst h; rw [e, up_eq, upN_eq]
  · rw [e, up_ne V x (Or.inr h), upN_ne (by omega)]; exact H.b c0 c1
/-- an extra -/
theorem LB_ex {k x : Int} (h60 : N 5 ≤ 60) (H : LB q w N Sh V) (e : V' = up V (w + 4) k x) (k0 : 0 ≤ k) (k1 : k < 2) (h3 : ∀ s, 0 ≤ s → s < N 5 → 0 ≤ sF N s 3) : LB q w (upN N (31 + k * 3 + 2) x) Sh V' := by
  have hqw := H.a0
  have eo : ∀ a, a ≠ w + 4 → V' a = V a := fun a ha => by rw [e]; exact up_row _ _ _ ha
  refine LB_r H eo (by omega) (by omega) (by omega) (by omega) (by omega) (by omega) (by omega) (llV_ag (fun j _ _ => upN_ne (by omega)) H.2.2.2.2.2.1) ⟨upN_ne (by omega), fun j _ _ => upN_ne (by omega)⟩ ?_ (llB_ag (fun j _ _ => upN_ne (by omega)) (eo _ (by omega)) H.2.2.2.2.2.2.2.2.1) (llT_ag (upN_ne (by omega)) (fun s j s0 s1 j0 j1 => upN_ne (by omega)) h3 (fun a h => eo a (by omega)) h60 H.2.2.2.2.2.2.2.2.2)
  intro c c0 c1
  obtain ⟨⟨f1, f2, f3⟩, f4⟩ := H.2.2.2.2.2.2.2.1 c c0 c1
  refine ⟨⟨?_, ?_, ?_⟩, fun d d0 d1 => ?_⟩
  · rw [eo _ (by omega), f1]; exact (show upN N (31 + k * 3 + 2) x (31 + c * 3 + 0) = N (31 + c * 3 + 0) from upN_ne (by omega)).symm
  · rw [eo _ (by omega), f2]; exact (show upN N (31 + k * 3 + 2) x (31 + c * 3 + 1) = N (31 + c * 3 + 1) from upN_ne (by omega)).symm
  · by_cases h : c = k
    · subst h; rw [e, up_eq]; exact (upN_eq _ _ _).symm
    · rw [e, up_ne V x (Or.inr h), f3]; exact (show upN N (31 + k * 3 + 2) x (31 + c * 3 + 2) = N (31 + c * 3 + 2) from upN_ne (by omega)).symm
  · rw [eo _ (by omega), f4 d d0 d1]; exact (clb_ag (upN_ne (by omega))).symm
theorem bI_of {P : Prop} [Decidable P] {x : Int} (h : (P ∧ x = 1) ∨ (¬ P ∧ x = 0)) : bI P = x := by
  rcases h with ⟨h1, h2⟩ | ⟨h1, h2⟩
  · rw [bI_t h1, h2]
  · rw [bI_f h1, h2]
theorem clb_cl {k k' d d' cl : Int} (hw : inI (N (1596 + k * 1142 + d / 32))) (d0 : 0 ≤ d) (d1 : d < 36525) (d0' : 0 ≤ d') (d1' : d' < 36525) (k0 : 0 ≤ k) (k1 : k < 3) (k0' : 0 ≤ k') (k1' : k' < 3) : clb (clN N k d cl) k' d' = if k' = k ∧ d' = d then (if cl = 0 then 0 else 1) else clb N k' d' := by
  by_cases hw2 : 1596 + k' * 1142 + d' / 32 = 1596 + k * 1142 + d / 32
  · have hk : k' = k := by omega
    subst hk
    have hdd : d' / 32 = d / 32 := by omega
    have hb := cbW_bit cl hw (j := d % 32) (by omega) (by omega) (i := (d' % 32).toNat) (by omega)
    have e1 : clN N k' d cl (1596 + k' * 1142 + d' / 32) = cbW (N (1596 + k' * 1142 + d / 32)) (d % 32) cl := by
      rw [hw2]; exact upN_eq _ _ _
    unfold clb
    rw [e1, hb]
    by_cases hd : d' = d
    · subst hd
      have q1 : ((d' % 32).toNat : Int) = d' % 32 := by omega
      rw [if_pos q1]
      by_cases hc : cl = 0
      · simp [hc, bI]
      · simp [hc, bI]
    · have q1 : ¬ ((d' % 32).toNat : Int) = d % 32 := by omega
      have q2 : ¬ (k' = k' ∧ d' = d) := fun h => hd h.2
      rw [if_neg q1, if_neg q2, hdd]
  · have e1 : clN N k d cl (1596 + k' * 1142 + d' / 32) = N (1596 + k' * 1142 + d' / 32) := upN_ne hw2
    have q2 : ¬ (k' = k ∧ d' = d) := by rintro ⟨h1, h2⟩; subst h1; subst h2; exact hw2 rfl
    rw [if_neg q2]
    unfold clb
    rw [e1]
/-- a night that is closed, or opened -/
theorem LB_cl {k d cl x : Int} (h60 : N 5 ≤ 60) (H : LB q w N Sh V) (e : V' = up V (w + 6 + k) d x) (hx : x = if cl = 0 then 0 else 1) (hw : inI (N (1596 + k * 1142 + (8822 + d) / 32))) (k0 : 0 ≤ k) (k1 : k < 2) (d0 : 0 ≤ d) (d1 : d < 100) (h3 : ∀ s, 0 ≤ s → s < N 5 → 0 ≤ sF N s 3 ∧ sF N s 3 ≤ 14) : LB q w (clN N k (8822 + d) cl) Sh V' := by
  have hqw := H.a0
  have eo : ∀ a, a ≠ w + 6 + k → V' a = V a := fun a ha => by rw [e]; exact up_row _ _ _ ha
  have hne : ∀ j, j < 1596 → clN N k (8822 + d) cl j = N j := fun j hj => upN_ne (by omega)
  refine LB_r H eo (by omega) (by omega) (by omega) (by omega) (by omega) (by omega) (by omega) (llV_ag (fun j _ _ => hne j (by omega)) H.2.2.2.2.2.1) ⟨hne _ (by omega), fun j _ _ => hne j (by omega)⟩ ?_ (llB_ag (fun j _ _ => hne j (by omega)) (eo _ (by omega)) H.2.2.2.2.2.2.2.2.1) (llT_ag (hne _ (by omega)) (fun s j s0 s1 j0 j1 => hne _ (by have := h3 s s0 s1; omega)) (fun s s0 s1 => (h3 s s0 s1).1) (fun a h => eo a (by omega)) h60 H.2.2.2.2.2.2.2.2.2)
  intro c c0 c1
  obtain ⟨⟨f1, f2, f3⟩, f4⟩ := H.2.2.2.2.2.2.2.1 c c0 c1
  refine ⟨⟨?_, ?_, ?_⟩, fun y y0 y1 => ?_⟩
  · rw [eo _ (by omega), f1]; exact (show clN N k (8822 + d) cl (31 + c * 3 + 0) = N (31 + c * 3 + 0) from hne _ (by omega)).symm
  · rw [eo _ (by omega), f2]; exact (show clN N k (8822 + d) cl (31 + c * 3 + 1) = N (31 + c * 3 + 1) from hne _ (by omega)).symm
  · rw [eo _ (by omega), f3]; exact (show clN N k (8822 + d) cl (31 + c * 3 + 2) = N (31 + c * 3 + 2) from hne _ (by omega)).symm
  · rw [clb_cl hw (by omega) (by omega) (by omega) (by omega) k0 (by omega) c0 (by omega)]
    by_cases h : c = k ∧ y = d
    · obtain ⟨rfl, rfl⟩ := h
      rw [if_pos (show c = c ∧ 8822 + y = 8822 + y from ⟨rfl, rfl⟩), e, up_eq, hx]
    · have hor : w + 6 + c ≠ w + 6 + k ∨ y ≠ d := by omega
      rw [if_neg (by omega), e, up_ne V x hor, f4 y y0 y1]
/-- a stay's row is written -/
theorem LB_ts {s i x : Int} (h60 : N 5 ≤ 60) (H : LB q w N Sh V) (e : V' = up V (w + 9 + s) i x) (s0 : 0 ≤ s) (s1 : s < N 5) (ha : ∀ j, (j < 56 + s * 24 ∨ 56 + s * 24 + 24 ≤ j) → M j = N j) (hs : stL (w + 9 + s) s M V') (hp : ∀ n, 0 ≤ n → n < sF M s 3 → V (w + 70 + s) n = sF M s (10 + n)) (h3 : ∀ s, 0 ≤ s → s < N 5 → 0 ≤ sF N s 3 ∧ sF N s 3 ≤ 14) : LB q w M Sh V' := by
  have hqw := H.a0
  have eo : ∀ a, a ≠ w + 9 + s → V' a = V a := fun a ha => by rw [e]; exact up_row _ _ _ ha
  refine LB_r H eo (by omega) (by omega) (by omega) (by omega) (by omega) (by omega) (by omega) (llV_ag (fun j _ _ => ha j (by omega)) H.2.2.2.2.2.1) ⟨ha _ (by omega), fun j _ _ => ha j (by omega)⟩ (llK_ag (fun j h => ha j (by omega)) (fun a h1 h2 _ => eo a (by omega)) H.2.2.2.2.2.2.2.1) (llB_ag (fun j _ _ => ha j (by omega)) (eo _ (by omega)) H.2.2.2.2.2.2.2.2.1) ?_
  intro t t0 t1
  rw [ha 5 (by omega)] at t1
  by_cases h : t = s
  · subst h
    exact ⟨hs, fun n n0 n1 => by rw [eo _ (by omega)]; exact hp n n0 n1⟩
  · obtain ⟨b1, b2⟩ := H.2.2.2.2.2.2.2.2.2 t t0 t1
    have hh3 := h3 t t0 t1
    have hf : ∀ j, 0 ≤ j → j < 24 → sF M t j = sF N t j := fun j j0 j1 => ha _ (by omega)
    refine ⟨stL_ag (fun j j0 j1 => hf j j0 (by omega)) (fun j _ _ => by rw [eo _ (by omega)]) b1, fun n n0 n1 => ?_⟩
    rw [hf 3 (by decide) (by decide)] at n1
    rw [eo _ (by omega), b2 n n0 n1, hf _ (by omega) (by omega)]
/-- the state, the deposit, the nights of a stay -/
theorem LB_t0 {s x : Int} (h60 : N 5 ≤ 60) (H : LB q w N Sh V) (e : V' = up V (w + 9 + s) 0 x) (s0 : 0 ≤ s) (s1 : s < N 5) (h3 : ∀ s, 0 ≤ s → s < N 5 → 0 ≤ sF N s 3 ∧ sF N s 3 ≤ 14) : LB q w (upN N (56 + s * 24 + 0) x) Sh V' := by
  have en : ∀ w, w ≠ 0 → sF (upN N (56 + s * 24 + 0) x) s w = sF N s w := fun w hw => upN_ne (by omega)
  refine LB_ts h60 H e s0 s1 (fun j hj => upN_ne (by omega)) ?_ (fun n n0 n1 => ?_) h3
  · obtain ⟨a0, a1, a2, a3, a4, a5, a6, a7, a8, a9⟩ := H.t s0 s1
    have ev : ∀ j, j ≠ 0 → V' (w + 9 + s) j = V (w + 9 + s) j := fun j hj => by rw [e, up_ne _ _ (Or.inr hj)]
    refine ⟨by rw [e, up_eq]; exact (upN_eq _ _ _).symm, ?_, ?_, ?_, ?_, ?_, ?_, ?_, ?_, ?_⟩
    · rw [ev 1 (by decide), en 1 (by decide)]; exact a1
    · rw [ev 2 (by decide), en 2 (by decide)]; exact a2
    · rw [ev 3 (by decide), en 3 (by decide)]; exact a3
    · rw [ev 4 (by decide), en 4 (by decide)]; exact a4
    · rw [ev 5 (by decide), en 5 (by decide)]; exact a5
    · rw [ev 6 (by decide), en 6 (by decide)]; exact a6
    · rw [ev 7 (by decide)]; unfold pNt; rw [en 4 (by decide), en 5 (by decide), en 7 (by decide)]; exact a7
    · rw [ev 8 (by decide), en 8 (by decide)]; exact a8
    · rw [ev 9 (by decide), en 9 (by decide)]; exact a9
  · rw [en 3 (by decide)] at n1
    rw [en _ (by omega)]
    exact H.tp s0 s1 n0 n1
theorem LB_t6 {s x : Int} (h60 : N 5 ≤ 60) (H : LB q w N Sh V) (e : V' = up V (w + 9 + s) 6 x) (s0 : 0 ≤ s) (s1 : s < N 5) (h3 : ∀ s, 0 ≤ s → s < N 5 → 0 ≤ sF N s 3 ∧ sF N s 3 ≤ 14) : LB q w (upN N (56 + s * 24 + 6) x) Sh V' := by
  have en : ∀ w, w ≠ 6 → sF (upN N (56 + s * 24 + 6) x) s w = sF N s w := fun w hw => upN_ne (by omega)
  refine LB_ts h60 H e s0 s1 (fun j hj => upN_ne (by omega)) ?_ (fun n n0 n1 => ?_) h3
  · obtain ⟨a0, a1, a2, a3, a4, a5, a6, a7, a8, a9⟩ := H.t s0 s1
    have ev : ∀ j, j ≠ 6 → V' (w + 9 + s) j = V (w + 9 + s) j := fun j hj => by rw [e, up_ne _ _ (Or.inr hj)]
    refine ⟨?_, ?_, ?_, ?_, ?_, ?_, by rw [e, up_eq]; exact (upN_eq _ _ _).symm, ?_, ?_, ?_⟩
    · rw [ev 0 (by decide), en 0 (by decide)]; exact a0
    · rw [ev 1 (by decide), en 1 (by decide)]; exact a1
    · rw [ev 2 (by decide), en 2 (by decide)]; exact a2
    · rw [ev 3 (by decide), en 3 (by decide)]; exact a3
    · rw [ev 4 (by decide), en 4 (by decide)]; exact a4
    · rw [ev 5 (by decide), en 5 (by decide)]; exact a5
    · rw [ev 7 (by decide)]; unfold pNt; rw [en 4 (by decide), en 5 (by decide), en 7 (by decide)]; exact a7
    · rw [ev 8 (by decide), en 8 (by decide)]; exact a8
    · rw [ev 9 (by decide), en 9 (by decide)]; exact a9
  · rw [en 3 (by decide)] at n1
    rw [en _ (by omega)]
    exact H.tp s0 s1 n0 n1
theorem LB_t3 {s x : Int} (h60 : N 5 ≤ 60) (H : LB q w N Sh V) (e : V' = up V (w + 9 + s) 3 x) (s0 : 0 ≤ s) (s1 : s < N 5) (hp : ∀ n, 0 ≤ n → n < x → V (w + 70 + s) n = sF N s (10 + n)) (h3 : ∀ s, 0 ≤ s → s < N 5 → 0 ≤ sF N s 3 ∧ sF N s 3 ≤ 14) : LB q w (upN N (56 + s * 24 + 3) x) Sh V' := by
  have en : ∀ w, w ≠ 3 → sF (upN N (56 + s * 24 + 3) x) s w = sF N s w := fun w hw => upN_ne (by omega)
  refine LB_ts h60 H e s0 s1 (fun j hj => upN_ne (by omega)) ?_ (fun n n0 n1 => ?_) h3
  · obtain ⟨a0, a1, a2, a3, a4, a5, a6, a7, a8, a9⟩ := H.t s0 s1
    have ev : ∀ j, j ≠ 3 → V' (w + 9 + s) j = V (w + 9 + s) j := fun j hj => by rw [e, up_ne _ _ (Or.inr hj)]
    refine ⟨?_, ?_, ?_, by rw [e, up_eq]; exact (upN_eq _ _ _).symm, ?_, ?_, ?_, ?_, ?_, ?_⟩
    · rw [ev 0 (by decide), en 0 (by decide)]; exact a0
    · rw [ev 1 (by decide), en 1 (by decide)]; exact a1
    · rw [ev 2 (by decide), en 2 (by decide)]; exact a2
    · rw [ev 4 (by decide), en 4 (by decide)]; exact a4
    · rw [ev 5 (by decide), en 5 (by decide)]; exact a5
    · rw [ev 6 (by decide), en 6 (by decide)]; exact a6
    · rw [ev 7 (by decide)]; unfold pNt; rw [en 4 (by decide), en 5 (by decide), en 7 (by decide)]; exact a7
    · rw [ev 8 (by decide), en 8 (by decide)]; exact a8
    · rw [ev 9 (by decide), en 9 (by decide)]; exact a9
  · rw [show sF (upN N (56 + s * 24 + 3) x) s 3 = x from upN_eq _ _ _] at n1
    rw [en _ (by omega)]
    exact hp n n0 n1
/-- fewer stays than there were -/
theorem LB_fw {m : Int} (h60 : N 5 ≤ 60) (H : LB q w N Sh V) (e : V' = up V q 17 m) (hm : m ≤ N 5) (h3 : ∀ s, 0 ≤ s → s < N 5 → 0 ≤ sF N s 3) : LB q w (upN N 5 m) Sh V' := by
  have hqw := H.a0
  have eo : ∀ a, a ≠ q → V' a = V a := fun a ha => by rw [e]; exact up_row _ _ _ ha
  have en : ∀ j, j ≠ 17 → V' q j = V q j := fun j hj => by rw [e]; exact up_ne _ _ (Or.inr hj)
  obtain ⟨a1, a2, a3, a4, a5, a6, a7, a8, a9, a10⟩ := H
  refine ⟨a1, a2, llP_ag ⟨en _ (by omega), en _ (by omega), en _ (by omega), en _ (by omega), en _ (by omega), en _ (by omega), en _ (by omega), en _ (by omega), en _ (by omega), en _ (by omega), en _ (by omega), en _ (by omega)⟩ (eo _ (by omega)) (eo _ (by omega)) (eo _ (by omega)) a3, llD_ag (eo _ (by omega)) (eo _ (by omega)) a4, llG_ag (eo _ (by omega)) (fun _ _ h => h) a5, ?_, llE_ag (upN_ne (by omega)) (fun j h _ => upN_ne (by omega)) (fun j h1 h2 => en j (by omega)) a7, llK_ag (fun j h => upN_ne (by omega)) (fun a h1 h2 _ => eo a (by omega)) a8, llB_ag (fun j h _ => upN_ne (by omega)) (eo _ (by omega)) a9, ?_⟩
  · obtain ⟨v0, v1, v2, v3, v4, v5⟩ := a6
    refine ⟨?_, ?_, ?_, by rw [e, up_eq, upN_eq], ?_, ?_⟩
    · rw [en 4 (by decide), upN_ne (by decide)]; exact v0
    · rw [en 9 (by decide), upN_ne (by decide)]; exact v1
    · rw [en 10 (by decide), upN_ne (by decide)]; exact v2
    · rw [en 18 (by decide), upN_ne (by decide)]; exact v4
    · rw [en 22 (by decide), upN_ne (by decide)]; exact v5
  · intro s s0 s1
    rw [upN_eq] at s1
    obtain ⟨b1, b2⟩ := a10 s s0 (by omega)
    have ef : ∀ j, 0 ≤ j → sF (upN N 5 m) s j = sF N s j := fun j j0 => upN_ne (by omega)
    refine ⟨stL_ag (fun j j0 _ => ef j j0) (fun j _ _ => by rw [eo _ (by omega)]) b1, fun n n0 n1 => ?_⟩
    rw [ef 3 (by decide)] at n1
    rw [eo _ (by omega), ef _ (by omega)]
    exact b2 n n0 n1
/-- a row that isn't of those who wait -/
theorem LW_r {r : Int} (h20 : N 7 ≤ 20) (hB : LB q w N Sh V) (e : ∀ a, a ≠ r → V' a = V a) (hq : r ≠ q) (hr : r ≠ w + 130) (hg : ¬ ((w + 131 ≤ r ∧ r < w + 151) ∨ w + 152 ≤ r)) (h7 : M 7 = N 7) (hN : ∀ j, 1496 ≤ j → j < 1596 → M j = N j) (H : LW q w N V) : LW q w M V' :=
  LW_ag h7 h20 hN hB.2.2.2.2.1 (by rw [e q (fun h => hq h.symm)]) (e _ (fun h => hr h.symm)) (fun p hp => e p (fun h => hg (h ▸ hp.2))) H
theorem LW_q {i x : Int} (h20 : N 7 ≤ 20) (hB : LB q w N Sh V) (e : V' = up V q i x) (hi : i ≠ 20) (h7 : M 7 = N 7) (hN : ∀ j, 1496 ≤ j → j < 1596 → M j = N j) (H : LW q w N V) : LW q w M V' := by
  have hqw := hB.a0
  have eo : ∀ a, a ≠ q → V' a = V a := fun a ha => by rw [e]; exact up_row _ _ _ ha
  exact LW_ag h7 h20 hN hB.2.2.2.2.1 (by rw [e, up_ne _ _ (Or.inr (fun h => hi h.symm))]) (eo _ (by omega)) (fun p hp => eo p (by rcases hp.2 with h | h <;> omega)) H
end LA
