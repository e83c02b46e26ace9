/-! bits, ways (rows laid by wip/p47/l23.py) -/
/-! Integer.bitCount -/
def ushF (x y : Int) : Int := ((Int32.ofInt x).toUInt32 >>> ((Int32.ofInt y).toUInt32 &&& Int32.toUInt32 31)).toInt32.toInt
def andF (x y : Int) : Int := (Int32.ofInt x &&& Int32.ofInt y).toInt
theorem ushF_ok (x y : Int) : ((Int32.ofInt x).toUInt32 >>> ((Int32.ofInt y).toUInt32 &&& Int32.toUInt32 31)).toInt32 = Int32.ofInt (ushF x y) := (Int32.ofInt_toInt _).symm
theorem andF_ok (x y : Int) : Int32.ofInt x &&& Int32.ofInt y = Int32.ofInt (andF x y) := (Int32.ofInt_toInt _).symm
def bc1 (x : Int) : Int := x - andF (ushF x 1) 1431655765
def bc2 (x : Int) : Int := andF (bc1 x) 858993459 + andF (ushF (bc1 x) 2) 858993459
def bc3 (x : Int) : Int := andF (bc2 x + ushF (bc2 x) 4) 252645135
def bc4 (x : Int) : Int := bc3 x + ushF (bc3 x) 8
def bc5 (x : Int) : Int := bc4 x + ushF (bc4 x) 16
def bcF (x : Int) : Int := andF (bc5 x) 63

theorem kJ6_bc {E l Sh V z} {x0 : Int}  : gM E l yJ6_bitCount_0f7a4 (.code yJ6_bitCount_0f7a4 cJ6_bitCount_0f7a4 1 (some .int)) (rmk 0 0 0 0) [(0, x0)] Sh V z (gR (some (0, bcF x0)) Sh V) := by
  refine gM_at (L0 := [(0, x0)]) rfl rfl rfl ?_
  intro p e s m args below meth c hC hr hex hnm hz
  refine gB hC _ _ _ _ _ _ _ qJ6_bitCount_0f7a4_0 rfl ?_
  refine g_iushr hC dJ6_bitCount_0f7a4_3 (ushF_ok _ _) ?_
  refine g_ldcw hC 1431655765 kJ6_265 rfl dJ6_bitCount_0f7a4_4 ?_
  refine g_iand hC dJ6_bitCount_0f7a4_7 (andF_ok _ _) ?_
  refine gB hC _ _ _ _ _ _ _ qJ6_bitCount_0f7a4_8 rfl ?_
  refine g_ldcw hC 858993459 kJ6_266 rfl dJ6_bitCount_0f7a4_11 ?_
  refine g_iand hC dJ6_bitCount_0f7a4_14 (andF_ok _ _) ?_
  refine gB hC _ _ _ _ _ _ _ qJ6_bitCount_0f7a4_15 rfl ?_
  refine g_iushr hC dJ6_bitCount_0f7a4_17 (ushF_ok _ _) ?_
  refine g_ldcw hC 858993459 kJ6_266 rfl dJ6_bitCount_0f7a4_18 ?_
  refine g_iand hC dJ6_bitCount_0f7a4_21 (andF_ok _ _) ?_
  refine gB hC _ _ _ _ _ _ _ qJ6_bitCount_0f7a4_22 rfl ?_
  refine g_iushr hC dJ6_bitCount_0f7a4_27 (ushF_ok _ _) ?_
  refine gB hC _ _ _ _ _ _ _ qJ6_bitCount_0f7a4_28 rfl ?_
  refine g_ldcw hC 252645135 kJ6_267 rfl dJ6_bitCount_0f7a4_29 ?_
  refine g_iand hC dJ6_bitCount_0f7a4_32 (andF_ok _ _) ?_
  refine gB hC _ _ _ _ _ _ _ qJ6_bitCount_0f7a4_33 rfl ?_
  refine g_iushr hC dJ6_bitCount_0f7a4_38 (ushF_ok _ _) ?_
  refine gB hC _ _ _ _ _ _ _ qJ6_bitCount_0f7a4_39 rfl ?_
  refine g_iushr hC dJ6_bitCount_0f7a4_45 (ushF_ok _ _) ?_
  refine gB hC _ _ _ _ _ _ _ qJ6_bitCount_0f7a4_46 rfl ?_
  refine g_iand hC dJ6_bitCount_0f7a4_51 (andF_ok _ _) ?_
  refine g_ireturn hC dJ6_bitCount_0f7a4_52 hr ⟨rfl, rfl, rfl⟩ gs_rfl ⟨Nat.le_of_ble_eq_true rfl, Nat.le_of_ble_eq_true rfl⟩

/-- bits set, below n -/
def cbB (m : Int) : Nat → Nat
  | 0 => 0
  | n + 1 => cbB m n + (if ubT m n = 1 then 1 else 0)
def wyF (a b m : Int) : Nat → Int
  | 0 => 1
  | n + 1 => wyF a b m n * (if ubT m n = 1 then a else b)
theorem cbB_le (m : Int) : ∀ n : Nat, cbB m n ≤ n := by
  intro n
  induction n with
  | zero => exact Nat.le_refl _
  | succ n ih => unfold cbB; split <;> omega
theorem wyF_eq (a b m : Int) : ∀ n : Nat, wyF a b m n = pwZ a (cbB m n) * pwZ b (n - cbB m n) := by
  intro n
  induction n with
  | zero => rfl
  | succ n ih =>
    have hl := cbB_le m n
    unfold wyF cbB
    rw [ih]
    split
    · rw [show n + 1 - (cbB m n + 1) = n - cbB m n by omega]
      show _ = pwZ a (cbB m n) * a * _
      grind
    · rw [Nat.add_zero, show n + 1 - cbB m n = n - cbB m n + 1 by omega]
      show _ = _ * (pwZ b (n - cbB m n) * b)
      grind
/-- ways by which more come than there are rooms -/
def sBT (a b : Int) (al : Nat) (r : Int) : Nat → Int
  | 0 => 0
  | m + 1 => sBT a b al r m + (if r < bcF m then wyF a b m al else 0)
def hsT (c : Nat → Nat) (k : Nat) : Nat → Nat
  | 0 => 0
  | m + 1 => hsT c k m + (if c m = k then 1 else 0)
def hvT (a b : Int) (al : Nat) (r : Int) (k : Nat) : Int := if r < k then pwZ a k * pwZ b (al - k) else 0
theorem sBT_h (a b : Int) {al : Nat} {r : Int} (hal : al ≤ 6) : ∀ M : Nat, (∀ m : Nat, m < M → bcF m = cbB m al) → sBT a b al r M = hsT (fun m => cbB m al) 0 M * hvT a b al r 0 + hsT (fun m => cbB m al) 1 M * hvT a b al r 1 + hsT (fun m => cbB m al) 2 M * hvT a b al r 2 + hsT (fun m => cbB m al) 3 M * hvT a b al r 3 + hsT (fun m => cbB m al) 4 M * hvT a b al r 4 + hsT (fun m => cbB m al) 5 M * hvT a b al r 5 + hsT (fun m => cbB m al) 6 M * hvT a b al r 6 := by
  intro M
  induction M with
  | zero => intro _; simp [sBT, hsT]
  | succ M ih =>
    intro h
    have e : (if r < bcF M then wyF a b M al else 0) = hvT a b al r (cbB M al) := by
      unfold hvT
      rw [h M (by omega), wyF_eq]
    have hl := cbB_le (M : Int) al
    unfold sBT hsT
    rw [ih (fun m hm => h m (by omega)), e]
    rcases (by omega : cbB (M : Int) al = 0 ∨ cbB (M : Int) al = 1 ∨ cbB (M : Int) al = 2 ∨ cbB (M : Int) al = 3 ∨ cbB (M : Int) al = 4 ∨ cbB (M : Int) al = 5 ∨ cbB (M : Int) al = 6) with q | q | q | q | q | q | q
    all_goals
      rw [q]
      simp
      grind
