/-! the class: kinds, seasons, wishes (rows laid by wip/whole/n57.py) -/
def upS (V : gV) (a : Int) : Int → List Int → gV
  | _, [] => V
  | i, x :: l => upS (up V a i x) a (i + 1) l
def rowL (l : List Int) : gN0 := fun j => l.getD j.toNat 0
theorem upS_eq (a : Int) : ∀ (l : List Int) (V : gV) (i : Int), upS V a i l = fun b j => if b = a ∧ i ≤ j ∧ j < i + l.length then l.getD (j - i).toNat 0 else V b j := by
  intro l
  induction l with
  | nil => intro V i; funext b j; rw [if_neg (by show ¬ (_ ∧ _ ∧ j < i + 0); omega)]; rfl
  | cons x l ih =>
    intro V i
    show upS (up V a i x) a (i + 1) l = _
    rw [ih]
    funext b j
    have el : (((x :: l).length : Nat) : Int) = (l.length : Int) + 1 := by rw [List.length_cons]; omega
    rw [el]
    by_cases hb : b = a
    · by_cases hj : j = i
      · rw [if_neg (by omega), if_pos (by omega), hb, hj, up_eq, Int.sub_self]; rfl
      · by_cases h2 : i + 1 ≤ j ∧ j < i + 1 + l.length
        · rw [if_pos ⟨hb, h2⟩, if_pos (by omega), show (j - i).toNat = (j - (i + 1)).toNat + 1 by omega]; rfl
        · rw [if_neg (by omega), if_neg (by omega), up_ne _ _ (Or.inr hj)]
    · rw [if_neg (by omega), if_neg (by omega), up_ne _ _ (Or.inl hb)]
theorem upS_rw (V : gV) (a : Int) (l : List Int) {n : Int} (hn : n = l.length) : upS V a 0 l = rwV V a (rowL l) n := by
  rw [upS_eq, hn]
  funext b j
  unfold rwV rowL
  rw [Int.zero_add, Int.sub_zero]
theorem rwV_congr {V : gV} {a n : Int} {C D : gN0} (h : ∀ j, 0 ≤ j → j < n → C j = D j) : rwV V a C n = rwV V a D n := by
  funext b j
  unfold rwV
  by_cases q : b = a ∧ 0 ≤ j ∧ j < n
  · rw [if_pos q, if_pos q]; exact h j q.2.1 q.2.2
  · rw [if_neg q, if_neg q]
theorem rwV_ne {V : gV} {a b n : Int} {C : gN0} (h : b ≠ a) : rwV V a C n b = V b := by
  funext j
  unfold rwV
  rw [if_neg (fun q => h q.1)]
theorem rwV_far {V : gV} {a b n j : Int} {C : gN0} (h : b ≠ a ∨ j < 0 ∨ n ≤ j) : rwV V a C n b j = V b j := by unfold rwV; rw [if_neg (by omega)]
theorem cpV_rw (V : gV) (o a n : Int) : cpV V o 0 a 0 n = rwV V a (V o) n := by
  funext b j
  unfold cpV rwV
  rw [Int.zero_add, Int.sub_zero, Int.zero_add]
theorem bit_in (x : Int) : inL (x % 2) := ⟨by omega, by omega⟩
def kdR (a k : Int) (N : gN0) (V : gV) : Prop := (V a 0 = kF N k 0 ∧ V a 1 = kF N k 1 ∧ V a 2 = kF N k 2) ∧ ∀ d, 0 ≤ d → d < 36525 → bitZ (V (a + 1) (d / 64)) (d % 64).toNat = bitZ (N (1596 + k * 1142 + d / 32)) (d % 32).toNat
theorem RH.kd {h k : Int} {N : gN0} {Sh : gSh} {V : gV} (H : RH h N Sh V) (h0 : 0 ≤ k) (h1 : k < N 1) : kdR (h + 132 + 2 * k) k N V := H.2.2.2.1 k h0 h1
/-- the part of a sum of a stay's prices that lies in a range of days -/
def iwT (N : gN0) (s x y : Int) : Nat → Int
  | 0 => 0
  | n + 1 => iwT N s x y n + (if x ≤ sF N s 2 + (n : Int) ∧ sF N s 2 + (n : Int) ≤ y then sF N s (10 + (n : Int)) else 0)
theorem iwT_in {N : gN0} {s x y : Int} (h : sOk N s) : ∀ n : Nat, (n : Int) ≤ sF N s 3 → 0 ≤ iwT N s x y n ∧ iwT N s x y n ≤ 720000 * n := by
  intro n
  induction n with
  | zero => intro _; unfold iwT; omega
  | succ n ih =>
    intro hn
    have h1 := ih (by omega)
    have h2 := h.2 n (by omega) (by omega)
    unfold iwT
    split <;> omega

theorem kJ7_fill_d0a16 {E l Sh V z} {a9 x9 : Int} {n9 : Nat} (z1 : Sh a9 = some (101, n9)) (h1 : n9 ≤ 10000) (h2 : inL x9) : gM E l yJ7_fill_d0a16 (.code yJ7_fill_d0a16 cJ7_fill_d0a16 5 none) (rmk 0 0 0 0) [(2, a9), (1, x9)] Sh V z (gR none Sh (rwV V a9 (fun _ => x9) n9)) := by
  refine gM_at (L0 := [(2, a9), (1, x9), (9, 0), (9, 0), (9, 0)]) rfl rfl rfl ?_
  intro p e s m args below meth c hC hr hex hnm hz
  refine gB hC _ _ _ _ _ _ _ qJ7_fill_d0a16_0 rfl ?_
  refine g_alen hC (j := 1) dJ7_fill_d0a16_3 z1 ?_
  refine gB hC _ _ _ _ _ _ _ qJ7_fill_d0a16_4 rfl ?_
  have hV0 : V = rwV V a9 (fun _ => x9) ((0 : Nat) : Int) := rwV_0 V a9 _
  rw [hV0]
  refine g_loop (fun x : Nat => x ≤ n9) (fun x => n9 - x) 6 (fun x => [(2, a9), (1, x9), (9, 0), (0, (x : Int)), (0, (n9 : Int))]) (fun x => rwV V a9 (fun _ => x9) (x : Int)) 0 (Nat.zero_le _) ?_
  intro x z hx ih
  refine gB hC _ _ _ _ _ _ _ qJ7_fill_d0a16_6 rfl ?_
  refine g_icmp_ge hC 22 dJ7_fill_d0a16_9 rfl (by first | omega | exact cmpZ_in _ _ | exact bI_in _) (by first | omega | exact cmpZ_in _ _ | exact bI_in _) (fun c9 => ?_) (fun c9 => ?_)
  · refine g_return hC dJ7_fill_d0a16_22 hr ⟨rfl, rfl, ?_⟩ gs_rfl ⟨Nat.le_of_ble_eq_true rfl, Nat.le_of_ble_eq_true rfl⟩
    have e : x = n9 := by omega
    subst e
    exact (rwV_rw V a9 _ _ (by omega)).symm
  · refine gB hC _ _ _ _ _ _ _ qJ7_fill_d0a16_12 rfl ?_
    refine g_lst hC dJ7_fill_d0a16_15 z1 (by omega) (by omega) (by omega) (by first | omega | exact cmpZ_in _ _ | exact bI_in _) (fun V15 e15 => ?_)
    refine gB hC _ _ _ _ _ _ _ qJ7_fill_d0a16_16 rfl ?_
    rw [e15, rwV_1 (by omega)]
    exact ih (x + 1) _ (by show x + 1 ≤ n9; omega) (by show n9 - (x + 1) < n9 - x; omega)

theorem kJ7_fill_53178 {E l Sh V z} {a9 x9 : Int} {n9 : Nat} (z1 : Sh a9 = some (100, n9)) (h1 : n9 ≤ 10000) (h2 : inI x9) : gM E l yJ7_fill_53178 (.code yJ7_fill_53178 cJ7_fill_53178 4 none) (rmk 0 0 0 0) [(2, a9), (0, x9)] Sh V z (gR none Sh (rwV V a9 (fun _ => x9) n9)) := by
  refine gM_at (L0 := [(2, a9), (0, x9), (9, 0), (9, 0)]) rfl rfl rfl ?_
  intro p e s m args below meth c hC hr hex hnm hz
  refine gB hC _ _ _ _ _ _ _ qJ7_fill_53178_0 rfl ?_
  refine g_alen hC (j := 0) dJ7_fill_53178_3 z1 ?_
  refine gB hC _ _ _ _ _ _ _ qJ7_fill_53178_4 rfl ?_
  have hV0 : V = rwV V a9 (fun _ => x9) ((0 : Nat) : Int) := rwV_0 V a9 _
  rw [hV0]
  refine g_loop (fun x : Nat => x ≤ n9) (fun x => n9 - x) 5 (fun x => [(2, a9), (0, x9), (0, (x : Int)), (0, (n9 : Int))]) (fun x => rwV V a9 (fun _ => x9) (x : Int)) 0 (Nat.zero_le _) ?_
  intro x z hx ih
  refine gB hC _ _ _ _ _ _ _ qJ7_fill_53178_5 rfl ?_
  refine g_icmp_ge hC 20 dJ7_fill_53178_7 rfl (by first | omega | exact cmpZ_in _ _ | exact bI_in _) (by first | omega | exact cmpZ_in _ _ | exact bI_in _) (fun c7 => ?_) (fun c7 => ?_)
  · refine g_return hC dJ7_fill_53178_20 hr ⟨rfl, rfl, ?_⟩ gs_rfl ⟨Nat.le_of_ble_eq_true rfl, Nat.le_of_ble_eq_true rfl⟩
    have e : x = n9 := by omega
    subst e
    exact (rwV_rw V a9 _ _ (by omega)).symm
  · refine gB hC _ _ _ _ _ _ _ qJ7_fill_53178_10 rfl ?_
    refine g_ast hC dJ7_fill_53178_13 z1 (by omega) (by omega) (by omega) (by first | omega | exact cmpZ_in _ _ | exact bI_in _) (fun V13 e13 => ?_)
    refine gB hC _ _ _ _ _ _ _ qJ7_fill_53178_14 rfl ?_
    rw [e13, rwV_1 (by omega)]
    exact ih (x + 1) _ (by show x + 1 ≤ n9; omega) (by show n9 - (x + 1) < n9 - x; omega)

theorem kX3_isClosed {E l Sh V z} {a9 k9 d : Int} {N : gN0} (z1 : Sh a9 = some (2, 0)) (z2 : Sh (a9 + 1) = some (101, 571)) (z3 : V a9 3 = a9 + 1) (hk : kdR a9 k9 N V) (h0 : 0 ≤ d) (h1 : d < 36525) : gM E l yX3_isClosed (.code yX3_isClosed cX3_isClosed 2 (some .boolean)) (rmk 0 0 0 0) [(2, a9), (0, d)] Sh V z (gR (some (0, bI (bitZ (N (1596 + k9 * 1142 + d / 32)) (d % 32).toNat = 1))) Sh V) := by
  refine gM_at (L0 := [(2, a9), (0, d)]) rfl rfl rfl ?_
  intro p e s m args below meth c hC hr hex hnm hz
  refine gB hC _ _ _ _ _ _ _ qX3_isClosed_0 rfl ?_
  refine g_icmp_gt hC 36 dX3_isClosed_2 rfl (by first | exact bit_in _ | exact cmpZ_in _ _ | omega | exact bI_in _) (by first | exact bit_in _ | exact cmpZ_in _ _ | omega | exact bI_in _) (fun c2 => ?_) (fun c2 => ?_)
  · refine gB hC _ _ _ _ _ _ _ qX3_isClosed_36 rfl ?_
    refine g_zreturn hC dX3_isClosed_37 hr ?_ ⟨?_, rfl, rfl⟩ gs_rfl ⟨Nat.le_of_ble_eq_true rfl, Nat.le_of_ble_eq_true rfl⟩
    · first | exact Or.inl rfl | exact Or.inr rfl | exact bI_01 _
    first | (exfalso; omega) | (rw [bI_f (by unfold bitZ; omega)]; done) | (rw [bI_t (by unfold bitZ; omega)]; done)
  · refine gB hC _ _ _ _ _ _ _ qX3_isClosed_5 rfl ?_
    refine g_ldc hC 36525 kX3_37 rfl dX3_isClosed_6 ?_
    refine g_icmp_ge hC 36 dX3_isClosed_8 rfl (by first | exact bit_in _ | exact cmpZ_in _ _ | omega | exact bI_in _) (by first | exact bit_in _ | exact cmpZ_in _ _ | omega | exact bI_in _) (fun c8 => ?_) (fun c8 => ?_)
    · refine gB hC _ _ _ _ _ _ _ qX3_isClosed_36 rfl ?_
      refine g_zreturn hC dX3_isClosed_37 hr ?_ ⟨?_, rfl, rfl⟩ gs_rfl ⟨Nat.le_of_ble_eq_true rfl, Nat.le_of_ble_eq_true rfl⟩
      · first | exact Or.inl rfl | exact Or.inr rfl | exact bI_01 _
      first | (exfalso; omega) | (rw [bI_f (by unfold bitZ; omega)]; done) | (rw [bI_t (by unfold bitZ; omega)]; done)
    · refine gB hC _ _ _ _ _ _ _ qX3_isClosed_11 rfl ?_
      refine g_getr hC dX3_isClosed_12 fX3_15 z1 (by decide) rfl 3 rfl z3 ?_
      refine gB hC _ _ _ _ _ _ _ qX3_isClosed_15 rfl ?_
      refine g_idiv hC dX3_isClosed_18 (by first | exact bit_in _ | exact cmpZ_in _ _ | omega | exact bI_in _) (by first | exact bit_in _ | exact cmpZ_in _ _ | omega | exact bI_in _) (by omega) (by omega) ?_
      refine g_laload hC dX3_isClosed_19 z2 (by omega) (by omega) (by decide) (fun i19 => ?_)
      refine gB hC _ _ _ _ _ _ _ qX3_isClosed_20 rfl ?_
      refine g_irem hC dX3_isClosed_23 (by first | exact bit_in _ | exact cmpZ_in _ _ | omega | exact bI_in _) (by first | exact bit_in _ | exact cmpZ_in _ _ | omega | exact bI_in _) (by omega) (by omega) ?_
      refine g_lshr hC dX3_isClosed_24 (iL_shr i19 (by omega) (by omega)) ?_
      refine gB hC _ _ _ _ _ _ _ qX3_isClosed_25 rfl ?_
      refine g_land hC dX3_isClosed_26 (iL_and1 (shrL_in _ i19)) ?_
      refine gB hC _ _ _ _ _ _ _ qX3_isClosed_27 rfl ?_
      refine g_lcmp hC dX3_isClosed_28 (by first | exact bit_in _ | exact cmpZ_in _ _ | omega | exact bI_in _) (by first | exact bit_in _ | exact cmpZ_in _ _ | omega | exact bI_in _) ?_
      refine g_if_ne hC 36 dX3_isClosed_29 rfl (by first | exact bit_in _ | exact cmpZ_in _ _ | omega | exact bI_in _) (fun c29 => ?_) (fun c29 => ?_)
      · replace c29 : ¬ (cmpZ (V (a9 + 1) (d / 64) / 2 ^ (d % 64).toNat % 2) 1 = 0) := c29
        rw [cmpZ_eq] at c29
        have hb := hk.2 d h0 h1
        unfold bitZ at hb
        refine gB hC _ _ _ _ _ _ _ qX3_isClosed_36 rfl ?_
        refine g_zreturn hC dX3_isClosed_37 hr ?_ ⟨?_, rfl, rfl⟩ gs_rfl ⟨Nat.le_of_ble_eq_true rfl, Nat.le_of_ble_eq_true rfl⟩
        · first | exact Or.inl rfl | exact Or.inr rfl | exact bI_01 _
        first | (exfalso; omega) | (rw [bI_f (by unfold bitZ; omega)]; done) | (rw [bI_t (by unfold bitZ; omega)]; done)
      · replace c29 : cmpZ (V (a9 + 1) (d / 64) / 2 ^ (d % 64).toNat % 2) 1 = 0 := c29
        rw [cmpZ_eq] at c29
        have hb := hk.2 d h0 h1
        unfold bitZ at hb
        refine gB hC _ _ _ _ _ _ _ qX3_isClosed_32 rfl ?_
        refine g_zreturn hC dX3_isClosed_37 hr ?_ ⟨?_, rfl, rfl⟩ gs_rfl ⟨Nat.le_of_ble_eq_true rfl, Nat.le_of_ble_eq_true rfl⟩
        · first | exact Or.inl rfl | exact Or.inr rfl | exact bI_01 _
        first | (exfalso; omega) | (rw [bI_f (by unfold bitZ; omega)]; done) | (rw [bI_t (by unfold bitZ; omega)]; done)

theorem kX3_setClosed {E l Sh V z} {a9 d cl : Int} (z1 : Sh a9 = some (2, 0)) (z2 : Sh (a9 + 1) = some (101, 571)) (z3 : V a9 3 = a9 + 1) (h0 : 0 ≤ d) (h1 : d < 36525) (h2 : cl = 0 ∨ cl = 1) : gM E l yX3_setClosed (.code yX3_setClosed cX3_setClosed 5 none) (rmk 0 0 0 0) [(2, a9), (0, d), (0, cl)] Sh V z (gR none Sh (up V (a9 + 1) (d / 64) (cbL (V (a9 + 1) (d / 64)) (d % 64) cl))) := by
  refine gM_at (L0 := [(2, a9), (0, d), (0, cl), (9, 0), (9, 0)]) rfl rfl rfl ?_
  intro p e s m args below meth c hC hr hex hnm hz
  refine gB hC _ _ _ _ _ _ _ qX3_setClosed_0 rfl ?_
  refine g_if_lt hC 10 dX3_setClosed_1 rfl (by first | omega | exact cmpZ_in _ _ | exact bI_in _) (fun c1 => ?_) (fun c1 => ?_)
  · refine g_return hC dX3_setClosed_10 hr ⟨rfl, rfl, ?_⟩ gs_rfl ⟨Nat.le_of_ble_eq_true rfl, Nat.le_of_ble_eq_true rfl⟩
    exfalso; omega
  · refine gB hC _ _ _ _ _ _ _ qX3_setClosed_4 rfl ?_
    refine g_ldc hC 36525 kX3_37 rfl dX3_setClosed_5 ?_
    refine g_icmp_lt hC 11 dX3_setClosed_7 rfl (by first | omega | exact cmpZ_in _ _ | exact bI_in _) (by first | omega | exact cmpZ_in _ _ | exact bI_in _) (fun c7 => ?_) (fun c7 => ?_)
    · refine gB hC _ _ _ _ _ _ _ qX3_setClosed_11 rfl ?_
      refine g_irem hC dX3_setClosed_15 (by first | omega | exact cmpZ_in _ _ | exact bI_in _) (by first | omega | exact cmpZ_in _ _ | exact bI_in _) (by omega) (by omega) ?_
      refine g_lshl hC dX3_setClosed_16 (iL_of _).symm ?_
      refine gB hC _ _ _ _ _ _ _ qX3_setClosed_17 rfl ?_
      refine g_getr hC dX3_setClosed_19 fX3_15 z1 (by decide) rfl 3 rfl z3 ?_
      refine gB hC _ _ _ _ _ _ _ qX3_setClosed_22 rfl ?_
      refine g_idiv hC dX3_setClosed_25 (by first | omega | exact cmpZ_in _ _ | exact bI_in _) (by first | omega | exact cmpZ_in _ _ | exact bI_in _) (by omega) (by omega) ?_
      refine gB hC _ _ _ _ _ _ _ qX3_setClosed_26 rfl ?_
      refine g_if_eq hC 44 dX3_setClosed_27 rfl (by first | omega | exact cmpZ_in _ _ | exact bI_in _) (fun c27 => ?_) (fun c27 => ?_)
      · refine gB hC _ _ _ _ _ _ _ qX3_setClosed_44 rfl ?_
        refine g_getr hC dX3_setClosed_45 fX3_15 z1 (by decide) rfl 3 rfl z3 ?_
        refine gB hC _ _ _ _ _ _ _ qX3_setClosed_48 rfl ?_
        refine g_idiv hC dX3_setClosed_51 (by first | omega | exact cmpZ_in _ _ | exact bI_in _) (by first | omega | exact cmpZ_in _ _ | exact bI_in _) (by omega) (by omega) ?_
        refine g_laload hC dX3_setClosed_52 z2 (by omega) (by omega) (by decide) (fun i52 => ?_)
        refine gB hC _ _ _ _ _ _ _ qX3_setClosed_53 rfl ?_
        refine g_ldc2 hC (-1) kX3_38 rfl dX3_setClosed_54 ?_
        refine g_lxor hC dX3_setClosed_57 (iL_of _).symm ?_
        refine g_land hC dX3_setClosed_58 (iL_of _).symm ?_
        refine g_lst hC dX3_setClosed_59 z2 (by omega) (by omega) (by decide) (i64_in _) (fun V59 e59 => ?_)
        refine g_return hC dX3_setClosed_60 hr ⟨rfl, rfl, ?_⟩ gs_rfl ⟨Nat.le_of_ble_eq_true rfl, Nat.le_of_ble_eq_true rfl⟩
        rw [e59]
        unfold cbL
        first | (rw [if_neg c27]; rfl) | (rw [if_pos (by omega)]; rfl)
      · refine gB hC _ _ _ _ _ _ _ qX3_setClosed_30 rfl ?_
        refine g_getr hC dX3_setClosed_31 fX3_15 z1 (by decide) rfl 3 rfl z3 ?_
        refine gB hC _ _ _ _ _ _ _ qX3_setClosed_34 rfl ?_
        refine g_idiv hC dX3_setClosed_37 (by first | omega | exact cmpZ_in _ _ | exact bI_in _) (by first | omega | exact cmpZ_in _ _ | exact bI_in _) (by omega) (by omega) ?_
        refine g_laload hC dX3_setClosed_38 z2 (by omega) (by omega) (by decide) (fun i38 => ?_)
        refine gB hC _ _ _ _ _ _ _ qX3_setClosed_39 rfl ?_
        refine g_lor hC dX3_setClosed_40 (iL_of _).symm ?_
        refine gB hC _ _ _ _ _ _ _ qX3_setClosed_41 rfl ?_
        refine g_lst hC dX3_setClosed_59 z2 (by omega) (by omega) (by decide) (i64_in _) (fun V59 e59 => ?_)
        refine g_return hC dX3_setClosed_60 hr ⟨rfl, rfl, ?_⟩ gs_rfl ⟨Nat.le_of_ble_eq_true rfl, Nat.le_of_ble_eq_true rfl⟩
        rw [e59]
        unfold cbL
        first | (rw [if_neg c27]; rfl) | (rw [if_pos (by omega)]; rfl)
    · refine g_return hC dX3_setClosed_10 hr ⟨rfl, rfl, ?_⟩ gs_rfl ⟨Nat.le_of_ble_eq_true rfl, Nat.le_of_ble_eq_true rfl⟩
      exfalso; omega

theorem kX3_percentageFor {E l Sh V z} {a9 r9 t9 : Int} (z1 : Sh a9 = some (2, 0)) (hk : V a9 0 = r9) (h0 : 1 ≤ r9) (h1 : r9 ≤ 100) (h2 : 0 ≤ t9) (h3 : t9 ≤ 100) : gM E l yX3_percentageFor (.code yX3_percentageFor cX3_percentageFor 2 (some .int)) (rmk 0 0 0 0) [(2, a9), (0, t9)] Sh V z (gRi (10 * (4 * t9 / r9)) Sh V) := by
  refine gM_at (L0 := [(2, a9), (0, t9)]) rfl rfl rfl ?_
  intro p e s m args below meth c hC hr hex hnm hz
  have hdv := div_in (a := 4 * t9) (b := r9) (A := 400) (by omega) (by omega) (by omega)
  refine gB hC _ _ _ _ _ _ _ qX3_percentageFor_0 rfl ?_
  refine g_getiv hC dX3_percentageFor_1 fX3_7 z1 (by decide) rfl 0 rfl hk (fun i1 => ?_)
  refine gB hC _ _ _ _ _ _ _ qX3_percentageFor_4 rfl ?_
  refine g_icmp_ge hC 12 dX3_percentageFor_5 rfl (by first | omega | exact cmpZ_in _ _ | exact bI_in _) (by first | omega | exact cmpZ_in _ _ | exact bI_in _) (fun c5 => ?_) (fun c5 => ?_)
  · refine gB hC _ _ _ _ _ _ _ qX3_percentageFor_12 rfl ?_
    refine g_getiv hC dX3_percentageFor_18 fX3_7 z1 (by decide) rfl 0 rfl hk (fun i18 => ?_)
    refine g_idiv hC dX3_percentageFor_21 (by first | omega | exact cmpZ_in _ _ | exact bI_in _) (by first | omega | exact cmpZ_in _ _ | exact bI_in _) (by omega) (by omega) ?_
    refine gB hC _ _ _ _ _ _ _ qX3_percentageFor_22 rfl ?_
    refine g_ireturn hC dX3_percentageFor_23 hr ⟨rfl, rfl, rfl, by omega⟩ gs_rfl ⟨Nat.le_of_ble_eq_true rfl, Nat.le_of_ble_eq_true rfl⟩
  · exfalso; omega --stop

theorem kX3_begin {E l Sh V z} {a9 r9 p9 : Int} (z1 : Sh a9 = some (2, 0)) (z2 : Sh (a9 + 1) = some (101, 571)) (z3 : V a9 3 = a9 + 1) (h0 : inI r9) (h1 : inI p9) : gM E l yX3_begin (.code yX3_begin cX3_begin 3 none) (rmk 1 0 0 40) [(2, a9), (0, r9), (0, p9)] Sh V z (gR none Sh (rwV (rwV V a9 (rowL [r9, p9, 0]) 3) (a9 + 1) (fun _ => 0) 571)) := by
  refine gM_at (L0 := [(2, a9), (0, r9), (0, p9)]) rfl rfl rfl ?_
  intro p e s m args below meth c hC hr hex hnm hz
  refine gB hC _ _ _ _ _ _ _ qX3_begin_0 rfl ?_
  refine g_puti hC dX3_begin_2 fX3_7 z1 (by decide) rfl (fun _ h => by cases h; rfl) 0 rfl (by first | omega | exact cmpZ_in _ _ | exact bI_in _) (fun V2 e2 => ?_)
  refine gB hC _ _ _ _ _ _ _ qX3_begin_5 rfl ?_
  refine g_puti hC dX3_begin_7 fX3_19 z1 (by decide) rfl (fun _ h => by cases h; rfl) 1 rfl (by first | omega | exact cmpZ_in _ _ | exact bI_in _) (fun V7 e7 => ?_)
  refine gB hC _ _ _ _ _ _ _ qX3_begin_10 rfl ?_
  refine g_puti hC dX3_begin_12 fX3_22 z1 (by decide) rfl (fun _ h => by cases h; rfl) 2 rfl (by first | omega | exact cmpZ_in _ _ | exact bI_in _) (fun V12 e12 => ?_)
  refine gB hC _ _ _ _ _ _ _ qX3_begin_15 rfl ?_
  refine g_getr hC dX3_begin_16 fX3_15 z1 (by decide) rfl 3 rfl ((congrFun (congrFun e12 _) _).trans ((up_ne _ _ (by omega)).trans ((congrFun (congrFun e7 _) _).trans ((up_ne _ _ (by omega)).trans ((congrFun (congrFun e2 _) _).trans ((up_ne _ _ (by omega)).trans z3)))))) ?_
  refine gB hC _ _ _ _ _ _ _ qX3_begin_19 rfl ?_
  refine g_cS0m hC dX3_begin_20 mX3_25 sJ7_fill_d0a16 (kJ7_fill_d0a16 z2 (by decide) (by decide)) rfl rfl (Nat.le_of_ble_eq_true rfl) (RR rfl rfl rfl rfl) (fun z V20 e20 => ?_)
  refine g_return hC dX3_begin_23 hr ⟨rfl, rfl, ?_⟩ gs_rfl ⟨Nat.le_of_ble_eq_true rfl, Nat.le_of_ble_eq_true rfl⟩
  have e9 : V12 = rwV V a9 (rowL [r9, p9, 0]) 3 := by rw [e12, e7, e2]; exact upS_rw V a9 [r9, p9, 0] rfl
  rw [e20, e9]; rfl

theorem kX3_copyFrom {E l Sh V z} {a9 o9 : Int} (z1 : Sh a9 = some (2, 0)) (z2 : Sh (a9 + 1) = some (101, 571)) (z3 : V a9 3 = a9 + 1) (y1 : Sh o9 = some (2, 0)) (y2 : Sh (o9 + 1) = some (101, 571)) (y3 : V o9 3 = o9 + 1) (hne : o9 + 1 < a9 ∨ a9 + 1 < o9) : gM E l yX3_copyFrom (.code yX3_copyFrom cX3_copyFrom 2 none) (rmk 1 0 0 40) [(2, a9), (2, o9)] Sh V z (gR none Sh (rwV (rwV V a9 (V o9) 3) (a9 + 1) (V (o9 + 1)) 571)) := by
  refine gM_at (L0 := [(2, a9), (2, o9)]) rfl rfl rfl ?_
  intro p e s m args below meth c hC hr hex hnm hz
  refine gB hC _ _ _ _ _ _ _ qX3_copyFrom_0 rfl ?_
  refine g_getiv hC dX3_copyFrom_2 fX3_7 y1 (by decide) rfl 0 rfl rfl (fun i2 => ?_)
  refine g_puti hC dX3_copyFrom_5 fX3_7 z1 (by decide) rfl (fun _ h => by cases h; rfl) 0 rfl (by first | omega | exact cmpZ_in _ _ | exact bI_in _) (fun V5 e5 => ?_)
  refine gB hC _ _ _ _ _ _ _ qX3_copyFrom_8 rfl ?_
  refine g_getiv hC dX3_copyFrom_10 fX3_19 y1 (by decide) rfl 1 rfl ((congrFun (congrFun e5 _) _).trans ((up_ne _ _ (by omega)).trans rfl)) (fun i10 => ?_)
  refine g_puti hC dX3_copyFrom_13 fX3_19 z1 (by decide) rfl (fun _ h => by cases h; rfl) 1 rfl (by first | omega | exact cmpZ_in _ _ | exact bI_in _) (fun V13 e13 => ?_)
  refine gB hC _ _ _ _ _ _ _ qX3_copyFrom_16 rfl ?_
  refine g_getiv hC dX3_copyFrom_18 fX3_22 y1 (by decide) rfl 2 rfl ((congrFun (congrFun e13 _) _).trans ((up_ne _ _ (by omega)).trans ((congrFun (congrFun e5 _) _).trans ((up_ne _ _ (by omega)).trans rfl)))) (fun i18 => ?_)
  refine g_puti hC dX3_copyFrom_21 fX3_22 z1 (by decide) rfl (fun _ h => by cases h; rfl) 2 rfl (by first | omega | exact cmpZ_in _ _ | exact bI_in _) (fun V21 e21 => ?_)
  refine gB hC _ _ _ _ _ _ _ qX3_copyFrom_24 rfl ?_
  refine g_getr hC dX3_copyFrom_25 fX3_15 y1 (by decide) rfl 3 rfl ((congrFun (congrFun e21 _) _).trans ((up_ne _ _ (by omega)).trans ((congrFun (congrFun e13 _) _).trans ((up_ne _ _ (by omega)).trans ((congrFun (congrFun e5 _) _).trans ((up_ne _ _ (by omega)).trans y3)))))) ?_
  refine gB hC _ _ _ _ _ _ _ qX3_copyFrom_28 rfl ?_
  refine g_getr hC dX3_copyFrom_30 fX3_15 z1 (by decide) rfl 3 rfl ((congrFun (congrFun e21 _) _).trans ((up_ne _ _ (by omega)).trans ((congrFun (congrFun e13 _) _).trans ((up_ne _ _ (by omega)).trans ((congrFun (congrFun e5 _) _).trans ((up_ne _ _ (by omega)).trans z3)))))) ?_
  refine gB hC _ _ _ _ _ _ _ qX3_copyFrom_33 rfl ?_
  refine g_getr hC dX3_copyFrom_35 fX3_15 z1 (by decide) rfl 3 rfl ((congrFun (congrFun e21 _) _).trans ((up_ne _ _ (by omega)).trans ((congrFun (congrFun e13 _) _).trans ((up_ne _ _ (by omega)).trans ((congrFun (congrFun e5 _) _).trans ((up_ne _ _ (by omega)).trans z3)))))) ?_
  refine g_alen hC (j := 1) dX3_copyFrom_38 z2 ?_
  refine g_copy_long hC dX3_copyFrom_39 mX3_31 gCpN gCpS gCpI y2 z2 ⟨by decide, by decide⟩ (by decide) (by decide) (by decide) (by decide) (by decide) ⟨Nat.le_of_ble_eq_true rfl, Nat.le_of_ble_eq_true rfl⟩ ?_
  refine g_return hC dX3_copyFrom_42 hr ⟨rfl, rfl, ?_⟩ gs_rfl ⟨Nat.le_of_ble_eq_true rfl, Nat.le_of_ble_eq_true rfl⟩
  have e9 : V21 = rwV V a9 (V o9) 3 := by
    rw [e21, e13, e5]
    refine (upS_rw V a9 [V o9 0, V o9 1, V o9 2] (n := 3) rfl).trans (rwV_congr (fun j j0 j1 => ?_))
    obtain rfl | rfl | rfl : j = 0 ∨ j = 1 ∨ j = 2 := by omega
    all_goals rfl
  rw [cpV_rw, e9]
  have e8 : rwV V a9 (V o9) 3 (o9 + 1) = V (o9 + 1) := rwV_ne (by omega)
  rw [e8]; rfl

theorem kX7_begin {E l Sh V z} {a9 x0 x1 x2 x3 : Int} (z1 : Sh a9 = some (6, 0)) (h0 : inI x0) (h1 : inI x1) (h2 : inI x2) (h3 : inI x3) : gM E l yX7_begin (.code yX7_begin cX7_begin 5 none) (rmk 0 0 0 0) [(2, a9), (0, x0), (0, x1), (0, x2), (0, x3)] Sh V z (gR none Sh (rwV V a9 (rowL [x0, x1, x2, x3]) 4)) := by
  refine gM_at (L0 := [(2, a9), (0, x0), (0, x1), (0, x2), (0, x3)]) rfl rfl rfl ?_
  intro p e s m args below meth c hC hr hex hnm hz
  refine gB hC _ _ _ _ _ _ _ qX7_begin_0 rfl ?_
  refine g_puti hC dX7_begin_2 fX7_7 z1 (by decide) rfl (fun _ h => by cases h; rfl) 0 rfl (by first | omega | exact cmpZ_in _ _ | exact bI_in _) (fun V2 e2 => ?_)
  refine gB hC _ _ _ _ _ _ _ qX7_begin_5 rfl ?_
  refine g_puti hC dX7_begin_7 fX7_13 z1 (by decide) rfl (fun _ h => by cases h; rfl) 1 rfl (by first | omega | exact cmpZ_in _ _ | exact bI_in _) (fun V7 e7 => ?_)
  refine gB hC _ _ _ _ _ _ _ qX7_begin_10 rfl ?_
  refine g_puti hC dX7_begin_12 fX7_16 z1 (by decide) rfl (fun _ h => by cases h; rfl) 2 rfl (by first | omega | exact cmpZ_in _ _ | exact bI_in _) (fun V12 e12 => ?_)
  refine gB hC _ _ _ _ _ _ _ qX7_begin_15 rfl ?_
  refine g_puti hC dX7_begin_18 fX7_19 z1 (by decide) rfl (fun _ h => by cases h; rfl) 3 rfl (by first | omega | exact cmpZ_in _ _ | exact bI_in _) (fun V18 e18 => ?_)
  refine g_return hC dX7_begin_21 hr ⟨rfl, rfl, ?_⟩ gs_rfl ⟨Nat.le_of_ble_eq_true rfl, Nat.le_of_ble_eq_true rfl⟩
  rw [e18, e12, e7, e2]; exact upS_rw V a9 [x0, x1, x2, x3] rfl

theorem kX7_copyFrom {E l Sh V z} {a9 o9 : Int} (z1 : Sh a9 = some (6, 0)) (y1 : Sh o9 = some (6, 0)) : gM E l yX7_copyFrom (.code yX7_copyFrom cX7_copyFrom 2 none) (rmk 1 0 0 40) [(2, a9), (2, o9)] Sh V z (gR none Sh (rwV V a9 (V o9) 4)) := by
  refine gM_at (L0 := [(2, a9), (2, o9)]) rfl rfl rfl ?_
  intro p e s m args below meth c hC hr hex hnm hz
  refine gB hC _ _ _ _ _ _ _ qX7_copyFrom_0 rfl ?_
  refine g_getiv hC dX7_copyFrom_2 fX7_7 y1 (by decide) rfl 0 rfl rfl (fun i2 => ?_)
  refine gB hC _ _ _ _ _ _ _ qX7_copyFrom_5 rfl ?_
  refine g_getiv hC dX7_copyFrom_6 fX7_13 y1 (by decide) rfl 1 rfl rfl (fun i6 => ?_)
  refine gB hC _ _ _ _ _ _ _ qX7_copyFrom_9 rfl ?_
  refine g_getiv hC dX7_copyFrom_10 fX7_16 y1 (by decide) rfl 2 rfl rfl (fun i10 => ?_)
  refine gB hC _ _ _ _ _ _ _ qX7_copyFrom_13 rfl ?_
  refine g_getiv hC dX7_copyFrom_14 fX7_19 y1 (by decide) rfl 3 rfl rfl (fun i14 => ?_)
  refine g_cV0m hC dX7_copyFrom_17 mX7_22 vX7_begin (kX7_begin z1 (by omega) (by omega) (by omega) (by omega)) rfl z1 (by decide) rfl (Nat.le_of_ble_eq_true rfl) (RR rfl rfl rfl rfl) (fun z V17 e17 => ?_)
  refine g_return hC dX7_copyFrom_20 hr ⟨rfl, rfl, ?_⟩ gs_rfl ⟨Nat.le_of_ble_eq_true rfl, Nat.le_of_ble_eq_true rfl⟩
  rw [e17]
  refine rwV_congr (fun j j0 j1 => ?_)
  obtain rfl | rfl | rfl | rfl : j = 0 ∨ j = 1 ∨ j = 2 ∨ j = 3 := by omega
  all_goals rfl

theorem kX7_has {E l Sh V z} {a9 i9 md : Int} {N : gN0} (z1 : Sh a9 = some (6, 0)) (hk : V a9 0 = seF N i9 0 ∧ V a9 1 = seF N i9 1 ∧ V a9 2 = seF N i9 2 ∧ V a9 3 = seF N i9 3) (h1 : inI md) : gM E l yX7_has (.code yX7_has cX7_has 2 (some .boolean)) (rmk 0 0 0 0) [(2, a9), (0, md)] Sh V z (gR (some (0, bI ((seF N i9 0 ≤ seF N i9 1 ∧ seF N i9 0 ≤ md ∧ md ≤ seF N i9 1) ∨ (seF N i9 1 < seF N i9 0 ∧ (seF N i9 0 ≤ md ∨ md ≤ seF N i9 1))))) Sh V) := by
  refine gM_at (L0 := [(2, a9), (0, md)]) rfl rfl rfl ?_
  intro p e s m args below meth c hC hr hex hnm hz
  refine gB hC _ _ _ _ _ _ _ qX7_has_0 rfl ?_
  refine g_getiv hC dX7_has_1 fX7_7 z1 (by decide) rfl 0 rfl hk.1 (fun i1 => ?_)
  refine gB hC _ _ _ _ _ _ _ qX7_has_4 rfl ?_
  refine g_getiv hC dX7_has_5 fX7_13 z1 (by decide) rfl 1 rfl hk.2.1 (fun i5 => ?_)
  refine g_icmp_gt hC 33 dX7_has_8 rfl (by first | omega | exact cmpZ_in _ _ | exact bI_in _) (by first | omega | exact cmpZ_in _ _ | exact bI_in _) (fun c8 => ?_) (fun c8 => ?_)
  · refine gB hC _ _ _ _ _ _ _ qX7_has_33 rfl ?_
    refine g_getiv hC dX7_has_35 fX7_7 z1 (by decide) rfl 0 rfl hk.1 (fun i35 => ?_)
    refine g_icmp_ge hC 49 dX7_has_38 rfl (by first | omega | exact cmpZ_in _ _ | exact bI_in _) (by first | omega | exact cmpZ_in _ _ | exact bI_in _) (fun c38 => ?_) (fun c38 => ?_)
    · refine gB hC _ _ _ _ _ _ _ qX7_has_49 rfl ?_
      refine g_zreturn hC dX7_has_54 hr ?_ ⟨?_, rfl, rfl⟩ gs_rfl ⟨Nat.le_of_ble_eq_true rfl, Nat.le_of_ble_eq_true rfl⟩
      · first | exact Or.inl rfl | exact Or.inr rfl | exact bI_01 _
      first | (rw [bI_f (by omega)]; done) | (rw [bI_t (by omega)]; done)
    · refine gB hC _ _ _ _ _ _ _ qX7_has_41 rfl ?_
      refine g_getiv hC dX7_has_43 fX7_13 z1 (by decide) rfl 1 rfl hk.2.1 (fun i43 => ?_)
      refine g_icmp_gt hC 53 dX7_has_46 rfl (by first | omega | exact cmpZ_in _ _ | exact bI_in _) (by first | omega | exact cmpZ_in _ _ | exact bI_in _) (fun c46 => ?_) (fun c46 => ?_)
      · refine gB hC _ _ _ _ _ _ _ qX7_has_53 rfl ?_
        refine g_zreturn hC dX7_has_54 hr ?_ ⟨?_, rfl, rfl⟩ gs_rfl ⟨Nat.le_of_ble_eq_true rfl, Nat.le_of_ble_eq_true rfl⟩
        · first | exact Or.inl rfl | exact Or.inr rfl | exact bI_01 _
        first | (rw [bI_f (by omega)]; done) | (rw [bI_t (by omega)]; done)
      · refine gB hC _ _ _ _ _ _ _ qX7_has_49 rfl ?_
        refine g_zreturn hC dX7_has_54 hr ?_ ⟨?_, rfl, rfl⟩ gs_rfl ⟨Nat.le_of_ble_eq_true rfl, Nat.le_of_ble_eq_true rfl⟩
        · first | exact Or.inl rfl | exact Or.inr rfl | exact bI_01 _
        first | (rw [bI_f (by omega)]; done) | (rw [bI_t (by omega)]; done)
  · refine gB hC _ _ _ _ _ _ _ qX7_has_11 rfl ?_
    refine g_getiv hC dX7_has_12 fX7_7 z1 (by decide) rfl 0 rfl hk.1 (fun i12 => ?_)
    refine gB hC _ _ _ _ _ _ _ qX7_has_15 rfl ?_
    refine g_icmp_gt hC 31 dX7_has_16 rfl (by first | omega | exact cmpZ_in _ _ | exact bI_in _) (by first | omega | exact cmpZ_in _ _ | exact bI_in _) (fun c16 => ?_) (fun c16 => ?_)
    · refine gB hC _ _ _ _ _ _ _ qX7_has_31 rfl ?_
      refine g_zreturn hC dX7_has_32 hr ?_ ⟨?_, rfl, rfl⟩ gs_rfl ⟨Nat.le_of_ble_eq_true rfl, Nat.le_of_ble_eq_true rfl⟩
      · first | exact Or.inl rfl | exact Or.inr rfl | exact bI_01 _
      first | (rw [bI_f (by omega)]; done) | (rw [bI_t (by omega)]; done)
    · refine gB hC _ _ _ _ _ _ _ qX7_has_19 rfl ?_
      refine g_getiv hC dX7_has_21 fX7_13 z1 (by decide) rfl 1 rfl hk.2.1 (fun i21 => ?_)
      refine g_icmp_gt hC 31 dX7_has_24 rfl (by first | omega | exact cmpZ_in _ _ | exact bI_in _) (by first | omega | exact cmpZ_in _ _ | exact bI_in _) (fun c24 => ?_) (fun c24 => ?_)
      · refine gB hC _ _ _ _ _ _ _ qX7_has_31 rfl ?_
        refine g_zreturn hC dX7_has_32 hr ?_ ⟨?_, rfl, rfl⟩ gs_rfl ⟨Nat.le_of_ble_eq_true rfl, Nat.le_of_ble_eq_true rfl⟩
        · first | exact Or.inl rfl | exact Or.inr rfl | exact bI_01 _
        first | (rw [bI_f (by omega)]; done) | (rw [bI_t (by omega)]; done)
      · refine gB hC _ _ _ _ _ _ _ qX7_has_27 rfl ?_
        refine g_zreturn hC dX7_has_32 hr ?_ ⟨?_, rfl, rfl⟩ gs_rfl ⟨Nat.le_of_ble_eq_true rfl, Nat.le_of_ble_eq_true rfl⟩
        · first | exact Or.inl rfl | exact Or.inr rfl | exact bI_01 _
        first | (rw [bI_f (by omega)]; done) | (rw [bI_t (by omega)]; done)

theorem kX10_init {E l Sh V z} {a9 x0 x1 x2 x3 x4 : Int} (z1 : Sh a9 = some (9, 0)) (ha : 0 ≤ a9) (h0 : inI x0) (h1 : inI x1) (h2 : inI x2) (h3 : inI x3) (h4 : inI x4) : gM E l yX10_init (.code yX10_init cX10_init 6 none) (rmk 1 0 0 30) [(2, a9), (0, x0), (0, x1), (0, x2), (0, x3), (0, x4)] Sh V z (gR none Sh (rwV V a9 (rowL [x0, x1, x2, x3, x4]) 5)) := by
  refine gM_at (L0 := [(2, a9), (0, x0), (0, x1), (0, x2), (0, x3), (0, x4)]) rfl rfl rfl ?_
  intro p e s m args below meth c hC hr hex hnm hz
  refine gB hC _ _ _ _ _ _ _ qX10_init_0 rfl ?_
  refine g_objInit hC dX10_init_1 mX10_1 gObjI gObjC (by omega) ⟨by decide, by decide⟩ ?_
  refine gB hC _ _ _ _ _ _ _ qX10_init_4 rfl ?_
  refine g_puti hC dX10_init_6 fX10_7 z1 (by decide) rfl (fun _ h => by cases h; rfl) 0 rfl (by first | omega | exact cmpZ_in _ _ | exact bI_in _) (fun V6 e6 => ?_)
  refine gB hC _ _ _ _ _ _ _ qX10_init_9 rfl ?_
  refine g_puti hC dX10_init_11 fX10_13 z1 (by decide) rfl (fun _ h => by cases h; rfl) 1 rfl (by first | omega | exact cmpZ_in _ _ | exact bI_in _) (fun V11 e11 => ?_)
  refine gB hC _ _ _ _ _ _ _ qX10_init_14 rfl ?_
  refine g_puti hC dX10_init_16 fX10_16 z1 (by decide) rfl (fun _ h => by cases h; rfl) 2 rfl (by first | omega | exact cmpZ_in _ _ | exact bI_in _) (fun V16 e16 => ?_)
  refine gB hC _ _ _ _ _ _ _ qX10_init_19 rfl ?_
  refine g_puti hC dX10_init_22 fX10_19 z1 (by decide) rfl (fun _ h => by cases h; rfl) 3 rfl (by first | omega | exact cmpZ_in _ _ | exact bI_in _) (fun V22 e22 => ?_)
  refine gB hC _ _ _ _ _ _ _ qX10_init_25 rfl ?_
  refine g_puti hC dX10_init_28 fX10_22 z1 (by decide) rfl (fun _ h => by cases h; rfl) 4 rfl (by first | omega | exact cmpZ_in _ _ | exact bI_in _) (fun V28 e28 => ?_)
  refine g_return hC dX10_init_31 hr ⟨rfl, rfl, ?_⟩ gs_rfl ⟨Nat.le_of_ble_eq_true rfl, Nat.le_of_ble_eq_true rfl⟩
  rw [e28, e22, e16, e11, e6]; exact upS_rw V a9 [x0, x1, x2, x3, x4] rfl

theorem kX10_copyFrom {E l Sh V z} {a9 o9 : Int} (z1 : Sh a9 = some (9, 0)) (y1 : Sh o9 = some (9, 0)) : gM E l yX10_copyFrom (.code yX10_copyFrom cX10_copyFrom 2 none) (rmk 0 0 0 0) [(2, a9), (2, o9)] Sh V z (gR none Sh (rwV V a9 (V o9) 5)) := by
  refine gM_at (L0 := [(2, a9), (2, o9)]) rfl rfl rfl ?_
  intro p e s m args below meth c hC hr hex hnm hz
  refine gB hC _ _ _ _ _ _ _ qX10_copyFrom_0 rfl ?_
  refine g_getiv hC dX10_copyFrom_2 fX10_7 y1 (by decide) rfl 0 rfl rfl (fun i2 => ?_)
  refine g_puti hC dX10_copyFrom_5 fX10_7 z1 (by decide) rfl (fun _ h => by cases h; rfl) 0 rfl (by first | omega | exact cmpZ_in _ _ | exact bI_in _) (fun V5 e5 => ?_)
  refine gB hC _ _ _ _ _ _ _ qX10_copyFrom_8 rfl ?_
  refine g_getiv hC dX10_copyFrom_10 fX10_13 y1 (by decide) rfl 1 rfl ((congrFun (congrFun e5 _) _).trans ((up_ne _ _ (by omega)).trans rfl)) (fun i10 => ?_)
  refine g_puti hC dX10_copyFrom_13 fX10_13 z1 (by decide) rfl (fun _ h => by cases h; rfl) 1 rfl (by first | omega | exact cmpZ_in _ _ | exact bI_in _) (fun V13 e13 => ?_)
  refine gB hC _ _ _ _ _ _ _ qX10_copyFrom_16 rfl ?_
  refine g_getiv hC dX10_copyFrom_18 fX10_16 y1 (by decide) rfl 2 rfl ((congrFun (congrFun e13 _) _).trans ((up_ne _ _ (by omega)).trans ((congrFun (congrFun e5 _) _).trans ((up_ne _ _ (by omega)).trans rfl)))) (fun i18 => ?_)
  refine g_puti hC dX10_copyFrom_21 fX10_16 z1 (by decide) rfl (fun _ h => by cases h; rfl) 2 rfl (by first | omega | exact cmpZ_in _ _ | exact bI_in _) (fun V21 e21 => ?_)
  refine gB hC _ _ _ _ _ _ _ qX10_copyFrom_24 rfl ?_
  refine g_getiv hC dX10_copyFrom_26 fX10_19 y1 (by decide) rfl 3 rfl ((congrFun (congrFun e21 _) _).trans ((up_ne _ _ (by omega)).trans ((congrFun (congrFun e13 _) _).trans ((up_ne _ _ (by omega)).trans ((congrFun (congrFun e5 _) _).trans ((up_ne _ _ (by omega)).trans rfl)))))) (fun i26 => ?_)
  refine g_puti hC dX10_copyFrom_29 fX10_19 z1 (by decide) rfl (fun _ h => by cases h; rfl) 3 rfl (by first | omega | exact cmpZ_in _ _ | exact bI_in _) (fun V29 e29 => ?_)
  refine gB hC _ _ _ _ _ _ _ qX10_copyFrom_32 rfl ?_
  refine g_getiv hC dX10_copyFrom_34 fX10_22 y1 (by decide) rfl 4 rfl ((congrFun (congrFun e29 _) _).trans ((up_ne _ _ (by omega)).trans ((congrFun (congrFun e21 _) _).trans ((up_ne _ _ (by omega)).trans ((congrFun (congrFun e13 _) _).trans ((up_ne _ _ (by omega)).trans ((congrFun (congrFun e5 _) _).trans ((up_ne _ _ (by omega)).trans rfl)))))))) (fun i34 => ?_)
  refine g_puti hC dX10_copyFrom_37 fX10_22 z1 (by decide) rfl (fun _ h => by cases h; rfl) 4 rfl (by first | omega | exact cmpZ_in _ _ | exact bI_in _) (fun V37 e37 => ?_)
  refine g_return hC dX10_copyFrom_40 hr ⟨rfl, rfl, ?_⟩ gs_rfl ⟨Nat.le_of_ble_eq_true rfl, Nat.le_of_ble_eq_true rfl⟩
  rw [e37, e29, e21, e13, e5]
  refine (upS_rw V a9 [V o9 0, V o9 1, V o9 2, V o9 3, V o9 4] (n := 5) rfl).trans (rwV_congr (fun j j0 j1 => ?_))
  obtain rfl | rfl | rfl | rfl | rfl : j = 0 ∨ j = 1 ∨ j = 2 ∨ j = 3 ∨ j = 4 := by omega
  all_goals rfl

