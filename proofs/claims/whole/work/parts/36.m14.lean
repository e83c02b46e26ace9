/-! the reference: limbs (rows laid by wip/whole/m14.py) -/
/-- the memory with a row laid -/
def rwV (V : gV) (a0 : Int) (C : gN0) (m : Int) : gV := fun a j => if a = a0 ∧ 0 ≤ j ∧ j < m then C j else V a j
theorem rwV_at {V : gV} {a0 : Int} {C : gN0} {m j : Int} (h0 : 0 ≤ j) (h1 : j < m) : rwV V a0 C m a0 j = C j := by unfold rwV; rw [if_pos ⟨rfl, h0, h1⟩]
theorem rwV_up {V : gV} {a0 : Int} {C : gN0} {n j x : Int} (h0 : 0 ≤ j) (h1 : j < n) : up (rwV V a0 C n) a0 j x = rwV V a0 (upN C j x) n := by
  funext a i
  unfold up rwV upN
  by_cases ha : a = a0
  · subst ha
    by_cases hi : i = j
    · subst hi; rw [if_pos ⟨rfl, rfl⟩, if_pos ⟨rfl, h0, h1⟩, if_pos rfl]
    · rw [if_neg (fun q => hi q.2)]
      by_cases h2 : 0 ≤ i ∧ i < n
      · rw [if_pos ⟨rfl, h2⟩, if_pos ⟨rfl, h2⟩, if_neg hi]
      · rw [if_neg (fun q => h2 q.2), if_neg (fun q => h2 q.2)]
  · rw [if_neg (fun q => ha q.1), if_neg (fun q => ha q.1), if_neg (fun q => ha q.1)]
theorem rwV_0 (V : gV) (a0 : Int) (C : gN0) : V = rwV V a0 C 0 := by
  funext a j
  unfold rwV
  rw [if_neg (by omega)]
theorem rwV_1 {V : gV} {a0 x : Int} {n : Int} (h : 0 ≤ n) : up (rwV V a0 (fun _ => x) n) a0 n x = rwV V a0 (fun _ => x) (n + 1) := by
  funext a i
  unfold up rwV
  by_cases ha : a = a0
  · subst ha
    by_cases hi : i = n
    · subst hi; rw [if_pos ⟨rfl, rfl⟩, if_pos ⟨rfl, h, by omega⟩]
    · rw [if_neg (fun q => hi q.2)]
      by_cases h2 : 0 ≤ i ∧ i < n
      · rw [if_pos ⟨rfl, h2⟩, if_pos ⟨rfl, h2.1, by omega⟩]
      · rw [if_neg (fun q => h2 q.2), if_neg (fun q => by omega)]
  · rw [if_neg (fun q => ha q.1), if_neg (fun q => ha q.1), if_neg (fun q => ha q.1)]
theorem gMd_rw {b : Int} {N : gN0} {Sh : gSh} {V : gV} (h : gMd b N Sh V) (C : gN0) (m : Int) : gMd b N Sh (rwV V (b + 5) C m) := by
  have k : ∀ a, a ≠ b + 5 → rwV V (b + 5) C m a = V a := by
    intro a ha
    funext j
    unfold rwV
    rw [if_neg (fun q => ha q.1)]
  obtain ⟨h1, ⟨h2, h3, h4, h5, h6⟩, h7⟩ := h
  have kb := k b (by omega)
  refine ⟨h1, ⟨?_, ?_, ?_, ?_, ?_⟩, ?_⟩
  · rw [kb]; exact h2
  · rw [kb]; exact h3
  · rw [kb]; exact h4
  · rw [kb]; exact h5
  · rw [kb]; exact h6
  · rw [k (b + 1) (by omega)]; exact h7
/-- limbs -/
def liOk (C : gN0) : Prop := ∀ j, 0 ≤ j → j < 44 → 0 ≤ C j ∧ C j ≤ 999999999
def mxT (C : gN0) (to by9 other oby : Int) : Nat → gN0 × Int
  | 0 => (C, 0)
  | n + 1 => (upN (mxT C to by9 other oby n).1 (to * 4 + n) (((mxT C to by9 other oby n).1 (to * 4 + n) * by9 + (if other < 0 then 0 else (mxT C to by9 other oby n).1 (other * 4 + n) * oby) + (mxT C to by9 other oby n).2) % 1000000000),
      ((mxT C to by9 other oby n).1 (to * 4 + n) * by9 + (if other < 0 then 0 else (mxT C to by9 other oby n).1 (other * 4 + n) * oby) + (mxT C to by9 other oby n).2) / 1000000000)
theorem mx_v {x y u w c : Int} (hx : 0 ≤ x ∧ x ≤ 999999999) (hy : 0 ≤ y ∧ y ≤ 1000) (hu : 0 ≤ u ∧ u ≤ 999999999) (hw : 0 ≤ w ∧ w ≤ 1000) (hc : 0 ≤ c ∧ c ≤ 2000) : 0 ≤ x * y ∧ x * y ≤ 999999999000 ∧ 0 ≤ u * w ∧ u * w ≤ 999999999000 := by
  have h1 : 0 ≤ x * y := Int.mul_nonneg hx.1 hy.1
  have h2 : x * y ≤ 999999999 * y := Int.mul_le_mul_of_nonneg_right hx.2 hy.1
  have h3 : 0 ≤ u * w := Int.mul_nonneg hu.1 hw.1
  have h4 : u * w ≤ 999999999 * w := Int.mul_le_mul_of_nonneg_right hu.2 hw.1
  omega
theorem mxT_in {C : gN0} {to by9 other oby : Int} (h : liOk C) (ht : 0 ≤ to ∧ to ≤ 10) (ho : other ≤ 10) (hb : 0 ≤ by9 ∧ by9 ≤ 1000) (hob : 0 ≤ oby ∧ oby ≤ 1000) : ∀ n : Nat, n ≤ 4 → liOk (mxT C to by9 other oby n).1 ∧ 0 ≤ (mxT C to by9 other oby n).2 ∧ (mxT C to by9 other oby n).2 ≤ 2000 := by
  intro n
  induction n with
  | zero => intro _; exact ⟨h, Int.le_refl _, by show (0 : Int) ≤ 2000; decide⟩
  | succ n ih =>
    intro hn
    obtain ⟨a1, a2, a3⟩ := ih (by omega)
    have hx := a1 (to * 4 + n) (by omega) (by omega)
    have hu : 0 ≤ (if other < 0 then 0 else (mxT C to by9 other oby n).1 (other * 4 + n) * oby) ∧ (if other < 0 then 0 else (mxT C to by9 other oby n).1 (other * 4 + n) * oby) ≤ 999999999000 := by
      split
      · omega
      · have h5 := a1 (other * 4 + n) (by omega) (by omega)
        have h6 := mx_v h5 hob h5 hob ⟨a2, a3⟩
        omega
    have hv := mx_v hx hb hx hb ⟨a2, a3⟩
    rw [mxT]
    generalize (if other < 0 then 0 else (mxT C to by9 other oby n).1 (other * 4 + n) * oby) = u at *
    refine ⟨fun j j0 j1 => ?_, by dsimp only; omega, by dsimp only; omega⟩
    dsimp only
    unfold upN
    split
    · omega
    · exact a1 j j0 j1

theorem kX12_mixes {E l Sh V z} {b : Int} {N C : gN0} {V0 : gV} {to by9 other oby : Int} (hm : gMd b N Sh V0) (hV : V = rwV V0 (b + 5) C 44) (h : liOk C) (ht : 0 ≤ to ∧ to ≤ 10) (hol : -1 ≤ other) (ho : other ≤ 10) (hb : 0 ≤ by9 ∧ by9 ≤ 1000) (hob : 0 ≤ oby ∧ oby ≤ 1000) : gM E l yX12_mixes (.code yX12_mixes cX12_mixes 12 none) (rmk 0 0 0 0) [(2, b), (0, to), (1, by9), (0, other), (1, oby)] Sh V z (gR none Sh (rwV V0 (b + 5) (mxT C to by9 other oby 4).1 44)) := by
  refine gM_at (L0 := [(2, b), (0, to), (1, by9), (9, 0), (0, other), (1, oby), (9, 0), (9, 0), (9, 0), (9, 0), (9, 0), (9, 0)]) rfl rfl rfl ?_
  intro p e s m args below meth c hC hr hex hnm hz
  subst hV
  refine gB hC _ _ _ _ _ _ _ qX12_mixes_0 rfl ?_
  refine g_loop (fun x : Nat × aV => x.1 ≤ 4) (fun x => 4 - x.1) 6 (fun x => [(2, b), (0, to), (1, by9), (9, 0), (0, other), (1, oby), (9, 0), (1, (mxT C to by9 other oby x.1).2), (9, 0), (0, (x.1 : Int)), x.2, (9, 0)]) (fun x => rwV V0 (b + 5) (mxT C to by9 other oby x.1).1 44) (0, (9, 0)) (Nat.zero_le _) ?_
  rintro ⟨n, a10⟩ z hn ih
  dsimp only at hn ih ⊢
  have hmn := gMd_rw hm (mxT C to by9 other oby n).1 44
  obtain ⟨hli, hc0, hc1⟩ := mxT_in h ht ho hb hob n hn
  have hat : n < 4 → rwV V0 (b + 5) (mxT C to by9 other oby n).1 44 (b + 5) (to * 4 + n) = (mxT C to by9 other oby n).1 (to * 4 + n) := fun _ => rwV_at (by omega) (by omega)
  refine gB hC _ _ _ _ _ _ _ qX12_mixes_6 rfl ?_
  refine g_icmp_ge hC 86 dX12_mixes_9 rfl (by first | omega | exact bI_in _) (by first | omega | exact bI_in _) (fun c9 => ?_) (fun c9 => ?_)
  · obtain rfl : n = 4 := by omega
    refine g_return hC dX12_mixes_86 hr ⟨rfl, rfl, rfl⟩ gs_rfl ⟨Nat.le_of_ble_eq_true rfl, Nat.le_of_ble_eq_true rfl⟩
  · have hx9 := hli (to * 4 + n) (by omega) (by omega)
    have hv9 := mx_v hx9 hb hx9 hb ⟨hc0, hc1⟩
    refine gB hC _ _ _ _ _ _ _ qX12_mixes_12 rfl ?_
    refine g_getr hC dX12_mixes_13 fX12_23 hmn.1.1 (by decide) rfl 6 rfl hmn.2.1.2.2.2.2 ?_
    refine gB hC _ _ _ _ _ _ _ qX12_mixes_16 rfl ?_
    refine g_lald hC dX12_mixes_22 hmn.1.2.2.2.2.2 (hat (by omega)) (by omega) (by omega) (by decide) (fun i22 => ?_)
    refine gB hC _ _ _ _ _ _ _ qX12_mixes_23 rfl ?_
    refine g_if_ge hC 34 dX12_mixes_27 rfl (by first | omega | exact bI_in _) (fun c27 => ?_) (fun c27 => ?_)
    · have hot : rwV V0 (b + 5) (mxT C to by9 other oby n).1 44 (b + 5) (other * 4 + n) = (mxT C to by9 other oby n).1 (other * 4 + n) := rwV_at (by omega) (by omega)
      have hu9 := hli (other * 4 + n) (by omega) (by omega)
      have hv8 := mx_v hu9 hob hu9 hob ⟨hc0, hc1⟩
      refine gB hC _ _ _ _ _ _ _ qX12_mixes_34 rfl ?_
      refine g_getr hC dX12_mixes_35 fX12_23 hmn.1.1 (by decide) rfl 6 rfl hmn.2.1.2.2.2.2 ?_
      refine gB hC _ _ _ _ _ _ _ qX12_mixes_38 rfl ?_
      refine g_lald hC dX12_mixes_45 hmn.1.2.2.2.2.2 hot (by omega) (by omega) (by decide) (fun i45 => ?_)
      refine gB hC _ _ _ _ _ _ _ qX12_mixes_46 rfl ?_
      refine gB hC _ _ _ _ _ _ _ qX12_mixes_49 rfl ?_
      refine g_getr hC dX12_mixes_56 fX12_23 hmn.1.1 (by decide) rfl 6 rfl hmn.2.1.2.2.2.2 ?_
      refine gB hC _ _ _ _ _ _ _ qX12_mixes_59 rfl ?_
      refine g_ldc2 hC 1000000000 kX12_190 rfl dX12_mixes_67 ?_
      refine g_lrem hC dX12_mixes_70 (by first | omega | exact bI_in _) (by first | omega | exact bI_in _) (by omega) (by omega) ?_
      refine g_lst hC dX12_mixes_71 hmn.1.2.2.2.2.2 (by omega) (by omega) (by decide) (by first | omega | exact bI_in _) (fun V71 e71 => ?_)
      have hm71 := gMd_o hmn e71 (Or.inl ⟨by omega, by omega⟩)
      refine gB hC _ _ _ _ _ _ _ qX12_mixes_72 rfl ?_
      refine g_ldc2 hC 1000000000 kX12_190 rfl dX12_mixes_74 ?_
      refine g_ldiv hC dX12_mixes_77 (by first | omega | exact bI_in _) (by first | omega | exact bI_in _) (by omega) (by omega) ?_
      refine gB hC _ _ _ _ _ _ _ qX12_mixes_78 rfl ?_
      first
      | (have hst : mxT C to by9 other oby (n + 1) = (upN (mxT C to by9 other oby n).1 (to * 4 + n) (((mxT C to by9 other oby n).1 (to * 4 + n) * by9 + 0 + (mxT C to by9 other oby n).2) % 1000000000), ((mxT C to by9 other oby n).1 (to * 4 + n) * by9 + 0 + (mxT C to by9 other oby n).2) / 1000000000) := by rw [mxT, if_pos (by omega)]
         have h9 := ih (n + 1, (1, (mxT C to by9 other oby n).1 (to * 4 + n) * by9 + 0 + (mxT C to by9 other oby n).2)) z (by show n + 1 ≤ 4; omega) (by show 4 - (n + 1) < 4 - n; omega)
         rw [hst] at h9
         rw [e71, rwV_up (by omega) (by omega)]
         exact h9)
      | (have hst : mxT C to by9 other oby (n + 1) = (upN (mxT C to by9 other oby n).1 (to * 4 + n) (((mxT C to by9 other oby n).1 (to * 4 + n) * by9 + (mxT C to by9 other oby n).1 (other * 4 + n) * oby + (mxT C to by9 other oby n).2) % 1000000000), ((mxT C to by9 other oby n).1 (to * 4 + n) * by9 + (mxT C to by9 other oby n).1 (other * 4 + n) * oby + (mxT C to by9 other oby n).2) / 1000000000) := by rw [mxT, if_neg (by omega)]
         have h9 := ih (n + 1, (1, (mxT C to by9 other oby n).1 (to * 4 + n) * by9 + (mxT C to by9 other oby n).1 (other * 4 + n) * oby + (mxT C to by9 other oby n).2)) z (by show n + 1 ≤ 4; omega) (by show 4 - (n + 1) < 4 - n; omega)
         rw [hst] at h9
         rw [e71, rwV_up (by omega) (by omega)]
         exact h9)
    · refine gB hC _ _ _ _ _ _ _ qX12_mixes_30 rfl ?_
      refine gB hC _ _ _ _ _ _ _ qX12_mixes_49 rfl ?_
      refine g_getr hC dX12_mixes_56 fX12_23 hmn.1.1 (by decide) rfl 6 rfl hmn.2.1.2.2.2.2 ?_
      refine gB hC _ _ _ _ _ _ _ qX12_mixes_59 rfl ?_
      refine g_ldc2 hC 1000000000 kX12_190 rfl dX12_mixes_67 ?_
      refine g_lrem hC dX12_mixes_70 (by first | omega | exact bI_in _) (by first | omega | exact bI_in _) (by omega) (by omega) ?_
      refine g_lst hC dX12_mixes_71 hmn.1.2.2.2.2.2 (by omega) (by omega) (by decide) (by first | omega | exact bI_in _) (fun V71 e71 => ?_)
      have hm71 := gMd_o hmn e71 (Or.inl ⟨by omega, by omega⟩)
      refine gB hC _ _ _ _ _ _ _ qX12_mixes_72 rfl ?_
      refine g_ldc2 hC 1000000000 kX12_190 rfl dX12_mixes_74 ?_
      refine g_ldiv hC dX12_mixes_77 (by first | omega | exact bI_in _) (by first | omega | exact bI_in _) (by omega) (by omega) ?_
      refine gB hC _ _ _ _ _ _ _ qX12_mixes_78 rfl ?_
      first
      | (have hst : mxT C to by9 other oby (n + 1) = (upN (mxT C to by9 other oby n).1 (to * 4 + n) (((mxT C to by9 other oby n).1 (to * 4 + n) * by9 + 0 + (mxT C to by9 other oby n).2) % 1000000000), ((mxT C to by9 other oby n).1 (to * 4 + n) * by9 + 0 + (mxT C to by9 other oby n).2) / 1000000000) := by rw [mxT, if_pos (by omega)]
         have h9 := ih (n + 1, (1, (mxT C to by9 other oby n).1 (to * 4 + n) * by9 + 0 + (mxT C to by9 other oby n).2)) z (by show n + 1 ≤ 4; omega) (by show 4 - (n + 1) < 4 - n; omega)
         rw [hst] at h9
         rw [e71, rwV_up (by omega) (by omega)]
         exact h9)
      | (have hst : mxT C to by9 other oby (n + 1) = (upN (mxT C to by9 other oby n).1 (to * 4 + n) (((mxT C to by9 other oby n).1 (to * 4 + n) * by9 + (mxT C to by9 other oby n).1 (other * 4 + n) * oby + (mxT C to by9 other oby n).2) % 1000000000), ((mxT C to by9 other oby n).1 (to * 4 + n) * by9 + (mxT C to by9 other oby n).1 (other * 4 + n) * oby + (mxT C to by9 other oby n).2) / 1000000000) := by rw [mxT, if_neg (by omega)]
         have h9 := ih (n + 1, (1, (mxT C to by9 other oby n).1 (to * 4 + n) * by9 + (mxT C to by9 other oby n).1 (other * 4 + n) * oby + (mxT C to by9 other oby n).2)) z (by show n + 1 ≤ 4; omega) (by show 4 - (n + 1) < 4 - n; omega)
         rw [hst] at h9
         rw [e71, rwV_up (by omega) (by omega)]
         exact h9)
