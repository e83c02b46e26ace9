/-! the reference: rooms (rows laid by wip/whole/m11.py) -/
theorem g_loopE_ : True := trivial
/-- the memory with rooms laid -/
def roV (V : gV) (b : Int) (rho : gN0) (n : Int) : gV := fun a j => if a = b + 3 ∧ 0 ≤ j ∧ j < n then rho j else V a j
theorem gMd_ro {b : Int} {N : gN0} {Sh : gSh} {V : gV} (h : gMd b N Sh V) (rho : gN0) (n : Int) : gMd b N Sh (roV V b rho n) := by
  have k : ∀ a, a ≠ b + 3 → roV V b rho n a = V a := by
    intro a ha
    funext j
    unfold roV
    rw [if_neg (fun q => ha q.1)]
  obtain ⟨h1, ⟨h2, h3, h4, h5, h6⟩, h7⟩ := h
  have kb := k b (by omega)
  refine ⟨h1, ⟨?_, ?_, ?_, ?_, ?_⟩, ?_⟩
  · rw [kb]; exact h2
  · rw [kb]; exact h3
  · rw [kb]; exact h4
  · rw [kb]; exact h5
  · rw [kb]; exact h6
  · rw [k (b + 1) (by omega)]; exact h7
theorem roV_at {V : gV} {b : Int} {rho : gN0} {n j : Int} (h0 : 0 ≤ j) (h1 : j < n) : roV V b rho n (b + 3) j = rho j := by unfold roV; rw [if_pos ⟨rfl, h0, h1⟩]
theorem roV_up {V : gV} {b : Int} {rho : gN0} {n j x : Int} (h0 : 0 ≤ j) (h1 : j < n) : up (roV V b rho n) (b + 3) j x = roV V b (upN rho j x) n := by
  funext a i
  unfold up roV upN
  by_cases ha : a = b + 3
  · subst ha
    by_cases hi : i = j
    · subst hi; rw [if_pos ⟨rfl, rfl⟩, if_pos ⟨rfl, h0, h1⟩, if_pos rfl]
    · rw [if_neg (fun q => hi q.2)]
      by_cases h2 : 0 ≤ i ∧ i < n
      · rw [if_pos ⟨rfl, h2⟩, if_pos ⟨rfl, h2⟩, if_neg hi]
      · rw [if_neg (fun q => h2 q.2), if_neg (fun q => h2 q.2)]
  · rw [if_neg (fun q => ha q.1), if_neg (fun q => ha q.1), if_neg (fun q => ha q.1)]
theorem roV_0 (V : gV) (b : Int) (rho : gN0) : V = roV V b rho 0 := by
  funext a j
  unfold roV
  rw [if_neg (by omega)]
theorem roV_1 {V : gV} {b x : Int} {n : Int} (h : 0 ≤ n) : up (roV V b (fun _ => x) n) (b + 3) n x = roV V b (fun _ => x) (n + 1) := by
  funext a i
  unfold up roV
  by_cases ha : a = b + 3
  · subst ha
    by_cases hi : i = n
    · subst hi; rw [if_pos ⟨rfl, rfl⟩, if_pos ⟨rfl, h, by omega⟩]
    · rw [if_neg (fun q => hi q.2)]
      by_cases h2 : 0 ≤ i ∧ i < n
      · rw [if_pos ⟨rfl, h2⟩, if_pos ⟨rfl, h2.1, by omega⟩]
      · rw [if_neg (fun q => h2 q.2), if_neg (fun q => by omega)]
  · rw [if_neg (fun q => ha q.1), if_neg (fun q => ha q.1), if_neg (fun q => ha q.1)]
/-- whether a room is taken for a stay -/
def tkT (N rho : gN0) (k r s : Int) : Nat → Int
  | 0 => 0
  | n + 1 => if tkT N rho k r s n = 1 ∨ ((n : Int) ≠ s ∧ rho n = r ∧ (sF N n 0 = 0 ∨ sF N n 0 = 1) ∧ sF N n 1 = k ∧ sF N s 2 ≤ sF N n 2 + sF N n 3 - 1) then 1 else 0
theorem tkT_in (N rho : gN0) (k r s : Int) : ∀ n, tkT N rho k r s n = 0 ∨ tkT N rho k r s n = 1 := by
  intro n
  cases n with
  | zero => exact Or.inl rfl
  | succ n => unfold tkT; split; exact Or.inr rfl; exact Or.inl rfl
/-- the lowest room that is free for a stay, of some from one on -/
def lrT (N rho : gN0) (k s : Int) : Nat → Int → Int
  | 0, _ => -1
  | m + 1, r => if tkT N rho k r s (N 5).toNat = 1 then lrT N rho k s m (r + 1) else r
theorem lrT_in (N rho : gN0) (k s : Int) : ∀ (m : Nat) (r : Int), 0 ≤ r → -1 ≤ lrT N rho k s m r ∧ lrT N rho k s m r < r + m ∧ (lrT N rho k s m r = -1 ∨ r ≤ lrT N rho k s m r) := by
  intro m
  induction m with
  | zero => intro r h; exact ⟨Int.le_refl _, by show (-1 : Int) < r + ((0 : Nat) : Int); omega, Or.inl rfl⟩
  | succ m ih =>
    intro r h
    unfold lrT
    split
    · have := ih (r + 1) (by omega); omega
    · omega
/-- the stay behind one, by first nights -/
def nxT (N : gN0) (k d s : Int) : Nat → Int
  | 0 => -1
  | n + 1 => if ((sF N n 0 = 0 ∨ sF N n 0 = 1) ∧ sF N n 1 = k ∧ d ≤ sF N n 2 ∧ (sF N n 2 ≠ d ∨ s < n)) ∧ (nxT N k d s n = -1 ∨ sF N n 2 < sF N (nxT N k d s n) 2) then n else nxT N k d s n
theorem nxT_in (N : gN0) (k d s : Int) : ∀ n : Nat, nxT N k d s n = -1 ∨ (0 ≤ nxT N k d s n ∧ nxT N k d s n < n ∧ d ≤ sF N (nxT N k d s n) 2 ∧ (sF N (nxT N k d s n) 2 ≠ d ∨ s < nxT N k d s n)) := by
  intro n
  induction n with
  | zero => exact Or.inl rfl
  | succ n ih =>
    unfold nxT
    split
    · rename_i h; exact Or.inr ⟨by omega, by omega, h.1.2.2.1, h.1.2.2.2⟩
    · rcases ih with h | h
      · exact Or.inl h
      · exact Or.inr ⟨h.1, by omega, h.2.2⟩
/-- rooms given to the stays of a kind: rooms, the first night and the number of the last one, rooms used -/
def gvT (N : gN0) (k rooms : Int) : Nat → gN0 × Int × Int × Int
  | 0 => (fun _ => -1, -1, -1, 0)
  | n + 1 => if nxT N k (gvT N k rooms n).2.1 (gvT N k rooms n).2.2.1 (N 5).toNat = -1 then gvT N k rooms n else
    (upN (gvT N k rooms n).1 (nxT N k (gvT N k rooms n).2.1 (gvT N k rooms n).2.2.1 (N 5).toNat) (lrT N (gvT N k rooms n).1 k (nxT N k (gvT N k rooms n).2.1 (gvT N k rooms n).2.2.1 (N 5).toNat) rooms.toNat 0),
      sF N (nxT N k (gvT N k rooms n).2.1 (gvT N k rooms n).2.2.1 (N 5).toNat) 2, nxT N k (gvT N k rooms n).2.1 (gvT N k rooms n).2.2.1 (N 5).toNat,
      max (gvT N k rooms n).2.2.2 (lrT N (gvT N k rooms n).1 k (nxT N k (gvT N k rooms n).2.1 (gvT N k rooms n).2.2.1 (N 5).toNat) rooms.toNat 0 + 1))
theorem gvT_stay {N : gN0} {k rooms : Int} {n : Nat} (h : nxT N k (gvT N k rooms n).2.1 (gvT N k rooms n).2.2.1 (N 5).toNat = -1) : ∀ d : Nat, gvT N k rooms (n + d) = gvT N k rooms n := by
  intro d
  induction d with
  | zero => rfl
  | succ d ih => rw [← Nat.add_assoc, gvT, ih, if_pos h]
theorem gvT_in (N : gN0) (k : Int) {rooms : Int} (hr : 0 ≤ rooms) : ∀ n : Nat, 0 ≤ (gvT N k rooms n).2.2.2 ∧ (gvT N k rooms n).2.2.2 ≤ rooms ∧ (∀ t : Int, ((gvT N k rooms n).2.1 < sF N t 2 ∨ (sF N t 2 = (gvT N k rooms n).2.1 ∧ (gvT N k rooms n).2.2.1 < t)) → (gvT N k rooms n).1 t = -1) ∧ (∀ t : Int, -1 ≤ (gvT N k rooms n).1 t ∧ (gvT N k rooms n).1 t < rooms ∨ (gvT N k rooms n).1 t = -1) := by
  intro n
  induction n with
  | zero => exact ⟨Int.le_refl _, hr, fun _ _ => rfl, fun _ => Or.inr rfl⟩
  | succ n ih =>
    obtain ⟨a1, a2, a3, a4⟩ := ih
    rw [gvT]
    split
    · exact ⟨a1, a2, a3, a4⟩
    · rename_i hn
      have hx := (nxT_in N k (gvT N k rooms n).2.1 (gvT N k rooms n).2.2.1 (N 5).toNat).resolve_left hn
      generalize nxT N k (gvT N k rooms n).2.1 (gvT N k rooms n).2.2.1 (N 5).toNat = x at *
      have hl := lrT_in N (gvT N k rooms n).1 k x rooms.toNat 0 (Int.le_refl _)
      generalize lrT N (gvT N k rooms n).1 k x rooms.toNat 0 = lr at *
      refine ⟨by dsimp only; omega, by dsimp only; omega, fun t ht => ?_, fun t => ?_⟩
      · dsimp only at ht ⊢
        have htx : t ≠ x := by intro q; subst q; omega
        rw [upN_ne htx]
        exact a3 t (by omega)
      · dsimp only
        unfold upN
        split
        · left; omega
        · exact a4 t
theorem gvT_d {N : gN0} (hI : InvC N) (k rooms : Int) : ∀ n : Nat, -1 ≤ (gvT N k rooms n).2.1 ∧ (gvT N k rooms n).2.1 ≤ 36525 ∧ -1 ≤ (gvT N k rooms n).2.2.1 ∧ (gvT N k rooms n).2.2.1 ≤ 60 := by
  have hs := hI.1
  unfold iScal at hs
  intro n
  induction n with
  | zero => exact ⟨Int.le_refl _, by show (-1 : Int) ≤ _; omega, Int.le_refl _, by show (-1 : Int) ≤ _; omega⟩
  | succ n ih =>
    rw [gvT]
    split
    · exact ih
    · rename_i hn
      have hx := (nxT_in N k (gvT N k rooms n).2.1 (gvT N k rooms n).2.2.1 (N 5).toNat).resolve_left hn
      have hsk := (hI.2.2.2.1 _ hx.1 (by omega)).1
      dsimp only
      omega

theorem kX12_isTaken {E l Sh V z} {b : Int} {N rho : gN0} {k0 r0 s0 : Int} (hm : gMd b N Sh V) (hI : InvC N) (hr9 : ∀ t, 0 ≤ t → t < N 5 → V (b + 3) t = rho t) (h0 : 0 ≤ s0) (h1 : s0 < N 5) (ik : inI k0) (ir : inI r0) : gM E l yX12_isTaken (.code yX12_isTaken cX12_isTaken 6 (some .boolean)) (rmk 2 0 0 50) [(2, b), (0, k0), (0, r0), (0, s0)] Sh V z (gR (some (0, tkT N rho k0 r0 s0 (N 5).toNat)) Sh V) := by
  refine gM_at (L0 := [(2, b), (0, k0), (0, r0), (0, s0), (9, 0), (9, 0)]) rfl rfl rfl ?_
  intro p e s m args below meth c hC hr hex hnm hz
  have hsc := hI.1
  unfold iScal at hsc
  have hs0 := (hI.2.2.2.1 s0 h0 h1).1
  refine gB hC _ _ _ _ _ _ _ qX12_isTaken_0 rfl ?_
  refine g_loop (fun x : Nat => (x : Int) ≤ N 5) (fun x => (N 5 - (x : Int)).toNat) 6 (fun x => [(2, b), (0, k0), (0, r0), (0, s0), (0, tkT N rho k0 r0 s0 x), (0, (x : Int))]) (fun _ => V) 0 (by show (0 : Int) ≤ N 5; omega) ?_
  rintro n z hn ih
  have htk := tkT_in N rho k0 r0 s0 n
  refine gB hC _ _ _ _ _ _ _ qX12_isTaken_6 rfl ?_
  refine g_getr hC dX12_isTaken_9 fX12_9 hm.1.1 (by decide) rfl 0 rfl hm.2.1.1 ?_
  refine gB hC _ _ _ _ _ _ _ qX12_isTaken_12 rfl ?_
  refine g_iald hC dX12_isTaken_13 hm.1.2.1 (gMd_at hm _) (by omega) (by omega) (by decide) (fun i13 => ?_)
  refine g_icmp_ge hC 87 dX12_isTaken_14 rfl (by first | omega | exact bI_in _) (by first | omega | exact bI_in _) (fun c14 => ?_) (fun c14 => ?_)
  · obtain rfl : n = (N 5).toNat := by omega
    have htk9 := htk
    refine gB hC _ _ _ _ _ _ _ qX12_isTaken_87 rfl ?_
    refine g_zreturn hC dX12_isTaken_89 hr ?_ ⟨rfl, rfl, rfl⟩ gs_rfl ⟨Nat.le_of_ble_eq_true rfl, Nat.le_of_ble_eq_true rfl⟩
    · rcases htk9 with h | h
      · rw [h]; exact Or.inl rfl
      · rw [h]; exact Or.inr rfl
  · have hs := (hI.2.2.2.1 n (by omega) (by omega)).1
    have hrn := hr9 n (by omega) (by omega)
    refine gB hC _ _ _ _ _ _ _ qX12_isTaken_17 rfl ?_
    refine g_if_ne hC 74 dX12_isTaken_19 rfl (by first | omega | exact bI_in _) (fun c19 => ?_) (fun c19 => ?_)
    · refine gB hC _ _ _ _ _ _ _ qX12_isTaken_74 rfl ?_
      refine gB hC _ _ _ _ _ _ _ qX12_isTaken_79 rfl ?_
      have h9 := ih (n + 1) z (by show ((n + 1 : Nat) : Int) ≤ N 5; omega) (by show (N 5 - ((n + 1 : Nat) : Int)).toNat < (N 5 - (n : Int)).toNat; omega)
      first
      | (rw [show tkT N rho k0 r0 s0 (n + 1) = 1 by rw [tkT, if_pos (by omega)]] at h9; exact h9)
      | (rw [show tkT N rho k0 r0 s0 (n + 1) = 0 by rw [tkT, if_neg (by omega)]] at h9; exact h9)
    · refine gB hC _ _ _ _ _ _ _ qX12_isTaken_22 rfl ?_
      refine g_icmp_eq hC 78 dX12_isTaken_25 rfl (by first | omega | exact bI_in _) (by first | omega | exact bI_in _) (fun c25 => ?_) (fun c25 => ?_)
      · refine gB hC _ _ _ _ _ _ _ qX12_isTaken_78 rfl ?_
        refine gB hC _ _ _ _ _ _ _ qX12_isTaken_79 rfl ?_
        have h9 := ih (n + 1) z (by show ((n + 1 : Nat) : Int) ≤ N 5; omega) (by show (N 5 - ((n + 1 : Nat) : Int)).toNat < (N 5 - (n : Int)).toNat; omega)
        first
        | (rw [show tkT N rho k0 r0 s0 (n + 1) = 1 by rw [tkT, if_pos (by omega)]] at h9; exact h9)
        | (rw [show tkT N rho k0 r0 s0 (n + 1) = 0 by rw [tkT, if_neg (by omega)]] at h9; exact h9)
      · refine gB hC _ _ _ _ _ _ _ qX12_isTaken_28 rfl ?_
        refine g_getr hC dX12_isTaken_29 fX12_16 hm.1.1 (by decide) rfl 4 rfl hm.2.1.2.2.1 ?_
        refine gB hC _ _ _ _ _ _ _ qX12_isTaken_32 rfl ?_
        refine g_iaload hC dX12_isTaken_34 hm.1.2.2.2.1 (by omega) (by omega) (by decide) (fun i34 => ?_)
        refine gB hC _ _ _ _ _ _ _ qX12_isTaken_35 rfl ?_
        refine g_icmp_ne hC 78 dX12_isTaken_36 rfl (by first | omega | exact bI_in _) (by first | omega | exact bI_in _) (fun c36 => ?_) (fun c36 => ?_)
        · refine gB hC _ _ _ _ _ _ _ qX12_isTaken_78 rfl ?_
          refine gB hC _ _ _ _ _ _ _ qX12_isTaken_79 rfl ?_
          have h9 := ih (n + 1) z (by show ((n + 1 : Nat) : Int) ≤ N 5; omega) (by show (N 5 - ((n + 1 : Nat) : Int)).toNat < (N 5 - (n : Int)).toNat; omega)
          first
          | (rw [show tkT N rho k0 r0 s0 (n + 1) = 1 by rw [tkT, if_pos (by omega)]] at h9; exact h9)
          | (rw [show tkT N rho k0 r0 s0 (n + 1) = 0 by rw [tkT, if_neg (by omega)]] at h9; exact h9)
        · refine gB hC _ _ _ _ _ _ _ qX12_isTaken_39 rfl ?_
          refine g_cV1 hC dX12_isTaken_42 mX12_49 vX12_isAlive (kX12_isAlive hm (by omega) (by omega)) rfl hm.1.1 (by decide) rfl (Nat.le_of_ble_eq_true rfl) (RR rfl rfl rfl rfl) (fun z => ?_)
          refine g_if_eq hC 78 dX12_isTaken_45 rfl (by first | omega | exact bI_in _) (fun c45 => ?_) (fun c45 => ?_)
          · have c45 := bI_0.mp c45
            refine gB hC _ _ _ _ _ _ _ qX12_isTaken_78 rfl ?_
            refine gB hC _ _ _ _ _ _ _ qX12_isTaken_79 rfl ?_
            have h9 := ih (n + 1) z (by show ((n + 1 : Nat) : Int) ≤ N 5; omega) (by show (N 5 - ((n + 1 : Nat) : Int)).toNat < (N 5 - (n : Int)).toNat; omega)
            first
            | (rw [show tkT N rho k0 r0 s0 (n + 1) = 1 by rw [tkT, if_pos (by omega)]] at h9; exact h9)
            | (rw [show tkT N rho k0 r0 s0 (n + 1) = 0 by rw [tkT, if_neg (by omega)]] at h9; exact h9)
          · have c45 := bI_n0.mp c45
            refine gB hC _ _ _ _ _ _ _ qX12_isTaken_48 rfl ?_
            refine g_cV1i hC dX12_isTaken_52 mX12_43 vX12_of (kX12_of hm (by omega) (by omega)) rfl hm.1.1 (by decide) rfl (Nat.le_of_ble_eq_true rfl) (RR rfl rfl rfl rfl) (fun z i52 => ?_)
            refine gB hC _ _ _ _ _ _ _ qX12_isTaken_55 rfl ?_
            refine g_icmp_ne hC 78 dX12_isTaken_56 rfl (by first | omega | exact bI_in _) (by first | omega | exact bI_in _) (fun c56 => ?_) (fun c56 => ?_)
            · refine gB hC _ _ _ _ _ _ _ qX12_isTaken_78 rfl ?_
              refine gB hC _ _ _ _ _ _ _ qX12_isTaken_79 rfl ?_
              have h9 := ih (n + 1) z (by show ((n + 1 : Nat) : Int) ≤ N 5; omega) (by show (N 5 - ((n + 1 : Nat) : Int)).toNat < (N 5 - (n : Int)).toNat; omega)
              first
              | (rw [show tkT N rho k0 r0 s0 (n + 1) = 1 by rw [tkT, if_pos (by omega)]] at h9; exact h9)
              | (rw [show tkT N rho k0 r0 s0 (n + 1) = 0 by rw [tkT, if_neg (by omega)]] at h9; exact h9)
            · refine gB hC _ _ _ _ _ _ _ qX12_isTaken_59 rfl ?_
              refine g_cV1i hC dX12_isTaken_62 mX12_46 vX12_last (kX12_last hm (by omega) (by omega) (by omega)) rfl hm.1.1 (by decide) rfl (Nat.le_of_ble_eq_true rfl) (RR rfl rfl rfl rfl) (fun z i62 => ?_)
              refine gB hC _ _ _ _ _ _ _ qX12_isTaken_65 rfl ?_
              refine g_cV1i hC dX12_isTaken_68 mX12_43 vX12_of (kX12_of hm (by omega) (by omega)) rfl hm.1.1 (by decide) rfl (Nat.le_of_ble_eq_true rfl) (RR rfl rfl rfl rfl) (fun z i68 => ?_)
              refine g_icmp_lt hC 78 dX12_isTaken_71 rfl (by first | omega | exact bI_in _) (by first | omega | exact bI_in _) (fun c71 => ?_) (fun c71 => ?_)
              · refine gB hC _ _ _ _ _ _ _ qX12_isTaken_78 rfl ?_
                refine gB hC _ _ _ _ _ _ _ qX12_isTaken_79 rfl ?_
                have h9 := ih (n + 1) z (by show ((n + 1 : Nat) : Int) ≤ N 5; omega) (by show (N 5 - ((n + 1 : Nat) : Int)).toNat < (N 5 - (n : Int)).toNat; omega)
                first
                | (rw [show tkT N rho k0 r0 s0 (n + 1) = 1 by rw [tkT, if_pos (by omega)]] at h9; exact h9)
                | (rw [show tkT N rho k0 r0 s0 (n + 1) = 0 by rw [tkT, if_neg (by omega)]] at h9; exact h9)
              · refine gB hC _ _ _ _ _ _ _ qX12_isTaken_74 rfl ?_
                refine gB hC _ _ _ _ _ _ _ qX12_isTaken_79 rfl ?_
                have h9 := ih (n + 1) z (by show ((n + 1 : Nat) : Int) ≤ N 5; omega) (by show (N 5 - ((n + 1 : Nat) : Int)).toNat < (N 5 - (n : Int)).toNat; omega)
                first
                | (rw [show tkT N rho k0 r0 s0 (n + 1) = 1 by rw [tkT, if_pos (by omega)]] at h9; exact h9)
                | (rw [show tkT N rho k0 r0 s0 (n + 1) = 0 by rw [tkT, if_neg (by omega)]] at h9; exact h9)

theorem kX12_gives {E l Sh V z} {b : Int} {N : gN0} {k0 rooms : Int} (hm : gMd b N Sh V) (hI : InvC N) (ik : inI k0) (hr0 : 0 ≤ rooms) (hr1 : rooms ≤ 60) : gM E l yX12_gives (.code yX12_gives cX12_gives 9 (some .int)) (rmk 3 0 0 90) [(2, b), (0, k0), (0, rooms)] Sh V z (gRi (gvT N k0 rooms (N 5).toNat).2.2.2 Sh (roV V b (gvT N k0 rooms (N 5).toNat).1 (N 5))) := by
  refine gM_at (L0 := [(2, b), (0, k0), (0, rooms), (9, 0), (9, 0), (9, 0), (9, 0), (9, 0), (9, 0)]) rfl rfl rfl ?_
  intro p e s m args below meth c hC hr hex hnm hz
  have hsc := hI.1
  unfold iScal at hsc
  refine gB hC _ _ _ _ _ _ _ qX12_gives_0 rfl ?_
  rw [roV_0 V b (fun _ => -1)]
  refine g_loop (fun x : Nat => (x : Int) ≤ N 5) (fun x => (N 5 - (x : Int)).toNat) 2 (fun x => [(2, b), (0, k0), (0, rooms), (0, (x : Int)), (9, 0), (9, 0), (9, 0), (9, 0), (9, 0)]) (fun x => roV V b (fun _ => -1) (x : Int)) 0 (by show (0 : Int) ≤ N 5; omega) ?_
  rintro n z hn ih
  have hmn := gMd_ro hm (fun _ => -1) n
  refine gB hC _ _ _ _ _ _ _ qX12_gives_2 rfl ?_
  refine g_getr hC dX12_gives_4 fX12_9 hmn.1.1 (by decide) rfl 0 rfl hmn.2.1.1 ?_
  refine gB hC _ _ _ _ _ _ _ qX12_gives_7 rfl ?_
  refine g_iald hC dX12_gives_8 hmn.1.2.1 (gMd_at hmn _) (by omega) (by omega) (by decide) (fun i8 => ?_)
  refine g_icmp_ge hC 25 dX12_gives_9 rfl (by first | omega | exact bI_in _) (by first | omega | exact bI_in _) (fun c9 => ?_) (fun c9 => ?_)
  · refine gB hC _ _ _ _ _ _ _ qX12_gives_25 rfl ?_
    have hn5 : (n : Int) = N 5 := by omega
    rw [hn5]
    clear ih hmn
    refine g_loop (fun x : Nat × aV × aV => (x.1 : Int) ≤ N 5) (fun x => (N 5 - (x.1 : Int)).toNat) 36 (fun x => [(2, b), (0, k0), (0, rooms), (0, (gvT N k0 rooms x.1).2.2.2), (0, (gvT N k0 rooms x.1).2.1), (0, (gvT N k0 rooms x.1).2.2.1), (0, (x.1 : Int)), x.2.1, x.2.2]) (fun x => roV V b (gvT N k0 rooms x.1).1 (N 5)) (0, (9, 0), (9, 0)) (by show (0 : Int) ≤ N 5; omega) ?_
    rintro ⟨n, a7, a8⟩ z hn ih
    dsimp only at hn ih ⊢
    have hmn := gMd_ro hm (gvT N k0 rooms n).1 (N 5)
    obtain ⟨gu0, gu1, gfr, grg⟩ := gvT_in N k0 hr0 n
    have hgd := gvT_d hI k0 rooms n
    refine gB hC _ _ _ _ _ _ _ qX12_gives_36 rfl ?_
    refine g_getr hC dX12_gives_39 fX12_9 hmn.1.1 (by decide) rfl 0 rfl hmn.2.1.1 ?_
    refine gB hC _ _ _ _ _ _ _ qX12_gives_42 rfl ?_
    refine g_iald hC dX12_gives_43 hmn.1.2.1 (gMd_at hmn _) (by omega) (by omega) (by decide) (fun i43 => ?_)
    refine g_icmp_ge hC 239 dX12_gives_44 rfl (by first | omega | exact bI_in _) (by first | omega | exact bI_in _) (fun c44 => ?_) (fun c44 => ?_)
    · have hgs : gvT N k0 rooms (N 5).toNat = gvT N k0 rooms n := by rw [show (N 5).toNat = n by omega]
      refine gB hC _ _ _ _ _ _ _ qX12_gives_239 rfl ?_
      refine g_ireturn hC dX12_gives_240 hr ⟨?_, rfl, ?_, by rw [hgs]; omega⟩ gs_rfl ⟨Nat.le_of_ble_eq_true rfl, Nat.le_of_ble_eq_true rfl⟩
      · rw [hgs]
      · rw [hgs, ← roV_0 V b (fun _ => -1)]
    · refine gB hC _ _ _ _ _ _ _ qX12_gives_47 rfl ?_
      refine g_loop (fun x : Nat => (x : Int) ≤ N 5) (fun x => (N 5 - (x : Int)).toNat) 53 (fun x => [(2, b), (0, k0), (0, rooms), (0, (gvT N k0 rooms n).2.2.2), (0, (gvT N k0 rooms n).2.1), (0, (gvT N k0 rooms n).2.2.1), (0, (n : Int)), (0, nxT N k0 (gvT N k0 rooms n).2.1 (gvT N k0 rooms n).2.2.1 x), (0, (x : Int))]) (fun x => roV V b (gvT N k0 rooms n).1 (N 5)) 0 (by show (0 : Int) ≤ N 5; omega) ?_
      rintro t z ht ih2
      have hnx := nxT_in N k0 (gvT N k0 rooms n).2.1 (gvT N k0 rooms n).2.2.1 t
      refine gB hC _ _ _ _ _ _ _ qX12_gives_53 rfl ?_
      refine g_getr hC dX12_gives_56 fX12_9 hmn.1.1 (by decide) rfl 0 rfl hmn.2.1.1 ?_
      refine gB hC _ _ _ _ _ _ _ qX12_gives_59 rfl ?_
      refine g_iald hC dX12_gives_60 hmn.1.2.1 (gMd_at hmn _) (by omega) (by omega) (by decide) (fun i60 => ?_)
      refine g_icmp_ge hC 151 dX12_gives_61 rfl (by first | omega | exact bI_in _) (by first | omega | exact bI_in _) (fun c61 => ?_) (fun c61 => ?_)
      · obtain rfl : t = (N 5).toNat := by omega
        refine gB hC _ _ _ _ _ _ _ qX12_gives_151 rfl ?_
        refine g_icmp_ne hC 159 dX12_gives_154 rfl (by first | omega | exact bI_in _) (by first | omega | exact bI_in _) (fun c154 => ?_) (fun c154 => ?_)
        · have hnx9 := hnx.resolve_left (by omega)
          have hX0 := hnx9.1
          have hX1 : nxT N k0 (gvT N k0 rooms n).2.1 (gvT N k0 rooms n).2.2.1 (N 5).toNat < N 5 := by omega
          have hgn : gvT N k0 rooms (n + 1) = (upN (gvT N k0 rooms n).1 (nxT N k0 (gvT N k0 rooms n).2.1 (gvT N k0 rooms n).2.2.1 (N 5).toNat) (lrT N (gvT N k0 rooms n).1 k0 (nxT N k0 (gvT N k0 rooms n).2.1 (gvT N k0 rooms n).2.2.1 (N 5).toNat) rooms.toNat 0), sF N (nxT N k0 (gvT N k0 rooms n).2.1 (gvT N k0 rooms n).2.2.1 (N 5).toNat) 2, nxT N k0 (gvT N k0 rooms n).2.1 (gvT N k0 rooms n).2.2.1 (N 5).toNat, max (gvT N k0 rooms n).2.2.2 (lrT N (gvT N k0 rooms n).1 k0 (nxT N k0 (gvT N k0 rooms n).2.1 (gvT N k0 rooms n).2.2.1 (N 5).toNat) rooms.toNat 0 + 1)) := by rw [gvT, if_neg (by omega)]
          have hXf := gfr _ (show (gvT N k0 rooms n).2.1 < sF N (nxT N k0 (gvT N k0 rooms n).2.1 (gvT N k0 rooms n).2.2.1 (N 5).toNat) 2 ∨ (sF N (nxT N k0 (gvT N k0 rooms n).2.1 (gvT N k0 rooms n).2.2.1 (N 5).toNat) 2 = (gvT N k0 rooms n).2.1 ∧ (gvT N k0 rooms n).2.2.1 < nxT N k0 (gvT N k0 rooms n).2.1 (gvT N k0 rooms n).2.2.1 (N 5).toNat) by omega)
          clear hnx hnx9 ih2
          generalize nxT N k0 (gvT N k0 rooms n).2.1 (gvT N k0 rooms n).2.2.1 (N 5).toNat = X at *
          have hsX := (hI.2.2.2.1 X hX0 hX1).1
          refine gB hC _ _ _ _ _ _ _ qX12_gives_159 rfl ?_
          refine g_cV1i hC dX12_gives_167 mX12_43 vX12_of (kX12_of hmn (by omega) (by omega)) rfl hmn.1.1 (by decide) rfl (Nat.le_of_ble_eq_true rfl) (RR rfl rfl rfl rfl) (fun z i167 => ?_)
          refine gB hC _ _ _ _ _ _ _ qX12_gives_170 rfl ?_
          refine g_loop (fun x : Int × gN0 => (x.2 = (gvT N k0 rooms n).1 ∧ lrT N (gvT N k0 rooms n).1 k0 X (rooms - x.1).toNat x.1 = lrT N (gvT N k0 rooms n).1 k0 X rooms.toNat 0 ∧ 0 ≤ x.1 ∧ x.1 ≤ rooms) ∨ (x.2 = upN (gvT N k0 rooms n).1 X (lrT N (gvT N k0 rooms n).1 k0 X rooms.toNat 0) ∧ lrT N (gvT N k0 rooms n).1 k0 X rooms.toNat 0 ≠ -1 ∧ 1 ≤ x.1 ∧ x.1 ≤ rooms)) (fun x => (rooms - x.1).toNat) 175 (fun x => [(2, b), (0, k0), (0, rooms), (0, (gvT N k0 rooms n).2.2.2), (0, sF N X 2), (0, X), (0, (n : Int)), (0, X), (0, x.1)]) (fun x => roV V b x.2 (N 5)) (0, (gvT N k0 rooms n).1) (Or.inl ⟨rfl, by show lrT _ _ _ _ (rooms - 0).toNat 0 = _; rw [Int.sub_zero], Int.le_refl _, hr0⟩) ?_
          rintro ⟨r, rh⟩ z hrr ih3
          dsimp only at hrr ih3 ⊢
          have hmr := gMd_ro hm rh (N 5)
          have hlr := lrT_in N (gvT N k0 rooms n).1 k0 X rooms.toNat 0 (Int.le_refl _)
          have hrX : roV V b rh (N 5) (b + 3) X = rh X := roV_at hX0 hX1
          refine gB hC _ _ _ _ _ _ _ qX12_gives_175 rfl ?_
          refine g_icmp_ge hC 219 dX12_gives_178 rfl (by first | omega | exact bI_in _) (by first | omega | exact bI_in _) (fun c178 => ?_) (fun c178 => ?_)
          · have hfin : rh = upN (gvT N k0 rooms n).1 X (lrT N (gvT N k0 rooms n).1 k0 X rooms.toNat 0) := by
              rcases hrr with h | h
              · have hX : rh X = -1 := by rw [h.1]; exact hXf
                have hz : (rooms - r).toNat = 0 := by omega
                have hlr9 := h.2.1
                rw [hz] at hlr9
                have hl1 : lrT N (gvT N k0 rooms n).1 k0 X rooms.toNat 0 = -1 := hlr9.symm
                rw [h.1, hl1]
                funext j
                unfold upN
                split
                · rename_i q; rw [q]; exact hXf
                · rfl
              · exact h.1
            have hrl : rh X = lrT N (gvT N k0 rooms n).1 k0 X rooms.toNat 0 := by rw [hfin, upN_eq]
            refine gB hC _ _ _ _ _ _ _ qX12_gives_219 rfl ?_
            refine g_getr hC dX12_gives_221 fX12_16 hmr.1.1 (by decide) rfl 4 rfl hmr.2.1.2.2.1 ?_
            refine gB hC _ _ _ _ _ _ _ qX12_gives_224 rfl ?_
            refine g_iald hC dX12_gives_226 hmr.1.2.2.2.1 hrX (by omega) (by omega) (by decide) (fun i226 => ?_)
            rw [hrl]
            refine gB hC _ _ _ _ _ _ _ qX12_gives_227 rfl ?_
            refine g_max hC dX12_gives_229 mX12_72 (by first | omega | exact bI_in _) (by first | omega | exact bI_in _) ⟨Nat.le_of_ble_eq_true rfl, Nat.le_of_ble_eq_true rfl, Nat.le_of_ble_eq_true rfl, Nat.le_of_ble_eq_true rfl⟩ ?_
            refine gB hC _ _ _ _ _ _ _ qX12_gives_232 rfl ?_
            have h9 := ih (n + 1, (0, X), (0, r)) z (by show ((n + 1 : Nat) : Int) ≤ N 5; omega) (by show (N 5 - ((n + 1 : Nat) : Int)).toNat < (N 5 - (n : Int)).toNat; omega)
            rw [hgn] at h9
            rw [hfin]
            exact h9
          · refine gB hC _ _ _ _ _ _ _ qX12_gives_181 rfl ?_
            refine g_getr hC dX12_gives_182 fX12_16 hmr.1.1 (by decide) rfl 4 rfl hmr.2.1.2.2.1 ?_
            refine gB hC _ _ _ _ _ _ _ qX12_gives_185 rfl ?_
            refine g_iald hC dX12_gives_187 hmr.1.2.2.2.1 hrX (by omega) (by omega) (by decide) (fun i187 => ?_)
            refine gB hC _ _ _ _ _ _ _ qX12_gives_188 rfl ?_
            refine g_icmp_ne hC 219 dX12_gives_189 rfl (by first | omega | exact bI_in _) (by first | omega | exact bI_in _) (fun c189 => ?_) (fun c189 => ?_)
            · have hfin : rh = upN (gvT N k0 rooms n).1 X (lrT N (gvT N k0 rooms n).1 k0 X rooms.toNat 0) := by
                rcases hrr with h | h
                · have hX : rh X = -1 := by rw [h.1]; exact hXf
                  have hz : (rooms - r).toNat = 0 := by omega
                  have hlr9 := h.2.1
                  rw [hz] at hlr9
                  have hl1 : lrT N (gvT N k0 rooms n).1 k0 X rooms.toNat 0 = -1 := hlr9.symm
                  rw [h.1, hl1]
                  funext j
                  unfold upN
                  split
                  · rename_i q; rw [q]; exact hXf
                  · rfl
                · exact h.1
              have hrl : rh X = lrT N (gvT N k0 rooms n).1 k0 X rooms.toNat 0 := by rw [hfin, upN_eq]
              refine gB hC _ _ _ _ _ _ _ qX12_gives_219 rfl ?_
              refine g_getr hC dX12_gives_221 fX12_16 hmr.1.1 (by decide) rfl 4 rfl hmr.2.1.2.2.1 ?_
              refine gB hC _ _ _ _ _ _ _ qX12_gives_224 rfl ?_
              refine g_iald hC dX12_gives_226 hmr.1.2.2.2.1 hrX (by omega) (by omega) (by decide) (fun i226 => ?_)
              rw [hrl]
              refine gB hC _ _ _ _ _ _ _ qX12_gives_227 rfl ?_
              refine g_max hC dX12_gives_229 mX12_72 (by first | omega | exact bI_in _) (by first | omega | exact bI_in _) ⟨Nat.le_of_ble_eq_true rfl, Nat.le_of_ble_eq_true rfl, Nat.le_of_ble_eq_true rfl, Nat.le_of_ble_eq_true rfl⟩ ?_
              refine gB hC _ _ _ _ _ _ _ qX12_gives_232 rfl ?_
              have h9 := ih (n + 1, (0, X), (0, r)) z (by show ((n + 1 : Nat) : Int) ≤ N 5; omega) (by show (N 5 - ((n + 1 : Nat) : Int)).toNat < (N 5 - (n : Int)).toNat; omega)
              rw [hgn] at h9
              rw [hfin]
              exact h9
            · have hA : rh = (gvT N k0 rooms n).1 ∧ lrT N (gvT N k0 rooms n).1 k0 X (rooms - r).toNat r = lrT N (gvT N k0 rooms n).1 k0 X rooms.toNat 0 ∧ 0 ≤ r ∧ r ≤ rooms := by
                rcases hrr with h | h
                · exact h
                · exact absurd c189 (by rw [h.1, upN_eq]; exact h.2.1)
              obtain ⟨rfl, hl9, hr3, hr4⟩ := hA
              obtain ⟨m9, hm9⟩ : ∃ m9, (rooms - r).toNat = m9 + 1 := ⟨(rooms - r).toNat - 1, by omega⟩
              rw [hm9, lrT] at hl9
              refine gB hC _ _ _ _ _ _ _ qX12_gives_192 rfl ?_
              refine g_cV1 hC dX12_gives_198 mX12_184 vX12_isTaken (kX12_isTaken (rho := (gvT N k0 rooms n).1) hmr hI (fun t a b => roV_at a b) hX0 hX1 (by omega) (by omega)) rfl hmr.1.1 (by decide) rfl (Nat.le_of_ble_eq_true rfl) (RR rfl rfl rfl rfl) (fun z => ?_)
              have htk := tkT_in N (gvT N k0 rooms n).1 k0 r X (N 5).toNat
              refine g_if_ne hC 213 dX12_gives_201 rfl (by first | omega | exact bI_in _) (fun c201 => ?_) (fun c201 => ?_)
              · refine gB hC _ _ _ _ _ _ _ qX12_gives_213 rfl ?_
                rw [if_pos (by omega)] at hl9
                exact ih3 (r + 1, (gvT N k0 rooms n).1) z (Or.inl ⟨rfl, by show lrT _ _ _ _ (rooms - (r + 1)).toNat (r + 1) = _; rw [show (rooms - (r + 1)).toNat = m9 by omega]; exact hl9, by show 0 ≤ r + 1; omega, by show r + 1 ≤ rooms; omega⟩) (by show (rooms - (r + 1)).toNat < (rooms - r).toNat; omega)
              · rw [if_neg (by omega)] at hl9
                refine gB hC _ _ _ _ _ _ _ qX12_gives_204 rfl ?_
                refine g_getr hC dX12_gives_205 fX12_16 hmr.1.1 (by decide) rfl 4 rfl hmr.2.1.2.2.1 ?_
                refine gB hC _ _ _ _ _ _ _ qX12_gives_208 rfl ?_
                refine g_ast hC dX12_gives_212 hmr.1.2.2.2.1 (by omega) (by omega) (by decide) (by first | omega | exact bI_in _) (fun V212 e212 => ?_)
                have hm212 := gMd_o hmr e212 (Or.inl ⟨by omega, by omega⟩)
                refine gB hC _ _ _ _ _ _ _ qX12_gives_213 rfl ?_
                rw [e212, roV_up hX0 hX1]
                exact ih3 (r + 1, upN (gvT N k0 rooms n).1 X r) z (Or.inr ⟨by rw [← hl9], by rw [← hl9]; omega, by show 1 ≤ r + 1; omega, by show r + 1 ≤ rooms; omega⟩) (by show (rooms - (r + 1)).toNat < (rooms - r).toNat; omega)
        · have hgs := gvT_stay (by omega : nxT N k0 (gvT N k0 rooms n).2.1 (gvT N k0 rooms n).2.2.1 (N 5).toNat = -1) ((N 5).toNat - n)
          rw [show n + ((N 5).toNat - n) = (N 5).toNat by omega] at hgs
          refine gB hC _ _ _ _ _ _ _ qX12_gives_157 rfl ?_
          refine g_ireturn hC dX12_gives_158 hr ⟨?_, rfl, ?_, by rw [hgs]; omega⟩ gs_rfl ⟨Nat.le_of_ble_eq_true rfl, Nat.le_of_ble_eq_true rfl⟩
          · rw [hgs]
          · rw [hgs, ← roV_0 V b (fun _ => -1)]
      · have hs := (hI.2.2.2.1 t (by omega) (by omega)).1
        refine gB hC _ _ _ _ _ _ _ qX12_gives_64 rfl ?_
        refine g_cV1 hC dX12_gives_67 mX12_49 vX12_isAlive (kX12_isAlive hmn (by omega) (by omega)) rfl hmn.1.1 (by decide) rfl (Nat.le_of_ble_eq_true rfl) (RR rfl rfl rfl rfl) (fun z => ?_)
        refine g_if_eq hC 145 dX12_gives_70 rfl (by first | omega | exact bI_in _) (fun c70 => ?_) (fun c70 => ?_)
        · have c70 := bI_0.mp c70
          refine gB hC _ _ _ _ _ _ _ qX12_gives_145 rfl ?_
          have h9 := ih2 (t + 1) z (by show ((t + 1 : Nat) : Int) ≤ N 5; omega) (by show (N 5 - ((t + 1 : Nat) : Int)).toNat < (N 5 - (t : Int)).toNat; omega)
          first
          | (rw [show nxT N k0 (gvT N k0 rooms n).2.1 (gvT N k0 rooms n).2.2.1 (t + 1) = t by rw [nxT, if_pos (by omega)]] at h9; exact h9)
          | (rw [show nxT N k0 (gvT N k0 rooms n).2.1 (gvT N k0 rooms n).2.2.1 (t + 1) = nxT N k0 (gvT N k0 rooms n).2.1 (gvT N k0 rooms n).2.2.1 t by rw [nxT, if_neg (by omega)]] at h9; exact h9)
        · have c70 := bI_n0.mp c70
          refine gB hC _ _ _ _ _ _ _ qX12_gives_73 rfl ?_
          refine g_cV1i hC dX12_gives_77 mX12_43 vX12_of (kX12_of hmn (by omega) (by omega)) rfl hmn.1.1 (by decide) rfl (Nat.le_of_ble_eq_true rfl) (RR rfl rfl rfl rfl) (fun z i77 => ?_)
          refine gB hC _ _ _ _ _ _ _ qX12_gives_80 rfl ?_
          refine g_icmp_ne hC 145 dX12_gives_81 rfl (by first | omega | exact bI_in _) (by first | omega | exact bI_in _) (fun c81 => ?_) (fun c81 => ?_)
          · refine gB hC _ _ _ _ _ _ _ qX12_gives_145 rfl ?_
            have h9 := ih2 (t + 1) z (by show ((t + 1 : Nat) : Int) ≤ N 5; omega) (by show (N 5 - ((t + 1 : Nat) : Int)).toNat < (N 5 - (t : Int)).toNat; omega)
            first
            | (rw [show nxT N k0 (gvT N k0 rooms n).2.1 (gvT N k0 rooms n).2.2.1 (t + 1) = t by rw [nxT, if_pos (by omega)]] at h9; exact h9)
            | (rw [show nxT N k0 (gvT N k0 rooms n).2.1 (gvT N k0 rooms n).2.2.1 (t + 1) = nxT N k0 (gvT N k0 rooms n).2.1 (gvT N k0 rooms n).2.2.1 t by rw [nxT, if_neg (by omega)]] at h9; exact h9)
          · refine gB hC _ _ _ _ _ _ _ qX12_gives_84 rfl ?_
            refine g_cV1i hC dX12_gives_88 mX12_43 vX12_of (kX12_of hmn (by omega) (by omega)) rfl hmn.1.1 (by decide) rfl (Nat.le_of_ble_eq_true rfl) (RR rfl rfl rfl rfl) (fun z i88 => ?_)
            refine gB hC _ _ _ _ _ _ _ qX12_gives_91 rfl ?_
            refine g_icmp_lt hC 145 dX12_gives_93 rfl (by first | omega | exact bI_in _) (by first | omega | exact bI_in _) (fun c93 => ?_) (fun c93 => ?_)
            · refine gB hC _ _ _ _ _ _ _ qX12_gives_145 rfl ?_
              have h9 := ih2 (t + 1) z (by show ((t + 1 : Nat) : Int) ≤ N 5; omega) (by show (N 5 - ((t + 1 : Nat) : Int)).toNat < (N 5 - (t : Int)).toNat; omega)
              first
              | (rw [show nxT N k0 (gvT N k0 rooms n).2.1 (gvT N k0 rooms n).2.2.1 (t + 1) = t by rw [nxT, if_pos (by omega)]] at h9; exact h9)
              | (rw [show nxT N k0 (gvT N k0 rooms n).2.1 (gvT N k0 rooms n).2.2.1 (t + 1) = nxT N k0 (gvT N k0 rooms n).2.1 (gvT N k0 rooms n).2.2.1 t by rw [nxT, if_neg (by omega)]] at h9; exact h9)
            · refine gB hC _ _ _ _ _ _ _ qX12_gives_96 rfl ?_
              refine g_cV1i hC dX12_gives_100 mX12_43 vX12_of (kX12_of hmn (by omega) (by omega)) rfl hmn.1.1 (by decide) rfl (Nat.le_of_ble_eq_true rfl) (RR rfl rfl rfl rfl) (fun z i100 => ?_)
              refine gB hC _ _ _ _ _ _ _ qX12_gives_103 rfl ?_
              refine g_icmp_ne hC 118 dX12_gives_105 rfl (by first | omega | exact bI_in _) (by first | omega | exact bI_in _) (fun c105 => ?_) (fun c105 => ?_)
              · refine gB hC _ _ _ _ _ _ _ qX12_gives_118 rfl ?_
                refine g_icmp_eq hC 141 dX12_gives_121 rfl (by first | omega | exact bI_in _) (by first | omega | exact bI_in _) (fun c121 => ?_) (fun c121 => ?_)
                · refine gB hC _ _ _ _ _ _ _ qX12_gives_141 rfl ?_
                  refine gB hC _ _ _ _ _ _ _ qX12_gives_145 rfl ?_
                  have h9 := ih2 (t + 1) z (by show ((t + 1 : Nat) : Int) ≤ N 5; omega) (by show (N 5 - ((t + 1 : Nat) : Int)).toNat < (N 5 - (t : Int)).toNat; omega)
                  first
                  | (rw [show nxT N k0 (gvT N k0 rooms n).2.1 (gvT N k0 rooms n).2.2.1 (t + 1) = t by rw [nxT, if_pos (by omega)]] at h9; exact h9)
                  | (rw [show nxT N k0 (gvT N k0 rooms n).2.1 (gvT N k0 rooms n).2.2.1 (t + 1) = nxT N k0 (gvT N k0 rooms n).2.1 (gvT N k0 rooms n).2.2.1 t by rw [nxT, if_neg (by omega)]] at h9; exact h9)
                · refine gB hC _ _ _ _ _ _ _ qX12_gives_124 rfl ?_
                  refine g_cV1i hC dX12_gives_128 mX12_43 vX12_of (kX12_of hmn (by omega) (by omega)) rfl hmn.1.1 (by decide) rfl (Nat.le_of_ble_eq_true rfl) (RR rfl rfl rfl rfl) (fun z i128 => ?_)
                  refine gB hC _ _ _ _ _ _ _ qX12_gives_131 rfl ?_
                  refine g_cV1i hC dX12_gives_135 mX12_43 vX12_of (kX12_of hmn (by omega) (by omega)) rfl hmn.1.1 (by decide) rfl (Nat.le_of_ble_eq_true rfl) (RR rfl rfl rfl rfl) (fun z i135 => ?_)
                  refine g_icmp_ge hC 145 dX12_gives_138 rfl (by first | omega | exact bI_in _) (by first | omega | exact bI_in _) (fun c138 => ?_) (fun c138 => ?_)
                  · refine gB hC _ _ _ _ _ _ _ qX12_gives_145 rfl ?_
                    have h9 := ih2 (t + 1) z (by show ((t + 1 : Nat) : Int) ≤ N 5; omega) (by show (N 5 - ((t + 1 : Nat) : Int)).toNat < (N 5 - (t : Int)).toNat; omega)
                    first
                    | (rw [show nxT N k0 (gvT N k0 rooms n).2.1 (gvT N k0 rooms n).2.2.1 (t + 1) = t by rw [nxT, if_pos (by omega)]] at h9; exact h9)
                    | (rw [show nxT N k0 (gvT N k0 rooms n).2.1 (gvT N k0 rooms n).2.2.1 (t + 1) = nxT N k0 (gvT N k0 rooms n).2.1 (gvT N k0 rooms n).2.2.1 t by rw [nxT, if_neg (by omega)]] at h9; exact h9)
                  · refine gB hC _ _ _ _ _ _ _ qX12_gives_141 rfl ?_
                    refine gB hC _ _ _ _ _ _ _ qX12_gives_145 rfl ?_
                    have h9 := ih2 (t + 1) z (by show ((t + 1 : Nat) : Int) ≤ N 5; omega) (by show (N 5 - ((t + 1 : Nat) : Int)).toNat < (N 5 - (t : Int)).toNat; omega)
                    first
                    | (rw [show nxT N k0 (gvT N k0 rooms n).2.1 (gvT N k0 rooms n).2.2.1 (t + 1) = t by rw [nxT, if_pos (by omega)]] at h9; exact h9)
                    | (rw [show nxT N k0 (gvT N k0 rooms n).2.1 (gvT N k0 rooms n).2.2.1 (t + 1) = nxT N k0 (gvT N k0 rooms n).2.1 (gvT N k0 rooms n).2.2.1 t by rw [nxT, if_neg (by omega)]] at h9; exact h9)
              · refine gB hC _ _ _ _ _ _ _ qX12_gives_108 rfl ?_
                refine g_icmp_gt hC 118 dX12_gives_112 rfl (by first | omega | exact bI_in _) (by first | omega | exact bI_in _) (fun c112 => ?_) (fun c112 => ?_)
                · refine gB hC _ _ _ _ _ _ _ qX12_gives_118 rfl ?_
                  refine g_icmp_eq hC 141 dX12_gives_121 rfl (by first | omega | exact bI_in _) (by first | omega | exact bI_in _) (fun c121 => ?_) (fun c121 => ?_)
                  · refine gB hC _ _ _ _ _ _ _ qX12_gives_141 rfl ?_
                    refine gB hC _ _ _ _ _ _ _ qX12_gives_145 rfl ?_
                    have h9 := ih2 (t + 1) z (by show ((t + 1 : Nat) : Int) ≤ N 5; omega) (by show (N 5 - ((t + 1 : Nat) : Int)).toNat < (N 5 - (t : Int)).toNat; omega)
                    first
                    | (rw [show nxT N k0 (gvT N k0 rooms n).2.1 (gvT N k0 rooms n).2.2.1 (t + 1) = t by rw [nxT, if_pos (by omega)]] at h9; exact h9)
                    | (rw [show nxT N k0 (gvT N k0 rooms n).2.1 (gvT N k0 rooms n).2.2.1 (t + 1) = nxT N k0 (gvT N k0 rooms n).2.1 (gvT N k0 rooms n).2.2.1 t by rw [nxT, if_neg (by omega)]] at h9; exact h9)
                  · refine gB hC _ _ _ _ _ _ _ qX12_gives_124 rfl ?_
                    refine g_cV1i hC dX12_gives_128 mX12_43 vX12_of (kX12_of hmn (by omega) (by omega)) rfl hmn.1.1 (by decide) rfl (Nat.le_of_ble_eq_true rfl) (RR rfl rfl rfl rfl) (fun z i128 => ?_)
                    refine gB hC _ _ _ _ _ _ _ qX12_gives_131 rfl ?_
                    refine g_cV1i hC dX12_gives_135 mX12_43 vX12_of (kX12_of hmn (by omega) (by omega)) rfl hmn.1.1 (by decide) rfl (Nat.le_of_ble_eq_true rfl) (RR rfl rfl rfl rfl) (fun z i135 => ?_)
                    refine g_icmp_ge hC 145 dX12_gives_138 rfl (by first | omega | exact bI_in _) (by first | omega | exact bI_in _) (fun c138 => ?_) (fun c138 => ?_)
                    · refine gB hC _ _ _ _ _ _ _ qX12_gives_145 rfl ?_
                      have h9 := ih2 (t + 1) z (by show ((t + 1 : Nat) : Int) ≤ N 5; omega) (by show (N 5 - ((t + 1 : Nat) : Int)).toNat < (N 5 - (t : Int)).toNat; omega)
                      first
                      | (rw [show nxT N k0 (gvT N k0 rooms n).2.1 (gvT N k0 rooms n).2.2.1 (t + 1) = t by rw [nxT, if_pos (by omega)]] at h9; exact h9)
                      | (rw [show nxT N k0 (gvT N k0 rooms n).2.1 (gvT N k0 rooms n).2.2.1 (t + 1) = nxT N k0 (gvT N k0 rooms n).2.1 (gvT N k0 rooms n).2.2.1 t by rw [nxT, if_neg (by omega)]] at h9; exact h9)
                    · refine gB hC _ _ _ _ _ _ _ qX12_gives_141 rfl ?_
                      refine gB hC _ _ _ _ _ _ _ qX12_gives_145 rfl ?_
                      have h9 := ih2 (t + 1) z (by show ((t + 1 : Nat) : Int) ≤ N 5; omega) (by show (N 5 - ((t + 1 : Nat) : Int)).toNat < (N 5 - (t : Int)).toNat; omega)
                      first
                      | (rw [show nxT N k0 (gvT N k0 rooms n).2.1 (gvT N k0 rooms n).2.2.1 (t + 1) = t by rw [nxT, if_pos (by omega)]] at h9; exact h9)
                      | (rw [show nxT N k0 (gvT N k0 rooms n).2.1 (gvT N k0 rooms n).2.2.1 (t + 1) = nxT N k0 (gvT N k0 rooms n).2.1 (gvT N k0 rooms n).2.2.1 t by rw [nxT, if_neg (by omega)]] at h9; exact h9)
                · refine gB hC _ _ _ _ _ _ _ qX12_gives_115 rfl ?_
                  refine gB hC _ _ _ _ _ _ _ qX12_gives_145 rfl ?_
                  have h9 := ih2 (t + 1) z (by show ((t + 1 : Nat) : Int) ≤ N 5; omega) (by show (N 5 - ((t + 1 : Nat) : Int)).toNat < (N 5 - (t : Int)).toNat; omega)
                  first
                  | (rw [show nxT N k0 (gvT N k0 rooms n).2.1 (gvT N k0 rooms n).2.2.1 (t + 1) = t by rw [nxT, if_pos (by omega)]] at h9; exact h9)
                  | (rw [show nxT N k0 (gvT N k0 rooms n).2.1 (gvT N k0 rooms n).2.2.1 (t + 1) = nxT N k0 (gvT N k0 rooms n).2.1 (gvT N k0 rooms n).2.2.1 t by rw [nxT, if_neg (by omega)]] at h9; exact h9)
  · refine gB hC _ _ _ _ _ _ _ qX12_gives_12 rfl ?_
    refine g_getr hC dX12_gives_13 fX12_16 hmn.1.1 (by decide) rfl 4 rfl hmn.2.1.2.2.1 ?_
    refine gB hC _ _ _ _ _ _ _ qX12_gives_16 rfl ?_
    refine g_ast hC dX12_gives_18 hmn.1.2.2.2.1 (by omega) (by omega) (by decide) (by first | omega | exact bI_in _) (fun V18 e18 => ?_)
    have hm18 := gMd_o hmn e18 (Or.inl ⟨by omega, by omega⟩)
    refine gB hC _ _ _ _ _ _ _ qX12_gives_19 rfl ?_
    rw [e18, roV_1 (by omega)]
    exact ih (n + 1) z (by show ((n + 1 : Nat) : Int) ≤ N 5; omega) (by show (N 5 - ((n + 1 : Nat) : Int)).toNat < (N 5 - (n : Int)).toNat; omega)
