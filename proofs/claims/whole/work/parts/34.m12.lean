/-! the reference: readers of rooms (rows laid by wip/whole/m12.py) -/
section GW4
variable {E : gE} {own : String} {nL : Nat} {p : Program} {l : Launch} {e : Env} {R : Room} {s : State} {m : MethodId} {args : Array Value} {below : List Frame} {meth : Method} {c : Code} {Q : State → Prop} {pc k n : Nat} {L r : List aV} {Sh : gSh} {V : gV} {z : Int} {cc : ByteArray}
theorem g_tsIn (hC : gC E own cc nL p l s m args meth c) {x : Int} {dflt lo hi : Int} {offs : Array Int} {len : Nat} {off : Int} (tgt : Nat) (hd : decode cc pc = .ok (.tableswitch dflt lo hi offs, len)) (hx : inI x) (h1 : lo ≤ x) (h2 : x ≤ hi) (ho : offs[(x - lo).toNat]? = some off) (ht : (pc : Int) + off = (tgt : Int))
    (kk : gG E nL p l e R s m args below meth c Q tgt L r Sh V z k n) : gG E nL p l e R s m args below meth c Q pc L ((0, x) :: r) Sh V z k n := by
  have hx2 := iI_toInt hx
  intro H locs ls a1 a2 a3 a4 a5
  exact lv_tableIn hC.1 hC.2.1 hd (by rw [hx2]; omega) (by rw [hx2]; omega) (by rw [hx2]; exact ho) ht (kk H locs ls a1 a2 a3 a4 a5)
theorem g_tsOut (hC : gC E own cc nL p l s m args meth c) {x : Int} {dflt lo hi : Int} {offs : Array Int} {len : Nat} (tgt : Nat) (hd : decode cc pc = .ok (.tableswitch dflt lo hi offs, len)) (hx : inI x) (h1 : x < lo ∨ hi < x) (ht : (pc : Int) + dflt = (tgt : Int))
    (kk : gG E nL p l e R s m args below meth c Q tgt L r Sh V z k n) : gG E nL p l e R s m args below meth c Q pc L ((0, x) :: r) Sh V z k n := by
  have hx2 := iI_toInt hx
  intro H locs ls a1 a2 a3 a4 a5
  exact lv_tableOut hC.1 hC.2.1 hd (by rw [hx2]; exact h1) ht (kk H locs ls a1 a2 a3 a4 a5)
end GW4
theorem stZ_in {N : gN0} {s : Int} (h : sOk N s) (hn : N 1 ≤ 3) (w : Int) : inI (stZ N s w) := by
  have h1 := h.1
  have h2 := sPr_in h
  have h3 := sTx_in h
  have h4 := dateZ_in (d := sF N s 2) (by omega) (by omega)
  have h5 := dateZ_in (d := sF N s 9) (by omega) (by omega)
  have h4' : inI (dateZ (sF N s 2)) := by omega
  have h5' : inI (dateZ (sF N s 9)) := by omega
  clear h4 h5
  have key : ∀ (a c : Int) (P : Prop) [Decidable P], inI a → inI c → inI (if P then a else c) := by
    intro a c P _ ha hc
    split
    · exact ha
    · exact hc
  unfold stZ
  exact key _ _ _ (by omega) (key _ _ _ (by omega) (key _ _ _ h4' (key _ _ _ (by omega) (key _ _ _ (by omega) (key _ _ _ (by omega) (key _ _ _ (by omega) (key _ _ _ (by omega) h5')))))))
theorem roV_ro (V : gV) (b : Int) (r1 r2 : gN0) (n : Int) : roV (roV V b r1 n) b r2 n = roV V b r2 n := by
  funext a j
  unfold roV
  by_cases h : a = b + 3 ∧ 0 ≤ j ∧ j < n
  · rw [if_pos h, if_pos h]
  · rw [if_neg h, if_neg h, if_neg h]
/-- rooms of one kind after another -/
def rhV (V : gV) (b : Int) (N : gN0) : Nat → gV
  | 0 => V
  | k + 1 => roV V b (gvT N k (kF N k 0) (N 5).toNat).1 (N 5)
theorem rhV_next (V : gV) (b : Int) (N : gN0) (k : Nat) : roV (rhV V b N k) b (gvT N k (kF N k 0) (N 5).toNat).1 (N 5) = rhV V b N (k + 1) := by
  cases k with
  | zero => rfl
  | succ k => exact roV_ro _ _ _ _ _
theorem gMd_rh {b : Int} {N : gN0} {Sh : gSh} {V : gV} (h : gMd b N Sh V) (k : Nat) : gMd b N Sh (rhV V b N k) := by
  cases k with
  | zero => exact h
  | succ k => exact gMd_ro h _ _
/-- a room is left, is used -/
def ndI (N rho : gN0) (r d : Int) : Nat → Int × Int
  | 0 => (0, 0)
  | n + 1 => if rho n = r ∧ sF N n 2 ≤ d ∧ d ≤ sF N n 2 + sF N n 3 - 1 then (if (ndI N rho r d n).1 = 1 ∨ sF N n 2 + sF N n 3 - 1 = d then 1 else 0, 1) else ndI N rho r d n
theorem ndI_in (N rho : gN0) (r d : Int) : ∀ n, ((ndI N rho r d n).1 = 0 ∨ (ndI N rho r d n).1 = 1) ∧ ((ndI N rho r d n).2 = 0 ∨ (ndI N rho r d n).2 = 1) := by
  intro n
  induction n with
  | zero => exact ⟨Or.inl rfl, Or.inl rfl⟩
  | succ n ih =>
    unfold ndI
    split
    · dsimp only
      split <;> simp
    · exact ih
def ndR (N rho : gN0) (m d : Int) : Nat → Int
  | 0 => 0
  | r + 1 => ndR N rho m d r + (if (m = 45 ∧ (ndI N rho r d (N 5).toNat).1 = 1) ∨ (m ≠ 45 ∧ (ndI N rho r d (N 5).toNat).2 = 1 ∧ (ndI N rho r d (N 5).toNat).1 = 0) then 1 else 0)
theorem ndR_in (N rho : gN0) (m d : Int) : ∀ n : Nat, 0 ≤ ndR N rho m d n ∧ ndR N rho m d n ≤ n := by
  intro n
  induction n with
  | zero => exact ⟨Int.le_refl _, Int.le_refl _⟩
  | succ n ih => unfold ndR; split <;> omega
def ndK (N : gN0) (m d : Int) : Nat → Int
  | 0 => 0
  | k + 1 => ndK N m d k + ndR N (gvT N k (kF N k 0) (N 5).toNat).1 m d (gvT N k (kF N k 0) (N 5).toNat).2.2.2.toNat
theorem ndK_in {N : gN0} (hI : InvC N) (m d : Int) : ∀ n : Nat, (n : Int) ≤ N 1 → 0 ≤ ndK N m d n ∧ ndK N m d n ≤ 6 * n := by
  intro n
  induction n with
  | zero => intro _; exact ⟨Int.le_refl _, by show (0 : Int) ≤ 6 * ((0 : Nat) : Int); omega⟩
  | succ n ih =>
    intro hn
    have h1 := ih (by omega)
    have hk := hI.2.1 n (by omega) (by omega)
    unfold kOk at hk
    have hg := gvT_in N n (rooms := kF N n 0) (by omega) (N 5).toNat
    have h2 := ndR_in N (gvT N n (kF N n 0) (N 5).toNat).1 m d (gvT N n (kF N n 0) (N 5).toNat).2.2.2.toNat
    unfold ndK
    omega
/-- the fewest rounds, of some pairs -/
def roF (a b : Int) : Nat → Int
  | 0 => a + b
  | n + 1 => min (roF a b n) (n + (a - 2 * n) + (max 0 (b - n - 3 * (a - 2 * n)) + 5) / 6)
theorem roF_in {a b : Int} (ha : 0 ≤ a) (hb : 0 ≤ b) : ∀ n : Nat, 2 * (n : Int) ≤ a + 2 → 0 ≤ roF a b n ∧ roF a b n ≤ a + b := by
  intro n
  induction n with
  | zero => intro _; show 0 ≤ a + b ∧ a + b ≤ a + b; omega
  | succ n ih =>
    intro hn
    have := ih (by omega)
    unfold roF
    omega
/-- whether a kind is over, whether one is without -/
def erI (N rho : gN0) (k : Int) : Nat → Int × Int
  | 0 => (0, 0)
  | n + 1 => if (sF N n 0 = 0 ∨ sF N n 0 = 1) ∧ sF N n 1 = k then (if (erI N rho k n).1 = 1 ∨ kF N k 0 < cnt N k (sF N n 2) then 1 else 0, if (erI N rho k n).2 = 1 ∨ rho n = -1 then 1 else 0) else erI N rho k n
theorem erI_in (N rho : gN0) (k : Int) : ∀ n, ((erI N rho k n).1 = 0 ∨ (erI N rho k n).1 = 1) ∧ ((erI N rho k n).2 = 0 ∨ (erI N rho k n).2 = 1) := by
  intro n
  induction n with
  | zero => exact ⟨Or.inl rfl, Or.inl rfl⟩
  | succ n ih =>
    unfold erI
    split
    · dsimp only
      constructor <;> split <;> simp
    · exact ih
def erK (N : gN0) : Nat → Int
  | 0 => 0
  | k + 1 => erK N k + (if (erI N (gvT N k (kF N k 0) (N 5).toNat).1 k (N 5).toNat).1 = (erI N (gvT N k (kF N k 0) (N 5).toNat).1 k (N 5).toNat).2 then 0 else 1)
theorem erK_in (N : gN0) : ∀ n : Nat, 0 ≤ erK N n ∧ erK N n ≤ n := by
  intro n
  induction n with
  | zero => exact ⟨Int.le_refl _, Int.le_refl _⟩
  | succ n ih => unfold erK; split <;> omega

theorem kX12_stayAt {E l Sh V z} {b : Int} {N : gN0} {s0 w0 : Int} (hm : gMd b N Sh V) (hI : INV N) (hk : inI s0) (hw : inI w0) : gM E l yX12_stayAt (.code yX12_stayAt cX12_stayAt 3 (some .int)) (rmk 8 0 0 200) [(2, b), (0, s0), (0, w0)] Sh V z (gRi (if (fitC (bI (0 ≤ s0 ∧ s0 ≤ N 5 - 1)) (bI (0 ≤ w0 ∧ w0 ≤ 8)) 1) = 0 then stZ N s0 w0 else 0) Sh (up V b 3 (fitC (bI (0 ≤ s0 ∧ s0 ≤ N 5 - 1)) (bI (0 ≤ w0 ∧ w0 ≤ 8)) 1))) := by
  refine gM_at (L0 := [(2, b), (0, s0), (0, w0)]) rfl rfl rfl ?_
  intro p e s m args below meth c hC hr hex hnm hz
  have hsc := hI.1.1
  unfold iScal at hsc
  refine gB hC _ _ _ _ _ _ _ qX12_stayAt_0 rfl ?_
  refine g_cV1 hC dX12_stayAt_3 mX12_143 vX12_isStay (kX12_isStay hm (by omega) (by omega)) rfl hm.1.1 (by decide) rfl (Nat.le_of_ble_eq_true rfl) (RR rfl rfl rfl rfl) (fun z => ?_)
  refine gB hC _ _ _ _ _ _ _ qX12_stayAt_6 rfl ?_
  refine g_cS1 hC dX12_stayAt_10 mX12_35 sX12_in (kX12_in (by omega) (by omega) (by omega)) rfl rfl (Nat.le_of_ble_eq_true rfl) (RR rfl rfl rfl rfl) (fun z => ?_)
  refine gB hC _ _ _ _ _ _ _ qX12_stayAt_13 rfl ?_
  refine g_cV1m hC dX12_stayAt_14 mX12_111 vX12_fits (kX12_fitsC (C := (fitC (bI (0 ≤ s0 ∧ s0 ≤ N 5 - 1)) (bI (0 ≤ w0 ∧ w0 ≤ 8)) 1)) hm (by first | omega | exact bI_in _) (by first | omega | exact bI_in _) (by first | omega | exact bI_in _) (fit_eq (by first | rfl | exact (bI_t (by omega)).symm | exact (bI_f (by omega)).symm) (by first | rfl | exact (bI_t (by omega)).symm | exact (bI_f (by omega)).symm) (by first | rfl | exact (bI_t (by omega)).symm | exact (bI_f (by omega)).symm))) rfl hm.1.1 (by decide) rfl (Nat.le_of_ble_eq_true rfl) (RR rfl rfl rfl rfl) (fun z V14 e14 => ?_)
  have hm14 := gMd_o hm e14 (Or.inr ⟨rfl, by decide⟩)
  have h214 : V14 b 2 = V b 2 := by rw [e14, up_ne _ _ (Or.inr (by decide))]
  refine g_if_ne hC 22 dX12_stayAt_17 rfl (by first | omega | exact bI_in _) (fun c17 => ?_) (fun c17 => ?_)
  · have cF := bI_n0.mp c17
    have hp1 := fit_p1 cF
    have hp2 := fit_p2 cF
    have hsk := hI.1.2.2.2.1 s0 hp1.1 (by omega)
    have hs1 := hsk.1
    have hpr := sPr_in hsk
    have hst := stZ_in hsk (by omega) w0
    refine gB hC _ _ _ _ _ _ _ qX12_stayAt_22 rfl ?_
    have hsw : w0 = 0 ∨ w0 = 1 ∨ w0 = 2 ∨ w0 = 3 ∨ w0 = 4 ∨ w0 = 5 ∨ w0 = 6 ∨ w0 = 7 ∨ w0 = 8 := by omega
    rcases hsw with rfl | rfl | rfl | rfl | rfl | rfl | rfl | rfl | rfl
    · refine g_tsIn hC 68 dX12_stayAt_23 ⟨by decide, by decide⟩ (by decide) (by decide) rfl rfl ?_
      refine gB hC _ _ _ _ _ _ _ qX12_stayAt_68 rfl ?_
      refine g_cV1i hC dX12_stayAt_71 mX12_43 vX12_of (kX12_of hm14 (by omega) (by omega)) rfl hm14.1.1 (by decide) rfl (Nat.le_of_ble_eq_true rfl) (RR rfl rfl rfl rfl) (fun z i71 => ?_)
      refine g_ireturn hC dX12_stayAt_74 hr ⟨?_, rfl, ?_, ?_⟩ gs_rfl ⟨Nat.le_of_ble_eq_true rfl, Nat.le_of_ble_eq_true rfl⟩
      · rw [if_pos cF]
        rfl
      · exact e14
      · rw [if_pos cF]
        exact hst
    · refine g_tsIn hC 75 dX12_stayAt_23 ⟨by decide, by decide⟩ (by decide) (by decide) rfl rfl ?_
      refine gB hC _ _ _ _ _ _ _ qX12_stayAt_75 rfl ?_
      refine g_cV1i hC dX12_stayAt_78 mX12_43 vX12_of (kX12_of hm14 (by omega) (by omega)) rfl hm14.1.1 (by decide) rfl (Nat.le_of_ble_eq_true rfl) (RR rfl rfl rfl rfl) (fun z i78 => ?_)
      refine g_ireturn hC dX12_stayAt_81 hr ⟨?_, rfl, ?_, ?_⟩ gs_rfl ⟨Nat.le_of_ble_eq_true rfl, Nat.le_of_ble_eq_true rfl⟩
      · rw [if_pos cF]
        rfl
      · exact e14
      · rw [if_pos cF]
        exact hst
    · refine g_tsIn hC 82 dX12_stayAt_23 ⟨by decide, by decide⟩ (by decide) (by decide) rfl rfl ?_
      refine gB hC _ _ _ _ _ _ _ qX12_stayAt_82 rfl ?_
      refine g_cV1i hC dX12_stayAt_85 mX12_43 vX12_of (kX12_of hm14 (by omega) (by omega)) rfl hm14.1.1 (by decide) rfl (Nat.le_of_ble_eq_true rfl) (RR rfl rfl rfl rfl) (fun z i85 => ?_)
      refine g_cS1i hC dX12_stayAt_88 mX12_66 sX12_dateOf (kX12_dateOf (by omega) (by omega)) rfl rfl (Nat.le_of_ble_eq_true rfl) (RR rfl rfl rfl rfl) (fun z i88 => ?_)
      refine g_ireturn hC dX12_stayAt_91 hr ⟨?_, rfl, ?_, ?_⟩ gs_rfl ⟨Nat.le_of_ble_eq_true rfl, Nat.le_of_ble_eq_true rfl⟩
      · rw [if_pos cF]
        rfl
      · exact e14
      · rw [if_pos cF]
        exact hst
    · refine g_tsIn hC 92 dX12_stayAt_23 ⟨by decide, by decide⟩ (by decide) (by decide) rfl rfl ?_
      refine gB hC _ _ _ _ _ _ _ qX12_stayAt_92 rfl ?_
      refine g_cV1i hC dX12_stayAt_95 mX12_43 vX12_of (kX12_of hm14 (by omega) (by omega)) rfl hm14.1.1 (by decide) rfl (Nat.le_of_ble_eq_true rfl) (RR rfl rfl rfl rfl) (fun z i95 => ?_)
      refine g_ireturn hC dX12_stayAt_98 hr ⟨?_, rfl, ?_, ?_⟩ gs_rfl ⟨Nat.le_of_ble_eq_true rfl, Nat.le_of_ble_eq_true rfl⟩
      · rw [if_pos cF]
        rfl
      · exact e14
      · rw [if_pos cF]
        exact hst
    · refine g_tsIn hC 99 dX12_stayAt_23 ⟨by decide, by decide⟩ (by decide) (by decide) rfl rfl ?_
      refine gB hC _ _ _ _ _ _ _ qX12_stayAt_99 rfl ?_
      refine g_cV1i hC dX12_stayAt_101 mX12_146 vX12_price (kX12_price hm14 hsk (by omega) (by omega)) rfl hm14.1.1 (by decide) rfl (Nat.le_of_ble_eq_true rfl) (RR rfl rfl rfl rfl) (fun z i101 => ?_)
      refine g_ireturn hC dX12_stayAt_104 hr ⟨?_, rfl, ?_, ?_⟩ gs_rfl ⟨Nat.le_of_ble_eq_true rfl, Nat.le_of_ble_eq_true rfl⟩
      · rw [if_pos cF]
        rfl
      · exact e14
      · rw [if_pos cF]
        exact hst
    · refine g_tsIn hC 105 dX12_stayAt_23 ⟨by decide, by decide⟩ (by decide) (by decide) rfl rfl ?_
      refine gB hC _ _ _ _ _ _ _ qX12_stayAt_105 rfl ?_
      refine g_cV1i hC dX12_stayAt_109 mX12_43 vX12_of (kX12_of hm14 (by omega) (by omega)) rfl hm14.1.1 (by decide) rfl (Nat.le_of_ble_eq_true rfl) (RR rfl rfl rfl rfl) (fun z i109 => ?_)
      refine g_ireturn hC dX12_stayAt_112 hr ⟨?_, rfl, ?_, ?_⟩ gs_rfl ⟨Nat.le_of_ble_eq_true rfl, Nat.le_of_ble_eq_true rfl⟩
      · rw [if_pos cF]
        rfl
      · exact e14
      · rw [if_pos cF]
        exact hst
    · refine g_tsIn hC 113 dX12_stayAt_23 ⟨by decide, by decide⟩ (by decide) (by decide) rfl rfl ?_
      refine gB hC _ _ _ _ _ _ _ qX12_stayAt_113 rfl ?_
      refine g_cV1i hC dX12_stayAt_115 mX12_155 vX12_tax (kX12_tax hm14 hsk (by omega) (by omega)) rfl hm14.1.1 (by decide) rfl (Nat.le_of_ble_eq_true rfl) (RR rfl rfl rfl rfl) (fun z i115 => ?_)
      refine g_ireturn hC dX12_stayAt_118 hr ⟨?_, rfl, ?_, ?_⟩ gs_rfl ⟨Nat.le_of_ble_eq_true rfl, Nat.le_of_ble_eq_true rfl⟩
      · rw [if_pos cF]
        rfl
      · exact e14
      · rw [if_pos cF]
        exact hst
    · refine g_tsIn hC 119 dX12_stayAt_23 ⟨by decide, by decide⟩ (by decide) (by decide) rfl rfl ?_
      refine gB hC _ _ _ _ _ _ _ qX12_stayAt_119 rfl ?_
      refine g_cV1i hC dX12_stayAt_123 mX12_43 vX12_of (kX12_of hm14 (by omega) (by omega)) rfl hm14.1.1 (by decide) rfl (Nat.le_of_ble_eq_true rfl) (RR rfl rfl rfl rfl) (fun z i123 => ?_)
      refine g_ireturn hC dX12_stayAt_126 hr ⟨?_, rfl, ?_, ?_⟩ gs_rfl ⟨Nat.le_of_ble_eq_true rfl, Nat.le_of_ble_eq_true rfl⟩
      · rw [if_pos cF]
        rfl
      · exact e14
      · rw [if_pos cF]
        exact hst
    · refine g_tsOut hC 127 dX12_stayAt_23 ⟨by decide, by decide⟩ (Or.inr (by decide)) rfl ?_
      refine gB hC _ _ _ _ _ _ _ qX12_stayAt_127 rfl ?_
      refine g_cV1i hC dX12_stayAt_131 mX12_43 vX12_of (kX12_of hm14 (by omega) (by omega)) rfl hm14.1.1 (by decide) rfl (Nat.le_of_ble_eq_true rfl) (RR rfl rfl rfl rfl) (fun z i131 => ?_)
      refine g_cS1i hC dX12_stayAt_134 mX12_66 sX12_dateOf (kX12_dateOf (by omega) (by omega)) rfl rfl (Nat.le_of_ble_eq_true rfl) (RR rfl rfl rfl rfl) (fun z i134 => ?_)
      refine g_ireturn hC dX12_stayAt_137 hr ⟨?_, rfl, ?_, ?_⟩ gs_rfl ⟨Nat.le_of_ble_eq_true rfl, Nat.le_of_ble_eq_true rfl⟩
      · rw [if_pos cF]
        rfl
      · exact e14
      · rw [if_pos cF]
        exact hst
  · have cF := bI_0.mp c17
    refine gB hC _ _ _ _ _ _ _ qX12_stayAt_20 rfl ?_
    refine g_ireturn hC dX12_stayAt_21 hr ⟨?_, rfl, ?_, ?_⟩ gs_rfl ⟨Nat.le_of_ble_eq_true rfl, Nat.le_of_ble_eq_true rfl⟩
    · rw [if_neg cF]
    · exact e14
    · rw [if_neg cF]; decide

theorem kX12_needed {E l Sh V z} {b : Int} {N : gN0} {k0 : Int} (hm : gMd b N Sh V) (hI : INV N) (hk : inI k0) : gM E l yX12_needed (.code yX12_needed cX12_needed 2 (some .int)) (rmk 8 0 0 200) [(2, b), (0, k0)] Sh V z (gRi (if (fitC (bI (0 ≤ k0 ∧ k0 ≤ N 1 - 1)) 1 1) = 0 then (gvT N (k0) (60) (N 5).toNat).2.2.2 else 0) Sh (if (fitC (bI (0 ≤ k0 ∧ k0 ≤ N 1 - 1)) 1 1) = 0 then roV (up V b 3 0) b (gvT N (k0) (60) (N 5).toNat).1 (N 5) else up V b 3 (fitC (bI (0 ≤ k0 ∧ k0 ≤ N 1 - 1)) 1 1))) := by
  refine gM_at (L0 := [(2, b), (0, k0)]) rfl rfl rfl ?_
  intro p e s m args below meth c hC hr hex hnm hz
  have hsc := hI.1.1
  unfold iScal at hsc
  refine gB hC _ _ _ _ _ _ _ qX12_needed_0 rfl ?_
  refine g_cV1 hC dX12_needed_3 mX12_118 vX12_isKind (kX12_isKind hm (by omega) (by omega)) rfl hm.1.1 (by decide) rfl (Nat.le_of_ble_eq_true rfl) (RR rfl rfl rfl rfl) (fun z => ?_)
  refine gB hC _ _ _ _ _ _ _ qX12_needed_6 rfl ?_
  refine g_cV1m hC dX12_needed_8 mX12_111 vX12_fits (kX12_fitsC (C := (fitC (bI (0 ≤ k0 ∧ k0 ≤ N 1 - 1)) 1 1)) hm (by first | omega | exact bI_in _) (by first | omega | exact bI_in _) (by first | omega | exact bI_in _) (fit_eq (by first | rfl | exact (bI_t (by omega)).symm | exact (bI_f (by omega)).symm) (by first | rfl | exact (bI_t (by omega)).symm | exact (bI_f (by omega)).symm) (by first | rfl | exact (bI_t (by omega)).symm | exact (bI_f (by omega)).symm))) rfl hm.1.1 (by decide) rfl (Nat.le_of_ble_eq_true rfl) (RR rfl rfl rfl rfl) (fun z V8 e8 => ?_)
  have hm8 := gMd_o hm e8 (Or.inr ⟨rfl, by decide⟩)
  have h28 : V8 b 2 = V b 2 := by rw [e8, up_ne _ _ (Or.inr (by decide))]
  refine g_if_eq hC 24 dX12_needed_11 rfl (by first | omega | exact bI_in _) (fun c11 => ?_) (fun c11 => ?_)
  · have cF := bI_0.mp c11
    refine gB hC _ _ _ _ _ _ _ qX12_needed_24 rfl ?_
    refine g_ireturn hC dX12_needed_25 hr ⟨?_, rfl, ?_, ?_⟩ gs_rfl ⟨Nat.le_of_ble_eq_true rfl, Nat.le_of_ble_eq_true rfl⟩
    · rw [if_neg cF]
    · rw [if_neg cF]; exact e8
    · rw [if_neg cF]; decide
  · have cF := bI_n0.mp c11
    have hp1 := fit_p1 cF
    have hgi := gvT_in N k0 (rooms := 60) (by decide) (N 5).toNat
    refine gB hC _ _ _ _ _ _ _ qX12_needed_14 rfl ?_
    refine g_cV1im hC dX12_needed_18 mX12_187 vX12_gives (kX12_gives hm8 hI.1 (by omega) (by decide) (by decide)) rfl hm8.1.1 (by decide) rfl (Nat.le_of_ble_eq_true rfl) (RR rfl rfl rfl rfl) (fun z V18 e18 i18 => ?_)
    have hm18 : gMd b N Sh V18 := by rw [e18]; exact gMd_ro hm8 _ _
    refine gB hC _ _ _ _ _ _ _ qX12_needed_21 rfl ?_
    refine g_ireturn hC dX12_needed_25 hr ⟨?_, rfl, ?_, ?_⟩ gs_rfl ⟨Nat.le_of_ble_eq_true rfl, Nat.le_of_ble_eq_true rfl⟩
    · rw [if_pos cF]
      first | done | rfl
    · rw [if_pos cF]
      rw [e18, e8, cF]
    · rw [if_pos cF]
      omega

theorem kX12_roomOf {E l Sh V z} {b : Int} {N : gN0} {s0 : Int} (hm : gMd b N Sh V) (hI : INV N) (hk : inI s0) : gM E l yX12_roomOf (.code yX12_roomOf cX12_roomOf 3 (some .int)) (rmk 8 0 0 200) [(2, b), (0, s0)] Sh V z (gRi (if (fitC (bI (0 ≤ s0 ∧ s0 ≤ N 5 - 1)) (bI ((0 ≤ s0 ∧ s0 ≤ N 5 - 1) ∧ (sF N s0 0 = 0 ∨ sF N s0 0 = 1))) 1) = 0 then (gvT N ((sF N s0 1)) ((kF N (sF N s0 1) 0)) (N 5).toNat).1 s0 else 0) Sh (if (fitC (bI (0 ≤ s0 ∧ s0 ≤ N 5 - 1)) (bI ((0 ≤ s0 ∧ s0 ≤ N 5 - 1) ∧ (sF N s0 0 = 0 ∨ sF N s0 0 = 1))) 1) = 0 then roV (up V b 3 0) b (gvT N ((sF N s0 1)) ((kF N (sF N s0 1) 0)) (N 5).toNat).1 (N 5) else up V b 3 (fitC (bI (0 ≤ s0 ∧ s0 ≤ N 5 - 1)) (bI ((0 ≤ s0 ∧ s0 ≤ N 5 - 1) ∧ (sF N s0 0 = 0 ∨ sF N s0 0 = 1))) 1))) := by
  refine gM_at (L0 := [(2, b), (0, s0), (9, 0)]) rfl rfl rfl ?_
  intro p e s m args below meth c hC hr hex hnm hz
  have hsc := hI.1.1
  unfold iScal at hsc
  refine gB hC _ _ _ _ _ _ _ qX12_roomOf_0 rfl ?_
  refine g_cV1 hC dX12_roomOf_3 mX12_143 vX12_isStay (kX12_isStay hm (by omega) (by omega)) rfl hm.1.1 (by decide) rfl (Nat.le_of_ble_eq_true rfl) (RR rfl rfl rfl rfl) (fun z => ?_)
  refine gB hC _ _ _ _ _ _ _ qX12_roomOf_6 rfl ?_
  refine g_cV1 hC dX12_roomOf_8 mX12_143 vX12_isStay (kX12_isStay hm (by omega) (by omega)) rfl hm.1.1 (by decide) rfl (Nat.le_of_ble_eq_true rfl) (RR rfl rfl rfl rfl) (fun z => ?_)
  refine g_if_eq hC 26 dX12_roomOf_11 rfl (by first | omega | exact bI_in _) (fun c11 => ?_) (fun c11 => ?_)
  · have c11 := bI_0.mp c11
    refine gB hC _ _ _ _ _ _ _ qX12_roomOf_26 rfl ?_
    refine gB hC _ _ _ _ _ _ _ qX12_roomOf_27 rfl ?_
    refine g_cV1m hC dX12_roomOf_28 mX12_111 vX12_fits (kX12_fitsC (C := (fitC (bI (0 ≤ s0 ∧ s0 ≤ N 5 - 1)) (bI ((0 ≤ s0 ∧ s0 ≤ N 5 - 1) ∧ (sF N s0 0 = 0 ∨ sF N s0 0 = 1))) 1)) hm (by first | omega | exact bI_in _) (by first | omega | exact bI_in _) (by first | omega | exact bI_in _) (fit_eq (by first | rfl | exact (bI_t (by omega)).symm | exact (bI_f (by omega)).symm) (by first | rfl | exact (bI_t (by omega)).symm | exact (bI_f (by omega)).symm) (by first | rfl | exact (bI_t (by omega)).symm | exact (bI_f (by omega)).symm))) rfl hm.1.1 (by decide) rfl (Nat.le_of_ble_eq_true rfl) (RR rfl rfl rfl rfl) (fun z V28 e28 => ?_)
    have hm28 := gMd_o hm e28 (Or.inr ⟨rfl, by decide⟩)
    have h228 : V28 b 2 = V b 2 := by rw [e28, up_ne _ _ (Or.inr (by decide))]
    refine g_if_ne hC 36 dX12_roomOf_31 rfl (by first | omega | exact bI_in _) (fun c31 => ?_) (fun c31 => ?_)
    · exact absurd (bI_n0.mp c31) (fit_n2 (by first | rfl | exact bI_f (by omega)))
    · have cF := bI_0.mp c31
      refine gB hC _ _ _ _ _ _ _ qX12_roomOf_34 rfl ?_
      refine g_ireturn hC dX12_roomOf_35 hr ⟨?_, rfl, ?_, ?_⟩ gs_rfl ⟨Nat.le_of_ble_eq_true rfl, Nat.le_of_ble_eq_true rfl⟩
      · rw [if_neg cF]
      · rw [if_neg cF]; exact e28
      · rw [if_neg cF]; decide
  · have c11 := bI_n0.mp c11
    refine gB hC _ _ _ _ _ _ _ qX12_roomOf_14 rfl ?_
    refine g_cV1 hC dX12_roomOf_16 mX12_49 vX12_isAlive (kX12_isAlive hm (by omega) (by omega)) rfl hm.1.1 (by decide) rfl (Nat.le_of_ble_eq_true rfl) (RR rfl rfl rfl rfl) (fun z => ?_)
    refine g_if_eq hC 26 dX12_roomOf_19 rfl (by first | omega | exact bI_in _) (fun c19 => ?_) (fun c19 => ?_)
    · have c19 := bI_0.mp c19
      refine gB hC _ _ _ _ _ _ _ qX12_roomOf_26 rfl ?_
      refine gB hC _ _ _ _ _ _ _ qX12_roomOf_27 rfl ?_
      refine g_cV1m hC dX12_roomOf_28 mX12_111 vX12_fits (kX12_fitsC (C := (fitC (bI (0 ≤ s0 ∧ s0 ≤ N 5 - 1)) (bI ((0 ≤ s0 ∧ s0 ≤ N 5 - 1) ∧ (sF N s0 0 = 0 ∨ sF N s0 0 = 1))) 1)) hm (by first | omega | exact bI_in _) (by first | omega | exact bI_in _) (by first | omega | exact bI_in _) (fit_eq (by first | rfl | exact (bI_t (by omega)).symm | exact (bI_f (by omega)).symm) (by first | rfl | exact (bI_t (by omega)).symm | exact (bI_f (by omega)).symm) (by first | rfl | exact (bI_t (by omega)).symm | exact (bI_f (by omega)).symm))) rfl hm.1.1 (by decide) rfl (Nat.le_of_ble_eq_true rfl) (RR rfl rfl rfl rfl) (fun z V28 e28 => ?_)
      have hm28 := gMd_o hm e28 (Or.inr ⟨rfl, by decide⟩)
      have h228 : V28 b 2 = V b 2 := by rw [e28, up_ne _ _ (Or.inr (by decide))]
      refine g_if_ne hC 36 dX12_roomOf_31 rfl (by first | omega | exact bI_in _) (fun c31 => ?_) (fun c31 => ?_)
      · exact absurd (bI_n0.mp c31) (fit_n2 (by first | rfl | exact bI_f (by omega)))
      · have cF := bI_0.mp c31
        refine gB hC _ _ _ _ _ _ _ qX12_roomOf_34 rfl ?_
        refine g_ireturn hC dX12_roomOf_35 hr ⟨?_, rfl, ?_, ?_⟩ gs_rfl ⟨Nat.le_of_ble_eq_true rfl, Nat.le_of_ble_eq_true rfl⟩
        · rw [if_neg cF]
        · rw [if_neg cF]; exact e28
        · rw [if_neg cF]; decide
    · have c19 := bI_n0.mp c19
      refine gB hC _ _ _ _ _ _ _ qX12_roomOf_22 rfl ?_
      refine gB hC _ _ _ _ _ _ _ qX12_roomOf_27 rfl ?_
      refine g_cV1m hC dX12_roomOf_28 mX12_111 vX12_fits (kX12_fitsC (C := (fitC (bI (0 ≤ s0 ∧ s0 ≤ N 5 - 1)) (bI ((0 ≤ s0 ∧ s0 ≤ N 5 - 1) ∧ (sF N s0 0 = 0 ∨ sF N s0 0 = 1))) 1)) hm (by first | omega | exact bI_in _) (by first | omega | exact bI_in _) (by first | omega | exact bI_in _) (fit_eq (by first | rfl | exact (bI_t (by omega)).symm | exact (bI_f (by omega)).symm) (by first | rfl | exact (bI_t (by omega)).symm | exact (bI_f (by omega)).symm) (by first | rfl | exact (bI_t (by omega)).symm | exact (bI_f (by omega)).symm))) rfl hm.1.1 (by decide) rfl (Nat.le_of_ble_eq_true rfl) (RR rfl rfl rfl rfl) (fun z V28 e28 => ?_)
      have hm28 := gMd_o hm e28 (Or.inr ⟨rfl, by decide⟩)
      have h228 : V28 b 2 = V b 2 := by rw [e28, up_ne _ _ (Or.inr (by decide))]
      refine g_if_ne hC 36 dX12_roomOf_31 rfl (by first | omega | exact bI_in _) (fun c31 => ?_) (fun c31 => ?_)
      · have cF := bI_n0.mp c31
        have hp1 := fit_p1 cF
        have hp2 := fit_p2 cF
        have hsk := hI.1.2.2.2.1 s0 hp1.1 (by omega)
        have hs1 := hsk.1
        have hpr := sPr_in hsk
        have hkk := hI.1.2.1 (sF N s0 1) (by omega) (by omega)
        unfold kOk at hkk
        refine gB hC _ _ _ _ _ _ _ qX12_roomOf_36 rfl ?_
        refine g_cV1i hC dX12_roomOf_40 mX12_43 vX12_of (kX12_of hm28 (by omega) (by omega)) rfl hm28.1.1 (by decide) rfl (Nat.le_of_ble_eq_true rfl) (RR rfl rfl rfl rfl) (fun z i40 => ?_)
        refine gB hC _ _ _ _ _ _ _ qX12_roomOf_43 rfl ?_
        refine g_cV1i hC dX12_roomOf_47 mX12_43 vX12_of (kX12_of hm28 (by omega) (by omega)) rfl hm28.1.1 (by decide) rfl (Nat.le_of_ble_eq_true rfl) (RR rfl rfl rfl rfl) (fun z i47 => ?_)
        refine gB hC _ _ _ _ _ _ _ qX12_roomOf_50 rfl ?_
        refine g_cV1i hC dX12_roomOf_51 mX12_63 vX12_ofKind (kX12_ofKind hm28 (by omega) (by omega)) rfl hm28.1.1 (by decide) rfl (Nat.le_of_ble_eq_true rfl) (RR rfl rfl rfl rfl) (fun z i51 => ?_)
        refine g_cV1im hC dX12_roomOf_54 mX12_187 vX12_gives (kX12_gives hm28 hI.1 (by omega) (by omega) (by omega)) rfl hm28.1.1 (by decide) rfl (Nat.le_of_ble_eq_true rfl) (RR rfl rfl rfl rfl) (fun z V54 e54 i54 => ?_)
        have hm54 : gMd b N Sh V54 := by rw [e54]; exact gMd_ro hm28 _ _
        have hr54 : V54 (b + 3) s0 = (gvT N ((sF N s0 1)) ((kF N (sF N s0 1) 0)) (N 5).toNat).1 s0 := by rw [e54]; exact roV_at (by omega) (by omega)
        refine gB hC _ _ _ _ _ _ _ qX12_roomOf_57 rfl ?_
        refine g_getr hC dX12_roomOf_59 fX12_16 hm54.1.1 (by decide) rfl 4 rfl hm54.2.1.2.2.1 ?_
        refine gB hC _ _ _ _ _ _ _ qX12_roomOf_62 rfl ?_
        refine g_iald hC dX12_roomOf_63 hm54.1.2.2.2.1 hr54 (by omega) (by omega) (by decide) (fun i63 => ?_)
        refine g_ireturn hC dX12_roomOf_64 hr ⟨?_, rfl, ?_, ?_⟩ gs_rfl ⟨Nat.le_of_ble_eq_true rfl, Nat.le_of_ble_eq_true rfl⟩
        · rw [if_pos cF]
          first | done | rfl
        · rw [if_pos cF]
          rw [e54, e28, cF]
        · rw [if_pos cF]
          assumption
      · have cF := bI_0.mp c31
        refine gB hC _ _ _ _ _ _ _ qX12_roomOf_34 rfl ?_
        refine g_ireturn hC dX12_roomOf_35 hr ⟨?_, rfl, ?_, ?_⟩ gs_rfl ⟨Nat.le_of_ble_eq_true rfl, Nat.le_of_ble_eq_true rfl⟩
        · rw [if_neg cF]
        · rw [if_neg cF]; exact e28
        · rw [if_neg cF]; decide

theorem kX12_needing {E l Sh V z} {b : Int} {N : gN0} {m0 d0 : Int} (hm : gMd b N Sh V) (hI : InvC N) (im : inI m0) (h0 : 0 ≤ d0) (h1 : d0 ≤ 36524) : gM E l yX12_needing (.code yX12_needing cX12_needing 10 (some .int)) (rmk 4 0 0 122) [(2, b), (0, m0), (0, d0)] Sh V z (gRi (ndK N m0 (d0 - 1) (N 1).toNat) Sh (rhV V b N (N 1).toNat)) := by
  refine gM_at (L0 := [(2, b), (0, m0), (0, d0), (9, 0), (9, 0), (9, 0), (9, 0), (9, 0), (9, 0), (9, 0)]) rfl rfl rfl ?_
  intro p e s m args below meth c hC hr hex hnm hz
  have hsc := hI.1
  unfold iScal at hsc
  refine gB hC _ _ _ _ _ _ _ qX12_needing_0 rfl ?_
  refine g_loop (fun x : Nat × aV × aV × aV × aV × aV => (x.1 : Int) ≤ N 1) (fun x => (N 1 - (x.1 : Int)).toNat) 5 (fun x => [(2, b), (0, m0), (0, d0), (0, ndK N m0 (d0 - 1) x.1), (0, (x.1 : Int)), x.2.1, x.2.2.1, x.2.2.2.1, x.2.2.2.2.1, x.2.2.2.2.2]) (fun x => rhV V b N x.1) (0, (9, 0), (9, 0), (9, 0), (9, 0), (9, 0)) (by show (0 : Int) ≤ N 1; omega) ?_
  rintro ⟨k, a5, a6, a7, a8, a9⟩ z hk1 ih
  dsimp only at hk1 ih ⊢
  have hmk := gMd_rh hm k
  have hnk := ndK_in hI m0 (d0 - 1) k hk1
  refine gB hC _ _ _ _ _ _ _ qX12_needing_5 rfl ?_
  refine g_getr hC dX12_needing_8 fX12_9 hmk.1.1 (by decide) rfl 0 rfl hmk.2.1.1 ?_
  refine gB hC _ _ _ _ _ _ _ qX12_needing_11 rfl ?_
  refine g_iald hC dX12_needing_12 hmk.1.2.1 (gMd_at hmk _) (by omega) (by omega) (by decide) (fun i12 => ?_)
  refine g_icmp_ge hC 165 dX12_needing_13 rfl (by first | omega | exact bI_in _) (by first | omega | exact bI_in _) (fun c13 => ?_) (fun c13 => ?_)
  · obtain rfl : k = (N 1).toNat := by omega
    refine gB hC _ _ _ _ _ _ _ qX12_needing_165 rfl ?_
    refine g_ireturn hC dX12_needing_166 hr ⟨rfl, rfl, rfl, by omega⟩ gs_rfl ⟨Nat.le_of_ble_eq_true rfl, Nat.le_of_ble_eq_true rfl⟩
  · have hkk := hI.2.1 k (by omega) (by omega)
    unfold kOk at hkk
    have hgi := gvT_in N k (rooms := kF N k 0) (by omega) (N 5).toNat
    refine gB hC _ _ _ _ _ _ _ qX12_needing_16 rfl ?_
    refine g_cV1i hC dX12_needing_23 mX12_63 vX12_ofKind (kX12_ofKind hmk (by omega) (by omega)) rfl hmk.1.1 (by decide) rfl (Nat.le_of_ble_eq_true rfl) (RR rfl rfl rfl rfl) (fun z i23 => ?_)
    refine g_cV1im hC dX12_needing_26 mX12_187 vX12_gives (kX12_gives hmk hI (by omega) (by omega) (by omega)) rfl hmk.1.1 (by decide) rfl (Nat.le_of_ble_eq_true rfl) (RR rfl rfl rfl rfl) (fun z V26 e26 i26 => ?_)
    have hm26 : gMd b N Sh V26 := by rw [e26]; exact gMd_ro hmk _ _
    have hr26 : ∀ t, 0 ≤ t → t < N 5 → V26 (b + 3) t = (gvT N k (kF N k 0) (N 5).toNat).1 t := by intro t a b9; rw [e26]; exact roV_at a b9
    refine gB hC _ _ _ _ _ _ _ qX12_needing_29 rfl ?_
    refine g_loop (fun x : Nat × Int × aV × aV × aV => (x.1 : Int) ≤ (gvT N k (kF N k 0) (N 5).toNat).2.2.2 ∧ x.2.1 = ndK N m0 (d0 - 1) k + ndR N (gvT N k (kF N k 0) (N 5).toNat).1 m0 (d0 - 1) x.1) (fun x => ((gvT N k (kF N k 0) (N 5).toNat).2.2.2 - (x.1 : Int)).toNat) 34 (fun x => [(2, b), (0, m0), (0, d0), (0, x.2.1), (0, (k : Int)), (0, (gvT N k (kF N k 0) (N 5).toNat).2.2.2), (0, (x.1 : Int)), x.2.2.1, x.2.2.2.1, x.2.2.2.2]) (fun _ => V26) (0, ndK N m0 (d0 - 1) k, _, _, _) ⟨by show (0 : Int) ≤ _; omega, (Int.add_zero _).symm⟩ ?_
    rintro ⟨r, mm, a7, a8, a9⟩ z ⟨hr1, hmm⟩ ih2
    dsimp only at hr1 hmm ih2 ⊢
    have hnr := ndR_in N (gvT N k (kF N k 0) (N 5).toNat).1 m0 (d0 - 1) r
    refine gB hC _ _ _ _ _ _ _ qX12_needing_34 rfl ?_
    refine g_icmp_ge hC 159 dX12_needing_38 rfl (by first | omega | exact bI_in _) (by first | omega | exact bI_in _) (fun c38 => ?_) (fun c38 => ?_)
    · refine gB hC _ _ _ _ _ _ _ qX12_needing_159 rfl ?_
      obtain rfl : r = (gvT N k (kF N k 0) (N 5).toNat).2.2.2.toNat := by omega
      have hmk9 : mm = ndK N m0 (d0 - 1) (k + 1) := by rw [ndK]; exact hmm
      rw [e26, rhV_next, hmk9]
      exact ih (k + 1, _, _, _, _, _) z (by show ((k + 1 : Nat) : Int) ≤ N 1; omega) (by show (N 1 - ((k + 1 : Nat) : Int)).toNat < (N 1 - (k : Int)).toNat; omega)
    · refine gB hC _ _ _ _ _ _ _ qX12_needing_41 rfl ?_
      refine g_loop (fun x : Nat => (x : Int) ≤ N 5) (fun x => (N 5 - (x : Int)).toNat) 50 (fun x => [(2, b), (0, m0), (0, d0), (0, mm), (0, (k : Int)), (0, (gvT N k (kF N k 0) (N 5).toNat).2.2.2), (0, (r : Int)), (0, (ndI N (gvT N k (kF N k 0) (N 5).toNat).1 r (d0 - 1) x).1), (0, (ndI N (gvT N k (kF N k 0) (N 5).toNat).1 r (d0 - 1) x).2), (0, (x : Int))]) (fun _ => V26) 0 (by show (0 : Int) ≤ N 5; omega) ?_
      rintro n z hn ih3
      have hni := ndI_in N (gvT N k (kF N k 0) (N 5).toNat).1 r (d0 - 1) n
      refine gB hC _ _ _ _ _ _ _ qX12_needing_50 rfl ?_
      refine g_getr hC dX12_needing_53 fX12_9 hm26.1.1 (by decide) rfl 0 rfl hm26.2.1.1 ?_
      refine gB hC _ _ _ _ _ _ _ qX12_needing_56 rfl ?_
      refine g_iald hC dX12_needing_57 hm26.1.2.1 (gMd_at hm26 _) (by omega) (by omega) (by decide) (fun i57 => ?_)
      refine g_icmp_ge hC 121 dX12_needing_58 rfl (by first | omega | exact bI_in _) (by first | omega | exact bI_in _) (fun c58 => ?_) (fun c58 => ?_)
      · obtain rfl : n = (N 5).toNat := by omega
        refine gB hC _ _ _ _ _ _ _ qX12_needing_121 rfl ?_
        refine g_icmp_ne hC 136 dX12_needing_125 rfl (by first | omega | exact bI_in _) (by first | omega | exact bI_in _) (fun c125 => ?_) (fun c125 => ?_)
        · refine gB hC _ _ _ _ _ _ _ qX12_needing_136 rfl ?_
          refine g_if_eq hC 150 dX12_needing_138 rfl (by first | omega | exact bI_in _) (fun c138 => ?_) (fun c138 => ?_)
          · refine gB hC _ _ _ _ _ _ _ qX12_needing_150 rfl ?_
            refine gB hC _ _ _ _ _ _ _ qX12_needing_151 rfl ?_
            first
            | exact ih2 (r + 1, mm + 1, _, _, _) z ⟨by show ((r + 1 : Nat) : Int) ≤ _; omega, by show mm + 1 = _ + ndR N (gvT N k (kF N k 0) (N 5).toNat).1 m0 (d0 - 1) (r + 1); rw [ndR, if_pos (by omega)]; omega⟩ (by show (_ - ((r + 1 : Nat) : Int)).toNat < (_ - (r : Int)).toNat; omega)
            | exact ih2 (r + 1, mm + 0, _, _, _) z ⟨by show ((r + 1 : Nat) : Int) ≤ _; omega, by show mm + 0 = _ + ndR N (gvT N k (kF N k 0) (N 5).toNat).1 m0 (d0 - 1) (r + 1); rw [ndR, if_neg (by omega)]; omega⟩ (by show (_ - ((r + 1 : Nat) : Int)).toNat < (_ - (r : Int)).toNat; omega)
          · refine gB hC _ _ _ _ _ _ _ qX12_needing_141 rfl ?_
            refine g_if_ne hC 150 dX12_needing_143 rfl (by first | omega | exact bI_in _) (fun c143 => ?_) (fun c143 => ?_)
            · refine gB hC _ _ _ _ _ _ _ qX12_needing_150 rfl ?_
              refine gB hC _ _ _ _ _ _ _ qX12_needing_151 rfl ?_
              first
              | exact ih2 (r + 1, mm + 1, _, _, _) z ⟨by show ((r + 1 : Nat) : Int) ≤ _; omega, by show mm + 1 = _ + ndR N (gvT N k (kF N k 0) (N 5).toNat).1 m0 (d0 - 1) (r + 1); rw [ndR, if_pos (by omega)]; omega⟩ (by show (_ - ((r + 1 : Nat) : Int)).toNat < (_ - (r : Int)).toNat; omega)
              | exact ih2 (r + 1, mm + 0, _, _, _) z ⟨by show ((r + 1 : Nat) : Int) ≤ _; omega, by show mm + 0 = _ + ndR N (gvT N k (kF N k 0) (N 5).toNat).1 m0 (d0 - 1) (r + 1); rw [ndR, if_neg (by omega)]; omega⟩ (by show (_ - ((r + 1 : Nat) : Int)).toNat < (_ - (r : Int)).toNat; omega)
            · refine gB hC _ _ _ _ _ _ _ qX12_needing_146 rfl ?_
              refine gB hC _ _ _ _ _ _ _ qX12_needing_151 rfl ?_
              first
              | exact ih2 (r + 1, mm + 1, _, _, _) z ⟨by show ((r + 1 : Nat) : Int) ≤ _; omega, by show mm + 1 = _ + ndR N (gvT N k (kF N k 0) (N 5).toNat).1 m0 (d0 - 1) (r + 1); rw [ndR, if_pos (by omega)]; omega⟩ (by show (_ - ((r + 1 : Nat) : Int)).toNat < (_ - (r : Int)).toNat; omega)
              | exact ih2 (r + 1, mm + 0, _, _, _) z ⟨by show ((r + 1 : Nat) : Int) ≤ _; omega, by show mm + 0 = _ + ndR N (gvT N k (kF N k 0) (N 5).toNat).1 m0 (d0 - 1) (r + 1); rw [ndR, if_neg (by omega)]; omega⟩ (by show (_ - ((r + 1 : Nat) : Int)).toNat < (_ - (r : Int)).toNat; omega)
        · refine gB hC _ _ _ _ _ _ _ qX12_needing_128 rfl ?_
          refine g_if_eq hC 150 dX12_needing_130 rfl (by first | omega | exact bI_in _) (fun c130 => ?_) (fun c130 => ?_)
          · refine gB hC _ _ _ _ _ _ _ qX12_needing_150 rfl ?_
            refine gB hC _ _ _ _ _ _ _ qX12_needing_151 rfl ?_
            first
            | exact ih2 (r + 1, mm + 1, _, _, _) z ⟨by show ((r + 1 : Nat) : Int) ≤ _; omega, by show mm + 1 = _ + ndR N (gvT N k (kF N k 0) (N 5).toNat).1 m0 (d0 - 1) (r + 1); rw [ndR, if_pos (by omega)]; omega⟩ (by show (_ - ((r + 1 : Nat) : Int)).toNat < (_ - (r : Int)).toNat; omega)
            | exact ih2 (r + 1, mm + 0, _, _, _) z ⟨by show ((r + 1 : Nat) : Int) ≤ _; omega, by show mm + 0 = _ + ndR N (gvT N k (kF N k 0) (N 5).toNat).1 m0 (d0 - 1) (r + 1); rw [ndR, if_neg (by omega)]; omega⟩ (by show (_ - ((r + 1 : Nat) : Int)).toNat < (_ - (r : Int)).toNat; omega)
          · refine gB hC _ _ _ _ _ _ _ qX12_needing_133 rfl ?_
            refine gB hC _ _ _ _ _ _ _ qX12_needing_146 rfl ?_
            refine gB hC _ _ _ _ _ _ _ qX12_needing_151 rfl ?_
            first
            | exact ih2 (r + 1, mm + 1, _, _, _) z ⟨by show ((r + 1 : Nat) : Int) ≤ _; omega, by show mm + 1 = _ + ndR N (gvT N k (kF N k 0) (N 5).toNat).1 m0 (d0 - 1) (r + 1); rw [ndR, if_pos (by omega)]; omega⟩ (by show (_ - ((r + 1 : Nat) : Int)).toNat < (_ - (r : Int)).toNat; omega)
            | exact ih2 (r + 1, mm + 0, _, _, _) z ⟨by show ((r + 1 : Nat) : Int) ≤ _; omega, by show mm + 0 = _ + ndR N (gvT N k (kF N k 0) (N 5).toNat).1 m0 (d0 - 1) (r + 1); rw [ndR, if_neg (by omega)]; omega⟩ (by show (_ - ((r + 1 : Nat) : Int)).toNat < (_ - (r : Int)).toNat; omega)
      · have hs := (hI.2.2.2.1 n (by omega) (by omega)).1
        have hgr := hgi.2.2.2 n
        refine gB hC _ _ _ _ _ _ _ qX12_needing_61 rfl ?_
        refine g_getr hC dX12_needing_62 fX12_16 hm26.1.1 (by decide) rfl 4 rfl hm26.2.1.2.2.1 ?_
        refine gB hC _ _ _ _ _ _ _ qX12_needing_65 rfl ?_
        refine g_iald hC dX12_needing_67 hm26.1.2.2.2.1 (hr26 _ (by omega) (by omega)) (by omega) (by omega) (by decide) (fun i67 => ?_)
        refine gB hC _ _ _ _ _ _ _ qX12_needing_68 rfl ?_
        refine g_icmp_ne hC 115 dX12_needing_70 rfl (by first | omega | exact bI_in _) (by first | omega | exact bI_in _) (fun c70 => ?_) (fun c70 => ?_)
        · refine gB hC _ _ _ _ _ _ _ qX12_needing_115 rfl ?_
          have h9 := ih3 (n + 1) z (by show ((n + 1 : Nat) : Int) ≤ N 5; omega) (by show (N 5 - ((n + 1 : Nat) : Int)).toNat < (N 5 - (n : Int)).toNat; omega)
          first
          | (rw [show ndI N (gvT N k (kF N k 0) (N 5).toNat).1 r (d0 - 1) (n + 1) = (1, 1) by rw [ndI, if_pos (by omega), if_pos (by omega)]] at h9; exact h9)
          | (rw [show ndI N (gvT N k (kF N k 0) (N 5).toNat).1 r (d0 - 1) (n + 1) = (0, 1) by rw [ndI, if_pos (by omega), if_neg (by omega)]] at h9; exact h9)
          | (rw [show ndI N (gvT N k (kF N k 0) (N 5).toNat).1 r (d0 - 1) (n + 1) = ndI N (gvT N k (kF N k 0) (N 5).toNat).1 r (d0 - 1) n by rw [ndI, if_neg (by omega)]] at h9; exact h9)
        · refine gB hC _ _ _ _ _ _ _ qX12_needing_73 rfl ?_
          refine g_cV1 hC dX12_needing_79 mX12_53 vX12_has (kX12_has hm26 (by omega) (by omega) (by omega) (by omega)) rfl hm26.1.1 (by decide) rfl (Nat.le_of_ble_eq_true rfl) (RR rfl rfl rfl rfl) (fun z => ?_)
          refine g_if_ne hC 88 dX12_needing_82 rfl (by first | omega | exact bI_in _) (fun c82 => ?_) (fun c82 => ?_)
          · have c82 := bI_n0.mp c82
            refine gB hC _ _ _ _ _ _ _ qX12_needing_88 rfl ?_
            refine g_if_ne hC 108 dX12_needing_93 rfl (by first | omega | exact bI_in _) (fun c93 => ?_) (fun c93 => ?_)
            · refine gB hC _ _ _ _ _ _ _ qX12_needing_108 rfl ?_
              refine gB hC _ _ _ _ _ _ _ qX12_needing_113 rfl ?_
              refine gB hC _ _ _ _ _ _ _ qX12_needing_115 rfl ?_
              have h9 := ih3 (n + 1) z (by show ((n + 1 : Nat) : Int) ≤ N 5; omega) (by show (N 5 - ((n + 1 : Nat) : Int)).toNat < (N 5 - (n : Int)).toNat; omega)
              first
              | (rw [show ndI N (gvT N k (kF N k 0) (N 5).toNat).1 r (d0 - 1) (n + 1) = (1, 1) by rw [ndI, if_pos (by omega), if_pos (by omega)]] at h9; exact h9)
              | (rw [show ndI N (gvT N k (kF N k 0) (N 5).toNat).1 r (d0 - 1) (n + 1) = (0, 1) by rw [ndI, if_pos (by omega), if_neg (by omega)]] at h9; exact h9)
              | (rw [show ndI N (gvT N k (kF N k 0) (N 5).toNat).1 r (d0 - 1) (n + 1) = ndI N (gvT N k (kF N k 0) (N 5).toNat).1 r (d0 - 1) n by rw [ndI, if_neg (by omega)]] at h9; exact h9)
            · refine gB hC _ _ _ _ _ _ _ qX12_needing_96 rfl ?_
              refine g_cV1i hC dX12_needing_99 mX12_46 vX12_last (kX12_last hm26 (by omega) (by omega) (by omega)) rfl hm26.1.1 (by decide) rfl (Nat.le_of_ble_eq_true rfl) (RR rfl rfl rfl rfl) (fun z i99 => ?_)
              refine gB hC _ _ _ _ _ _ _ qX12_needing_102 rfl ?_
              refine g_icmp_ne hC 112 dX12_needing_105 rfl (by first | omega | exact bI_in _) (by first | omega | exact bI_in _) (fun c105 => ?_) (fun c105 => ?_)
              · refine gB hC _ _ _ _ _ _ _ qX12_needing_112 rfl ?_
                refine gB hC _ _ _ _ _ _ _ qX12_needing_113 rfl ?_
                refine gB hC _ _ _ _ _ _ _ qX12_needing_115 rfl ?_
                have h9 := ih3 (n + 1) z (by show ((n + 1 : Nat) : Int) ≤ N 5; omega) (by show (N 5 - ((n + 1 : Nat) : Int)).toNat < (N 5 - (n : Int)).toNat; omega)
                first
                | (rw [show ndI N (gvT N k (kF N k 0) (N 5).toNat).1 r (d0 - 1) (n + 1) = (1, 1) by rw [ndI, if_pos (by omega), if_pos (by omega)]] at h9; exact h9)
                | (rw [show ndI N (gvT N k (kF N k 0) (N 5).toNat).1 r (d0 - 1) (n + 1) = (0, 1) by rw [ndI, if_pos (by omega), if_neg (by omega)]] at h9; exact h9)
                | (rw [show ndI N (gvT N k (kF N k 0) (N 5).toNat).1 r (d0 - 1) (n + 1) = ndI N (gvT N k (kF N k 0) (N 5).toNat).1 r (d0 - 1) n by rw [ndI, if_neg (by omega)]] at h9; exact h9)
              · refine gB hC _ _ _ _ _ _ _ qX12_needing_108 rfl ?_
                refine gB hC _ _ _ _ _ _ _ qX12_needing_113 rfl ?_
                refine gB hC _ _ _ _ _ _ _ qX12_needing_115 rfl ?_
                have h9 := ih3 (n + 1) z (by show ((n + 1 : Nat) : Int) ≤ N 5; omega) (by show (N 5 - ((n + 1 : Nat) : Int)).toNat < (N 5 - (n : Int)).toNat; omega)
                first
                | (rw [show ndI N (gvT N k (kF N k 0) (N 5).toNat).1 r (d0 - 1) (n + 1) = (1, 1) by rw [ndI, if_pos (by omega), if_pos (by omega)]] at h9; exact h9)
                | (rw [show ndI N (gvT N k (kF N k 0) (N 5).toNat).1 r (d0 - 1) (n + 1) = (0, 1) by rw [ndI, if_pos (by omega), if_neg (by omega)]] at h9; exact h9)
                | (rw [show ndI N (gvT N k (kF N k 0) (N 5).toNat).1 r (d0 - 1) (n + 1) = ndI N (gvT N k (kF N k 0) (N 5).toNat).1 r (d0 - 1) n by rw [ndI, if_neg (by omega)]] at h9; exact h9)
          · have c82 := bI_0.mp c82
            refine gB hC _ _ _ _ _ _ _ qX12_needing_85 rfl ?_
            refine gB hC _ _ _ _ _ _ _ qX12_needing_115 rfl ?_
            have h9 := ih3 (n + 1) z (by show ((n + 1 : Nat) : Int) ≤ N 5; omega) (by show (N 5 - ((n + 1 : Nat) : Int)).toNat < (N 5 - (n : Int)).toNat; omega)
            first
            | (rw [show ndI N (gvT N k (kF N k 0) (N 5).toNat).1 r (d0 - 1) (n + 1) = (1, 1) by rw [ndI, if_pos (by omega), if_pos (by omega)]] at h9; exact h9)
            | (rw [show ndI N (gvT N k (kF N k 0) (N 5).toNat).1 r (d0 - 1) (n + 1) = (0, 1) by rw [ndI, if_pos (by omega), if_neg (by omega)]] at h9; exact h9)
            | (rw [show ndI N (gvT N k (kF N k 0) (N 5).toNat).1 r (d0 - 1) (n + 1) = ndI N (gvT N k (kF N k 0) (N 5).toNat).1 r (d0 - 1) n by rw [ndI, if_neg (by omega)]] at h9; exact h9)

theorem rhV_rh (V : gV) (b : Int) (N : gN0) : ∀ k : Nat, rhV (rhV V b N k) b N k = rhV V b N k := by
  intro k
  cases k with
  | zero => rfl
  | succ k => exact roV_ro _ _ _ _ _
def miZ (N : gN0) (d : Int) : Int := 45 * ndK N 45 (d - 1) (N 1).toNat + 20 * ndK N 20 (d - 1) (N 1).toNat
def roZ (N : gN0) (d : Int) : Int := roF (ndK N 45 (d - 1) (N 1).toNat) (ndK N 20 (d - 1) (N 1).toNat) (ndK N 45 (d - 1) (N 1).toNat / 2 + 1).toNat

theorem kX12_minutes {E l Sh V z} {b : Int} {N : gN0} {date : Int} (hm : gMd b N Sh V) (hI : INV N) (h1 : inI date) : gM E l yX12_minutes (.code yX12_minutes cX12_minutes 2 (some .int)) (rmk 8 0 0 200) [(2, b), (0, date)] Sh V z (gRi (if (fitC (bI (dayZ date ≠ -1)) 1 1) = 0 then miZ N (dayZ date) else 0) Sh (if (fitC (bI (dayZ date ≠ -1)) 1 1) = 0 then rhV (up V b 3 0) b N (N 1).toNat else up V b 3 (fitC (bI (dayZ date ≠ -1)) 1 1))) := by
  refine gM_at (L0 := [(2, b), (0, date)]) rfl rfl rfl ?_
  intro p e s m args below meth c hC hr hex hnm hz
  have hsc := hI.1.1
  unfold iScal at hsc
  have hdf := dayZ_in date
  have hna := ndK_in hI.1 45 (dayZ date - 1) (N 1).toNat (by omega)
  have hnb := ndK_in hI.1 20 (dayZ date - 1) (N 1).toNat (by omega)
  refine gB hC _ _ _ _ _ _ _ qX12_minutes_0 rfl ?_
  refine g_cS1 hC dX12_minutes_2 mX12_121 sX12_isDate (kX12_isDate (by omega)) rfl rfl (Nat.le_of_ble_eq_true rfl) (RR rfl rfl rfl rfl) (fun z => ?_)
  refine gB hC _ _ _ _ _ _ _ qX12_minutes_5 rfl ?_
  refine g_cV1m hC dX12_minutes_7 mX12_111 vX12_fits (kX12_fitsC (C := (fitC (bI (dayZ date ≠ -1)) 1 1)) hm (by first | omega | exact bI_in _) (by first | omega | exact bI_in _) (by first | omega | exact bI_in _) (fit_eq (by first | rfl | exact (bI_t (by omega)).symm | exact (bI_f (by omega)).symm) (by first | rfl | exact (bI_t (by omega)).symm | exact (bI_f (by omega)).symm) (by first | rfl | exact (bI_t (by omega)).symm | exact (bI_f (by omega)).symm))) rfl hm.1.1 (by decide) rfl (Nat.le_of_ble_eq_true rfl) (RR rfl rfl rfl rfl) (fun z V7 e7 => ?_)
  have hm7 := gMd_o hm e7 (Or.inr ⟨rfl, by decide⟩)
  have h27 : V7 b 2 = V b 2 := by rw [e7, up_ne _ _ (Or.inr (by decide))]
  refine g_if_eq hC 43 dX12_minutes_10 rfl (by first | omega | exact bI_in _) (fun c10 => ?_) (fun c10 => ?_)
  · have cF := bI_0.mp c10
    refine gB hC _ _ _ _ _ _ _ qX12_minutes_43 rfl ?_
    refine g_ireturn hC dX12_minutes_44 hr ⟨?_, rfl, ?_, ?_⟩ gs_rfl ⟨Nat.le_of_ble_eq_true rfl, Nat.le_of_ble_eq_true rfl⟩
    · rw [if_neg cF]
    · rw [if_neg cF]; exact e7
    · rw [if_neg cF]; decide
  · have cF := bI_n0.mp c10
    have hp1 := fit_p1 cF
    refine gB hC _ _ _ _ _ _ _ qX12_minutes_13 rfl ?_
    refine g_cS1i hC dX12_minutes_19 mX12_27 sX12_dayOf (kX12_dayOf (by omega)) rfl rfl (Nat.le_of_ble_eq_true rfl) (RR rfl rfl rfl rfl) (fun z i19 => ?_)
    refine g_cV1im hC dX12_minutes_22 mX12_199 vX12_needing (kX12_needing hm7 hI.1 (by omega) (by omega) (by omega)) rfl hm7.1.1 (by decide) rfl (Nat.le_of_ble_eq_true rfl) (RR rfl rfl rfl rfl) (fun z V22 e22 i22 => ?_)
    have hm22 : gMd b N Sh V22 := by rw [e22]; exact gMd_rh hm7 _
    refine gB hC _ _ _ _ _ _ _ qX12_minutes_25 rfl ?_
    refine g_cS1i hC dX12_minutes_32 mX12_27 sX12_dayOf (kX12_dayOf (by omega)) rfl rfl (Nat.le_of_ble_eq_true rfl) (RR rfl rfl rfl rfl) (fun z i32 => ?_)
    refine g_cV1im hC dX12_minutes_35 mX12_199 vX12_needing (kX12_needing hm22 hI.1 (by omega) (by omega) (by omega)) rfl hm22.1.1 (by decide) rfl (Nat.le_of_ble_eq_true rfl) (RR rfl rfl rfl rfl) (fun z V35 e35 i35 => ?_)
    have hm35 : gMd b N Sh V35 := by rw [e35]; exact gMd_rh hm22 _
    refine gB hC _ _ _ _ _ _ _ qX12_minutes_38 rfl ?_
    refine g_ireturn hC dX12_minutes_44 hr ⟨?_, rfl, ?_, ?_⟩ gs_rfl ⟨Nat.le_of_ble_eq_true rfl, Nat.le_of_ble_eq_true rfl⟩
    · rw [if_pos cF]
      first | done | rfl
    · rw [if_pos cF]
      rw [e35, e22, rhV_rh, e7, cF]
    · rw [if_pos cF]
      unfold miZ; omega

theorem kX12_rounds {E l Sh V z} {b : Int} {N : gN0} {date : Int} (hm : gMd b N Sh V) (hI : INV N) (h1 : inI date) : gM E l yX12_rounds (.code yX12_rounds cX12_rounds 8 (some .int)) (rmk 8 0 0 200) [(2, b), (0, date)] Sh V z (gRi (if (fitC (bI (dayZ date ≠ -1)) 1 1) = 0 then roZ N (dayZ date) else 0) Sh (if (fitC (bI (dayZ date ≠ -1)) 1 1) = 0 then rhV (up V b 3 0) b N (N 1).toNat else up V b 3 (fitC (bI (dayZ date ≠ -1)) 1 1))) := by
  refine gM_at (L0 := [(2, b), (0, date), (9, 0), (9, 0), (9, 0), (9, 0), (9, 0), (9, 0)]) rfl rfl rfl ?_
  intro p e s m args below meth c hC hr hex hnm hz
  have hsc := hI.1.1
  unfold iScal at hsc
  have hdf := dayZ_in date
  have hna := ndK_in hI.1 45 (dayZ date - 1) (N 1).toNat (by omega)
  have hnb := ndK_in hI.1 20 (dayZ date - 1) (N 1).toNat (by omega)
  refine gB hC _ _ _ _ _ _ _ qX12_rounds_0 rfl ?_
  refine g_cS1 hC dX12_rounds_2 mX12_121 sX12_isDate (kX12_isDate (by omega)) rfl rfl (Nat.le_of_ble_eq_true rfl) (RR rfl rfl rfl rfl) (fun z => ?_)
  refine gB hC _ _ _ _ _ _ _ qX12_rounds_5 rfl ?_
  refine g_cV1m hC dX12_rounds_7 mX12_111 vX12_fits (kX12_fitsC (C := (fitC (bI (dayZ date ≠ -1)) 1 1)) hm (by first | omega | exact bI_in _) (by first | omega | exact bI_in _) (by first | omega | exact bI_in _) (fit_eq (by first | rfl | exact (bI_t (by omega)).symm | exact (bI_f (by omega)).symm) (by first | rfl | exact (bI_t (by omega)).symm | exact (bI_f (by omega)).symm) (by first | rfl | exact (bI_t (by omega)).symm | exact (bI_f (by omega)).symm))) rfl hm.1.1 (by decide) rfl (Nat.le_of_ble_eq_true rfl) (RR rfl rfl rfl rfl) (fun z V7 e7 => ?_)
  have hm7 := gMd_o hm e7 (Or.inr ⟨rfl, by decide⟩)
  have h27 : V7 b 2 = V b 2 := by rw [e7, up_ne _ _ (Or.inr (by decide))]
  refine g_if_ne hC 15 dX12_rounds_10 rfl (by first | omega | exact bI_in _) (fun c10 => ?_) (fun c10 => ?_)
  · have cF := bI_n0.mp c10
    have hp1 := fit_p1 cF
    refine gB hC _ _ _ _ _ _ _ qX12_rounds_15 rfl ?_
    refine g_cS1i hC dX12_rounds_19 mX12_27 sX12_dayOf (kX12_dayOf (by omega)) rfl rfl (Nat.le_of_ble_eq_true rfl) (RR rfl rfl rfl rfl) (fun z i19 => ?_)
    refine g_cV1im hC dX12_rounds_22 mX12_199 vX12_needing (kX12_needing hm7 hI.1 (by omega) (by omega) (by omega)) rfl hm7.1.1 (by decide) rfl (Nat.le_of_ble_eq_true rfl) (RR rfl rfl rfl rfl) (fun z V22 e22 i22 => ?_)
    have hm22 : gMd b N Sh V22 := by rw [e22]; exact gMd_rh hm7 _
    refine gB hC _ _ _ _ _ _ _ qX12_rounds_25 rfl ?_
    refine g_cS1i hC dX12_rounds_30 mX12_27 sX12_dayOf (kX12_dayOf (by omega)) rfl rfl (Nat.le_of_ble_eq_true rfl) (RR rfl rfl rfl rfl) (fun z i30 => ?_)
    refine g_cV1im hC dX12_rounds_33 mX12_199 vX12_needing (kX12_needing hm22 hI.1 (by omega) (by omega) (by omega)) rfl hm22.1.1 (by decide) rfl (Nat.le_of_ble_eq_true rfl) (RR rfl rfl rfl rfl) (fun z V33 e33 i33 => ?_)
    have hm33 : gMd b N Sh V33 := by rw [e33]; exact gMd_rh hm22 _
    refine gB hC _ _ _ _ _ _ _ qX12_rounds_36 rfl ?_
    refine g_loop (fun x : Nat × aV × aV => 2 * (x.1 : Int) ≤ ndK N 45 (dayZ date - 1) (N 1).toNat + 2) (fun x => (ndK N 45 (dayZ date - 1) (N 1).toNat + 2 - 2 * (x.1 : Int)).toNat) 45 (fun x => [(2, b), (0, date), (0, ndK N 45 (dayZ date - 1) (N 1).toNat), (0, ndK N 20 (dayZ date - 1) (N 1).toNat), (0, roF (ndK N 45 (dayZ date - 1) (N 1).toNat) (ndK N 20 (dayZ date - 1) (N 1).toNat) x.1), (0, (x.1 : Int)), x.2.1, x.2.2]) (fun _ => V33) (0, (9, 0), (9, 0)) (by show 2 * ((0 : Nat) : Int) ≤ _; omega) ?_
    rintro ⟨n, a6, a7⟩ z hn ih
    dsimp only at hn ih ⊢
    have hrf := roF_in hna.1 hnb.1 n hn
    refine gB hC _ _ _ _ _ _ _ qX12_rounds_45 rfl ?_
    refine g_icmp_gt hC 102 dX12_rounds_50 rfl (by first | omega | exact bI_in _) (by first | omega | exact bI_in _) (fun c50 => ?_) (fun c50 => ?_)
    · have hnn : n = (ndK N 45 (dayZ date - 1) (N 1).toNat / 2 + 1).toNat := by omega
      refine gB hC _ _ _ _ _ _ _ qX12_rounds_102 rfl ?_
      refine g_ireturn hC dX12_rounds_104 hr ⟨?_, rfl, ?_, ?_⟩ gs_rfl ⟨Nat.le_of_ble_eq_true rfl, Nat.le_of_ble_eq_true rfl⟩
      · rw [if_pos cF]
        unfold roZ; rw [← hnn]
      · rw [if_pos cF]
        rw [e33, e22, rhV_rh, e7, cF]
      · rw [if_pos cF]
        unfold roZ; rw [← hnn]; omega
    · refine gB hC _ _ _ _ _ _ _ qX12_rounds_53 rfl ?_
      refine g_max hC dX12_rounds_71 mX12_72 (by first | omega | exact bI_in _) (by first | omega | exact bI_in _) ⟨Nat.le_of_ble_eq_true rfl, Nat.le_of_ble_eq_true rfl, Nat.le_of_ble_eq_true rfl, Nat.le_of_ble_eq_true rfl⟩ ?_
      refine gB hC _ _ _ _ _ _ _ qX12_rounds_74 rfl ?_
      refine g_idiv hC dX12_rounds_89 (by first | omega | exact bI_in _) (by first | omega | exact bI_in _) (by omega) (by omega) ?_
      refine gB hC _ _ _ _ _ _ _ qX12_rounds_90 rfl ?_
      refine g_min hC dX12_rounds_91 mX12_202 (by first | omega | exact bI_in _) (by first | omega | exact bI_in _) ⟨Nat.le_of_ble_eq_true rfl, Nat.le_of_ble_eq_true rfl, Nat.le_of_ble_eq_true rfl, Nat.le_of_ble_eq_true rfl⟩ ?_
      refine gB hC _ _ _ _ _ _ _ qX12_rounds_94 rfl ?_
      exact ih (n + 1, _, _) z (by show 2 * ((n + 1 : Nat) : Int) ≤ _; omega) (by show (_ - 2 * ((n + 1 : Nat) : Int)).toNat < (_ - 2 * (n : Int)).toNat; omega)
  · have cF := bI_0.mp c10
    refine gB hC _ _ _ _ _ _ _ qX12_rounds_13 rfl ?_
    refine g_ireturn hC dX12_rounds_14 hr ⟨?_, rfl, ?_, ?_⟩ gs_rfl ⟨Nat.le_of_ble_eq_true rfl, Nat.le_of_ble_eq_true rfl⟩
    · rw [if_neg cF]
    · rw [if_neg cF]; exact e7
    · rw [if_neg cF]; decide

theorem kX12_errors {E l Sh V z} {b : Int} {N : gN0} (hm : gMd b N Sh V) (hI : INV N) : gM E l yX12_errors (.code yX12_errors cX12_errors 7 (some .int)) (rmk 4 0 0 122) [(2, b)] Sh V z (gRi (erK N (N 1).toNat) Sh (rhV (up V b 3 0) b N (N 1).toNat)) := by
  refine gM_at (L0 := [(2, b), (9, 0), (9, 0), (9, 0), (9, 0), (9, 0), (9, 0)]) rfl rfl rfl ?_
  intro p e s m args below meth c hC hr hex hnm hz
  have hsc := hI.1.1
  unfold iScal at hsc
  have hbk := hI.2.1
  unfold bOk at hbk
  refine gB hC _ _ _ _ _ _ _ qX12_errors_0 rfl ?_
  refine g_puti hC dX12_errors_2 fX12_31 hm.1.1 (by decide) rfl (fun _ h => by cases h; rfl) 3 rfl (by first | omega | exact bI_in _) (fun V2 e2 => ?_)
  have hm2 := gMd_o hm e2 (Or.inr ⟨rfl, by decide⟩)
  refine gB hC _ _ _ _ _ _ _ qX12_errors_5 rfl ?_
  refine g_getr hC dX12_errors_6 fX12_9 hm2.1.1 (by decide) rfl 0 rfl hm2.2.1.1 ?_
  refine gB hC _ _ _ _ _ _ _ qX12_errors_9 rfl ?_
  refine g_iald hC dX12_errors_11 hm2.1.2.1 (gMd_at hm2 _) (by omega) (by omega) (by decide) (fun i11 => ?_)
  refine gB hC _ _ _ _ _ _ _ qX12_errors_12 rfl ?_
  refine g_getr hC dX12_errors_13 fX12_9 hm2.1.1 (by decide) rfl 0 rfl hm2.2.1.1 ?_
  refine gB hC _ _ _ _ _ _ _ qX12_errors_16 rfl ?_
  refine g_iald hC dX12_errors_18 hm2.1.2.1 (gMd_at hm2 _) (by omega) (by omega) (by decide) (fun i18 => ?_)
  refine gB hC _ _ _ _ _ _ _ qX12_errors_19 rfl ?_
  refine g_getr hC dX12_errors_21 fX12_9 hm2.1.1 (by decide) rfl 0 rfl hm2.2.1.1 ?_
  refine gB hC _ _ _ _ _ _ _ qX12_errors_24 rfl ?_
  refine g_iald hC dX12_errors_26 hm2.1.2.1 (gMd_at hm2 _) (by omega) (by omega) (by decide) (fun i26 => ?_)
  refine gB hC _ _ _ _ _ _ _ qX12_errors_27 rfl ?_
  refine g_getr hC dX12_errors_29 fX12_9 hm2.1.1 (by decide) rfl 0 rfl hm2.2.1.1 ?_
  refine gB hC _ _ _ _ _ _ _ qX12_errors_32 rfl ?_
  refine g_iald hC dX12_errors_34 hm2.1.2.1 (gMd_at hm2 _) (by omega) (by omega) (by decide) (fun i34 => ?_)
  refine gB hC _ _ _ _ _ _ _ qX12_errors_35 rfl ?_
  refine g_if_ne hC 43 dX12_errors_36 rfl (by first | omega | exact bI_in _) (fun c36 => ?_) (fun c36 => ?_)
  · exfalso; omega --stop
  · refine gB hC _ _ _ _ _ _ _ qX12_errors_39 rfl ?_
    refine gB hC _ _ _ _ _ _ _ qX12_errors_44 rfl ?_
    refine g_loop (fun x : Nat × aV × aV × aV × aV => (x.1 : Int) ≤ N 1) (fun x => (N 1 - (x.1 : Int)).toNat) 47 (fun x => [(2, b), (0, erK N x.1), (0, (x.1 : Int)), x.2.1, x.2.2.1, x.2.2.2.1, x.2.2.2.2]) (fun x => rhV V2 b N x.1) (0, (9, 0), (9, 0), (9, 0), (9, 0)) (by show (0 : Int) ≤ N 1; omega) ?_
    rintro ⟨k, a3, a4, a5, a6⟩ z hk1 ih
    dsimp only at hk1 ih ⊢
    have hmk := gMd_rh hm2 k
    have hek := erK_in N k
    refine gB hC _ _ _ _ _ _ _ qX12_errors_47 rfl ?_
    refine g_getr hC dX12_errors_49 fX12_9 hmk.1.1 (by decide) rfl 0 rfl hmk.2.1.1 ?_
    refine gB hC _ _ _ _ _ _ _ qX12_errors_52 rfl ?_
    refine g_iald hC dX12_errors_53 hmk.1.2.1 (gMd_at hmk _) (by omega) (by omega) (by decide) (fun i53 => ?_)
    refine g_icmp_ge hC 192 dX12_errors_54 rfl (by first | omega | exact bI_in _) (by first | omega | exact bI_in _) (fun c54 => ?_) (fun c54 => ?_)
    · obtain rfl : k = (N 1).toNat := by omega
      refine gB hC _ _ _ _ _ _ _ qX12_errors_192 rfl ?_
      refine g_ireturn hC dX12_errors_193 hr ⟨rfl, rfl, ?_, by omega⟩ gs_rfl ⟨Nat.le_of_ble_eq_true rfl, Nat.le_of_ble_eq_true rfl⟩
      rw [e2]
    · have hkk := hI.1.2.1 k (by omega) (by omega)
      unfold kOk at hkk
      have hgi := gvT_in N k (rooms := kF N k 0) (by omega) (N 5).toNat
      refine gB hC _ _ _ _ _ _ _ qX12_errors_57 rfl ?_
      refine g_cV1i hC dX12_errors_67 mX12_63 vX12_ofKind (kX12_ofKind hmk (by omega) (by omega)) rfl hmk.1.1 (by decide) rfl (Nat.le_of_ble_eq_true rfl) (RR rfl rfl rfl rfl) (fun z i67 => ?_)
      refine g_cV1im hC dX12_errors_70 mX12_187 vX12_gives (kX12_gives hmk hI.1 (by omega) (by omega) (by omega)) rfl hmk.1.1 (by decide) rfl (Nat.le_of_ble_eq_true rfl) (RR rfl rfl rfl rfl) (fun z V70 e70 i70 => ?_)
      have hm70 : gMd b N Sh V70 := by rw [e70]; exact gMd_ro hmk _ _
      have hr70 : ∀ t, 0 ≤ t → t < N 5 → V70 (b + 3) t = (gvT N k (kF N k 0) (N 5).toNat).1 t := by intro t a b9; rw [e70]; exact roV_at a b9
      refine gB hC _ _ _ _ _ _ _ qX12_errors_73 rfl ?_
      refine g_loop (fun x : Nat => (x : Int) ≤ N 5) (fun x => (N 5 - (x : Int)).toNat) 78 (fun x => [(2, b), (0, erK N k), (0, (k : Int)), (0, (erI N (gvT N k (kF N k 0) (N 5).toNat).1 k x).1), (0, (erI N (gvT N k (kF N k 0) (N 5).toNat).1 k x).2), _, (0, (x : Int))]) (fun _ => V70) 0 (by show (0 : Int) ≤ N 5; omega) ?_
      rintro n z hn ih2
      have hei := erI_in N (gvT N k (kF N k 0) (N 5).toNat).1 k n
      refine gB hC _ _ _ _ _ _ _ qX12_errors_78 rfl ?_
      refine g_getr hC dX12_errors_81 fX12_9 hm70.1.1 (by decide) rfl 0 rfl hm70.2.1.1 ?_
      refine gB hC _ _ _ _ _ _ _ qX12_errors_84 rfl ?_
      refine g_iald hC dX12_errors_85 hm70.1.2.1 (gMd_at hm70 _) (by omega) (by omega) (by decide) (fun i85 => ?_)
      refine g_icmp_ge hC 172 dX12_errors_86 rfl (by first | omega | exact bI_in _) (by first | omega | exact bI_in _) (fun c86 => ?_) (fun c86 => ?_)
      · obtain rfl : n = (N 5).toNat := by omega
        refine gB hC _ _ _ _ _ _ _ qX12_errors_172 rfl ?_
        refine g_icmp_ne hC 183 dX12_errors_176 rfl (by first | omega | exact bI_in _) (by first | omega | exact bI_in _) (fun c176 => ?_) (fun c176 => ?_)
        · refine gB hC _ _ _ _ _ _ _ qX12_errors_183 rfl ?_
          refine gB hC _ _ _ _ _ _ _ qX12_errors_184 rfl ?_
          rw [e70, rhV_next]
          first
          | (rw [show erK N k + 0 = erK N (k + 1) by rw [erK, if_pos (by omega)]]; exact ih (k + 1, _, _, _, _) z (by show ((k + 1 : Nat) : Int) ≤ N 1; omega) (by show (N 1 - ((k + 1 : Nat) : Int)).toNat < (N 1 - (k : Int)).toNat; omega))
          | (rw [show erK N k + 1 = erK N (k + 1) by rw [erK, if_neg (by omega)]]; exact ih (k + 1, _, _, _, _) z (by show ((k + 1 : Nat) : Int) ≤ N 1; omega) (by show (N 1 - ((k + 1 : Nat) : Int)).toNat < (N 1 - (k : Int)).toNat; omega))
        · refine gB hC _ _ _ _ _ _ _ qX12_errors_179 rfl ?_
          refine gB hC _ _ _ _ _ _ _ qX12_errors_184 rfl ?_
          rw [e70, rhV_next]
          first
          | (rw [show erK N k + 0 = erK N (k + 1) by rw [erK, if_pos (by omega)]]; exact ih (k + 1, _, _, _, _) z (by show ((k + 1 : Nat) : Int) ≤ N 1; omega) (by show (N 1 - ((k + 1 : Nat) : Int)).toNat < (N 1 - (k : Int)).toNat; omega))
          | (rw [show erK N k + 1 = erK N (k + 1) by rw [erK, if_neg (by omega)]]; exact ih (k + 1, _, _, _, _) z (by show ((k + 1 : Nat) : Int) ≤ N 1; omega) (by show (N 1 - ((k + 1 : Nat) : Int)).toNat < (N 1 - (k : Int)).toNat; omega))
      · have hs := (hI.1.2.2.2.1 n (by omega) (by omega)).1
        have hgr := hgi.2.2.2 n
        have hcn := cnt_in hI.1 k (sF N n 2)
        refine gB hC _ _ _ _ _ _ _ qX12_errors_89 rfl ?_
        refine g_cV1 hC dX12_errors_92 mX12_49 vX12_isAlive (kX12_isAlive hm70 (by omega) (by omega)) rfl hm70.1.1 (by decide) rfl (Nat.le_of_ble_eq_true rfl) (RR rfl rfl rfl rfl) (fun z => ?_)
        refine g_if_eq hC 166 dX12_errors_95 rfl (by first | omega | exact bI_in _) (fun c95 => ?_) (fun c95 => ?_)
        · have c95 := bI_0.mp c95
          refine gB hC _ _ _ _ _ _ _ qX12_errors_166 rfl ?_
          have h9 := ih2 (n + 1) z (by show ((n + 1 : Nat) : Int) ≤ N 5; omega) (by show (N 5 - ((n + 1 : Nat) : Int)).toNat < (N 5 - (n : Int)).toNat; omega)
          first
          | (rw [show erI N (gvT N k (kF N k 0) (N 5).toNat).1 k (n + 1) = (1, 1) by rw [erI, if_pos (by omega), if_pos (by omega), if_pos (by omega)]] at h9; exact h9)
          | (rw [show erI N (gvT N k (kF N k 0) (N 5).toNat).1 k (n + 1) = (0, 1) by rw [erI, if_pos (by omega), if_neg (by omega), if_pos (by omega)]] at h9; exact h9)
          | (rw [show erI N (gvT N k (kF N k 0) (N 5).toNat).1 k (n + 1) = (1, 0) by rw [erI, if_pos (by omega), if_pos (by omega), if_neg (by omega)]] at h9; exact h9)
          | (rw [show erI N (gvT N k (kF N k 0) (N 5).toNat).1 k (n + 1) = (0, 0) by rw [erI, if_pos (by omega), if_neg (by omega), if_neg (by omega)]] at h9; exact h9)
          | (rw [show erI N (gvT N k (kF N k 0) (N 5).toNat).1 k (n + 1) = erI N (gvT N k (kF N k 0) (N 5).toNat).1 k n by rw [erI, if_neg (by omega)]] at h9; exact h9)
        · have c95 := bI_n0.mp c95
          refine gB hC _ _ _ _ _ _ _ qX12_errors_98 rfl ?_
          refine g_cV1i hC dX12_errors_102 mX12_43 vX12_of (kX12_of hm70 (by omega) (by omega)) rfl hm70.1.1 (by decide) rfl (Nat.le_of_ble_eq_true rfl) (RR rfl rfl rfl rfl) (fun z i102 => ?_)
          refine gB hC _ _ _ _ _ _ _ qX12_errors_105 rfl ?_
          refine g_icmp_eq hC 112 dX12_errors_106 rfl (by first | omega | exact bI_in _) (by first | omega | exact bI_in _) (fun c106 => ?_) (fun c106 => ?_)
          · refine gB hC _ _ _ _ _ _ _ qX12_errors_112 rfl ?_
            refine g_if_ne hC 128 dX12_errors_114 rfl (by first | omega | exact bI_in _) (fun c114 => ?_) (fun c114 => ?_)
            · refine gB hC _ _ _ _ _ _ _ qX12_errors_128 rfl ?_
              refine gB hC _ _ _ _ _ _ _ qX12_errors_133 rfl ?_
              refine g_if_ne hC 160 dX12_errors_136 rfl (by first | omega | exact bI_in _) (fun c136 => ?_) (fun c136 => ?_)
              · refine gB hC _ _ _ _ _ _ _ qX12_errors_160 rfl ?_
                refine gB hC _ _ _ _ _ _ _ qX12_errors_165 rfl ?_
                refine gB hC _ _ _ _ _ _ _ qX12_errors_166 rfl ?_
                have h9 := ih2 (n + 1) z (by show ((n + 1 : Nat) : Int) ≤ N 5; omega) (by show (N 5 - ((n + 1 : Nat) : Int)).toNat < (N 5 - (n : Int)).toNat; omega)
                first
                | (rw [show erI N (gvT N k (kF N k 0) (N 5).toNat).1 k (n + 1) = (1, 1) by rw [erI, if_pos (by omega), if_pos (by omega), if_pos (by omega)]] at h9; exact h9)
                | (rw [show erI N (gvT N k (kF N k 0) (N 5).toNat).1 k (n + 1) = (0, 1) by rw [erI, if_pos (by omega), if_neg (by omega), if_pos (by omega)]] at h9; exact h9)
                | (rw [show erI N (gvT N k (kF N k 0) (N 5).toNat).1 k (n + 1) = (1, 0) by rw [erI, if_pos (by omega), if_pos (by omega), if_neg (by omega)]] at h9; exact h9)
                | (rw [show erI N (gvT N k (kF N k 0) (N 5).toNat).1 k (n + 1) = (0, 0) by rw [erI, if_pos (by omega), if_neg (by omega), if_neg (by omega)]] at h9; exact h9)
                | (rw [show erI N (gvT N k (kF N k 0) (N 5).toNat).1 k (n + 1) = erI N (gvT N k (kF N k 0) (N 5).toNat).1 k n by rw [erI, if_neg (by omega)]] at h9; exact h9)
              · refine gB hC _ _ _ _ _ _ _ qX12_errors_139 rfl ?_
                refine g_cV1i hC dX12_errors_145 mX12_43 vX12_of (kX12_of hm70 (by omega) (by omega)) rfl hm70.1.1 (by decide) rfl (Nat.le_of_ble_eq_true rfl) (RR rfl rfl rfl rfl) (fun z i145 => ?_)
                refine g_cV1i hC dX12_errors_148 mX12_60 vX12_counts (kX12_counts hm70 hI.1 (by omega) (by omega)) rfl hm70.1.1 (by decide) rfl (Nat.le_of_ble_eq_true rfl) (RR rfl rfl rfl rfl) (fun z i148 => ?_)
                refine gB hC _ _ _ _ _ _ _ qX12_errors_151 rfl ?_
                refine g_cV1i hC dX12_errors_154 mX12_63 vX12_ofKind (kX12_ofKind hm70 (by omega) (by omega)) rfl hm70.1.1 (by decide) rfl (Nat.le_of_ble_eq_true rfl) (RR rfl rfl rfl rfl) (fun z i154 => ?_)
                refine g_icmp_le hC 164 dX12_errors_157 rfl (by first | omega | exact bI_in _) (by first | omega | exact bI_in _) (fun c157 => ?_) (fun c157 => ?_)
                · refine gB hC _ _ _ _ _ _ _ qX12_errors_164 rfl ?_
                  refine gB hC _ _ _ _ _ _ _ qX12_errors_165 rfl ?_
                  refine gB hC _ _ _ _ _ _ _ qX12_errors_166 rfl ?_
                  have h9 := ih2 (n + 1) z (by show ((n + 1 : Nat) : Int) ≤ N 5; omega) (by show (N 5 - ((n + 1 : Nat) : Int)).toNat < (N 5 - (n : Int)).toNat; omega)
                  first
                  | (rw [show erI N (gvT N k (kF N k 0) (N 5).toNat).1 k (n + 1) = (1, 1) by rw [erI, if_pos (by omega), if_pos (by omega), if_pos (by omega)]] at h9; exact h9)
                  | (rw [show erI N (gvT N k (kF N k 0) (N 5).toNat).1 k (n + 1) = (0, 1) by rw [erI, if_pos (by omega), if_neg (by omega), if_pos (by omega)]] at h9; exact h9)
                  | (rw [show erI N (gvT N k (kF N k 0) (N 5).toNat).1 k (n + 1) = (1, 0) by rw [erI, if_pos (by omega), if_pos (by omega), if_neg (by omega)]] at h9; exact h9)
                  | (rw [show erI N (gvT N k (kF N k 0) (N 5).toNat).1 k (n + 1) = (0, 0) by rw [erI, if_pos (by omega), if_neg (by omega), if_neg (by omega)]] at h9; exact h9)
                  | (rw [show erI N (gvT N k (kF N k 0) (N 5).toNat).1 k (n + 1) = erI N (gvT N k (kF N k 0) (N 5).toNat).1 k n by rw [erI, if_neg (by omega)]] at h9; exact h9)
                · refine gB hC _ _ _ _ _ _ _ qX12_errors_160 rfl ?_
                  refine gB hC _ _ _ _ _ _ _ qX12_errors_165 rfl ?_
                  refine gB hC _ _ _ _ _ _ _ qX12_errors_166 rfl ?_
                  have h9 := ih2 (n + 1) z (by show ((n + 1 : Nat) : Int) ≤ N 5; omega) (by show (N 5 - ((n + 1 : Nat) : Int)).toNat < (N 5 - (n : Int)).toNat; omega)
                  first
                  | (rw [show erI N (gvT N k (kF N k 0) (N 5).toNat).1 k (n + 1) = (1, 1) by rw [erI, if_pos (by omega), if_pos (by omega), if_pos (by omega)]] at h9; exact h9)
                  | (rw [show erI N (gvT N k (kF N k 0) (N 5).toNat).1 k (n + 1) = (0, 1) by rw [erI, if_pos (by omega), if_neg (by omega), if_pos (by omega)]] at h9; exact h9)
                  | (rw [show erI N (gvT N k (kF N k 0) (N 5).toNat).1 k (n + 1) = (1, 0) by rw [erI, if_pos (by omega), if_pos (by omega), if_neg (by omega)]] at h9; exact h9)
                  | (rw [show erI N (gvT N k (kF N k 0) (N 5).toNat).1 k (n + 1) = (0, 0) by rw [erI, if_pos (by omega), if_neg (by omega), if_neg (by omega)]] at h9; exact h9)
                  | (rw [show erI N (gvT N k (kF N k 0) (N 5).toNat).1 k (n + 1) = erI N (gvT N k (kF N k 0) (N 5).toNat).1 k n by rw [erI, if_neg (by omega)]] at h9; exact h9)
            · refine gB hC _ _ _ _ _ _ _ qX12_errors_117 rfl ?_
              refine g_getr hC dX12_errors_118 fX12_16 hm70.1.1 (by decide) rfl 4 rfl hm70.2.1.2.2.1 ?_
              refine gB hC _ _ _ _ _ _ _ qX12_errors_121 rfl ?_
              refine g_iald hC dX12_errors_123 hm70.1.2.2.2.1 (hr70 _ (by omega) (by omega)) (by omega) (by omega) (by decide) (fun i123 => ?_)
              refine gB hC _ _ _ _ _ _ _ qX12_errors_124 rfl ?_
              refine g_icmp_ne hC 132 dX12_errors_125 rfl (by first | omega | exact bI_in _) (by first | omega | exact bI_in _) (fun c125 => ?_) (fun c125 => ?_)
              · refine gB hC _ _ _ _ _ _ _ qX12_errors_132 rfl ?_
                refine gB hC _ _ _ _ _ _ _ qX12_errors_133 rfl ?_
                refine g_if_ne hC 160 dX12_errors_136 rfl (by first | omega | exact bI_in _) (fun c136 => ?_) (fun c136 => ?_)
                · refine gB hC _ _ _ _ _ _ _ qX12_errors_160 rfl ?_
                  refine gB hC _ _ _ _ _ _ _ qX12_errors_165 rfl ?_
                  refine gB hC _ _ _ _ _ _ _ qX12_errors_166 rfl ?_
                  have h9 := ih2 (n + 1) z (by show ((n + 1 : Nat) : Int) ≤ N 5; omega) (by show (N 5 - ((n + 1 : Nat) : Int)).toNat < (N 5 - (n : Int)).toNat; omega)
                  first
                  | (rw [show erI N (gvT N k (kF N k 0) (N 5).toNat).1 k (n + 1) = (1, 1) by rw [erI, if_pos (by omega), if_pos (by omega), if_pos (by omega)]] at h9; exact h9)
                  | (rw [show erI N (gvT N k (kF N k 0) (N 5).toNat).1 k (n + 1) = (0, 1) by rw [erI, if_pos (by omega), if_neg (by omega), if_pos (by omega)]] at h9; exact h9)
                  | (rw [show erI N (gvT N k (kF N k 0) (N 5).toNat).1 k (n + 1) = (1, 0) by rw [erI, if_pos (by omega), if_pos (by omega), if_neg (by omega)]] at h9; exact h9)
                  | (rw [show erI N (gvT N k (kF N k 0) (N 5).toNat).1 k (n + 1) = (0, 0) by rw [erI, if_pos (by omega), if_neg (by omega), if_neg (by omega)]] at h9; exact h9)
                  | (rw [show erI N (gvT N k (kF N k 0) (N 5).toNat).1 k (n + 1) = erI N (gvT N k (kF N k 0) (N 5).toNat).1 k n by rw [erI, if_neg (by omega)]] at h9; exact h9)
                · refine gB hC _ _ _ _ _ _ _ qX12_errors_139 rfl ?_
                  refine g_cV1i hC dX12_errors_145 mX12_43 vX12_of (kX12_of hm70 (by omega) (by omega)) rfl hm70.1.1 (by decide) rfl (Nat.le_of_ble_eq_true rfl) (RR rfl rfl rfl rfl) (fun z i145 => ?_)
                  refine g_cV1i hC dX12_errors_148 mX12_60 vX12_counts (kX12_counts hm70 hI.1 (by omega) (by omega)) rfl hm70.1.1 (by decide) rfl (Nat.le_of_ble_eq_true rfl) (RR rfl rfl rfl rfl) (fun z i148 => ?_)
                  refine gB hC _ _ _ _ _ _ _ qX12_errors_151 rfl ?_
                  refine g_cV1i hC dX12_errors_154 mX12_63 vX12_ofKind (kX12_ofKind hm70 (by omega) (by omega)) rfl hm70.1.1 (by decide) rfl (Nat.le_of_ble_eq_true rfl) (RR rfl rfl rfl rfl) (fun z i154 => ?_)
                  refine g_icmp_le hC 164 dX12_errors_157 rfl (by first | omega | exact bI_in _) (by first | omega | exact bI_in _) (fun c157 => ?_) (fun c157 => ?_)
                  · refine gB hC _ _ _ _ _ _ _ qX12_errors_164 rfl ?_
                    refine gB hC _ _ _ _ _ _ _ qX12_errors_165 rfl ?_
                    refine gB hC _ _ _ _ _ _ _ qX12_errors_166 rfl ?_
                    have h9 := ih2 (n + 1) z (by show ((n + 1 : Nat) : Int) ≤ N 5; omega) (by show (N 5 - ((n + 1 : Nat) : Int)).toNat < (N 5 - (n : Int)).toNat; omega)
                    first
                    | (rw [show erI N (gvT N k (kF N k 0) (N 5).toNat).1 k (n + 1) = (1, 1) by rw [erI, if_pos (by omega), if_pos (by omega), if_pos (by omega)]] at h9; exact h9)
                    | (rw [show erI N (gvT N k (kF N k 0) (N 5).toNat).1 k (n + 1) = (0, 1) by rw [erI, if_pos (by omega), if_neg (by omega), if_pos (by omega)]] at h9; exact h9)
                    | (rw [show erI N (gvT N k (kF N k 0) (N 5).toNat).1 k (n + 1) = (1, 0) by rw [erI, if_pos (by omega), if_pos (by omega), if_neg (by omega)]] at h9; exact h9)
                    | (rw [show erI N (gvT N k (kF N k 0) (N 5).toNat).1 k (n + 1) = (0, 0) by rw [erI, if_pos (by omega), if_neg (by omega), if_neg (by omega)]] at h9; exact h9)
                    | (rw [show erI N (gvT N k (kF N k 0) (N 5).toNat).1 k (n + 1) = erI N (gvT N k (kF N k 0) (N 5).toNat).1 k n by rw [erI, if_neg (by omega)]] at h9; exact h9)
                  · refine gB hC _ _ _ _ _ _ _ qX12_errors_160 rfl ?_
                    refine gB hC _ _ _ _ _ _ _ qX12_errors_165 rfl ?_
                    refine gB hC _ _ _ _ _ _ _ qX12_errors_166 rfl ?_
                    have h9 := ih2 (n + 1) z (by show ((n + 1 : Nat) : Int) ≤ N 5; omega) (by show (N 5 - ((n + 1 : Nat) : Int)).toNat < (N 5 - (n : Int)).toNat; omega)
                    first
                    | (rw [show erI N (gvT N k (kF N k 0) (N 5).toNat).1 k (n + 1) = (1, 1) by rw [erI, if_pos (by omega), if_pos (by omega), if_pos (by omega)]] at h9; exact h9)
                    | (rw [show erI N (gvT N k (kF N k 0) (N 5).toNat).1 k (n + 1) = (0, 1) by rw [erI, if_pos (by omega), if_neg (by omega), if_pos (by omega)]] at h9; exact h9)
                    | (rw [show erI N (gvT N k (kF N k 0) (N 5).toNat).1 k (n + 1) = (1, 0) by rw [erI, if_pos (by omega), if_pos (by omega), if_neg (by omega)]] at h9; exact h9)
                    | (rw [show erI N (gvT N k (kF N k 0) (N 5).toNat).1 k (n + 1) = (0, 0) by rw [erI, if_pos (by omega), if_neg (by omega), if_neg (by omega)]] at h9; exact h9)
                    | (rw [show erI N (gvT N k (kF N k 0) (N 5).toNat).1 k (n + 1) = erI N (gvT N k (kF N k 0) (N 5).toNat).1 k n by rw [erI, if_neg (by omega)]] at h9; exact h9)
              · refine gB hC _ _ _ _ _ _ _ qX12_errors_128 rfl ?_
                refine gB hC _ _ _ _ _ _ _ qX12_errors_133 rfl ?_
                refine g_if_ne hC 160 dX12_errors_136 rfl (by first | omega | exact bI_in _) (fun c136 => ?_) (fun c136 => ?_)
                · refine gB hC _ _ _ _ _ _ _ qX12_errors_160 rfl ?_
                  refine gB hC _ _ _ _ _ _ _ qX12_errors_165 rfl ?_
                  refine gB hC _ _ _ _ _ _ _ qX12_errors_166 rfl ?_
                  have h9 := ih2 (n + 1) z (by show ((n + 1 : Nat) : Int) ≤ N 5; omega) (by show (N 5 - ((n + 1 : Nat) : Int)).toNat < (N 5 - (n : Int)).toNat; omega)
                  first
                  | (rw [show erI N (gvT N k (kF N k 0) (N 5).toNat).1 k (n + 1) = (1, 1) by rw [erI, if_pos (by omega), if_pos (by omega), if_pos (by omega)]] at h9; exact h9)
                  | (rw [show erI N (gvT N k (kF N k 0) (N 5).toNat).1 k (n + 1) = (0, 1) by rw [erI, if_pos (by omega), if_neg (by omega), if_pos (by omega)]] at h9; exact h9)
                  | (rw [show erI N (gvT N k (kF N k 0) (N 5).toNat).1 k (n + 1) = (1, 0) by rw [erI, if_pos (by omega), if_pos (by omega), if_neg (by omega)]] at h9; exact h9)
                  | (rw [show erI N (gvT N k (kF N k 0) (N 5).toNat).1 k (n + 1) = (0, 0) by rw [erI, if_pos (by omega), if_neg (by omega), if_neg (by omega)]] at h9; exact h9)
                  | (rw [show erI N (gvT N k (kF N k 0) (N 5).toNat).1 k (n + 1) = erI N (gvT N k (kF N k 0) (N 5).toNat).1 k n by rw [erI, if_neg (by omega)]] at h9; exact h9)
                · refine gB hC _ _ _ _ _ _ _ qX12_errors_139 rfl ?_
                  refine g_cV1i hC dX12_errors_145 mX12_43 vX12_of (kX12_of hm70 (by omega) (by omega)) rfl hm70.1.1 (by decide) rfl (Nat.le_of_ble_eq_true rfl) (RR rfl rfl rfl rfl) (fun z i145 => ?_)
                  refine g_cV1i hC dX12_errors_148 mX12_60 vX12_counts (kX12_counts hm70 hI.1 (by omega) (by omega)) rfl hm70.1.1 (by decide) rfl (Nat.le_of_ble_eq_true rfl) (RR rfl rfl rfl rfl) (fun z i148 => ?_)
                  refine gB hC _ _ _ _ _ _ _ qX12_errors_151 rfl ?_
                  refine g_cV1i hC dX12_errors_154 mX12_63 vX12_ofKind (kX12_ofKind hm70 (by omega) (by omega)) rfl hm70.1.1 (by decide) rfl (Nat.le_of_ble_eq_true rfl) (RR rfl rfl rfl rfl) (fun z i154 => ?_)
                  refine g_icmp_le hC 164 dX12_errors_157 rfl (by first | omega | exact bI_in _) (by first | omega | exact bI_in _) (fun c157 => ?_) (fun c157 => ?_)
                  · refine gB hC _ _ _ _ _ _ _ qX12_errors_164 rfl ?_
                    refine gB hC _ _ _ _ _ _ _ qX12_errors_165 rfl ?_
                    refine gB hC _ _ _ _ _ _ _ qX12_errors_166 rfl ?_
                    have h9 := ih2 (n + 1) z (by show ((n + 1 : Nat) : Int) ≤ N 5; omega) (by show (N 5 - ((n + 1 : Nat) : Int)).toNat < (N 5 - (n : Int)).toNat; omega)
                    first
                    | (rw [show erI N (gvT N k (kF N k 0) (N 5).toNat).1 k (n + 1) = (1, 1) by rw [erI, if_pos (by omega), if_pos (by omega), if_pos (by omega)]] at h9; exact h9)
                    | (rw [show erI N (gvT N k (kF N k 0) (N 5).toNat).1 k (n + 1) = (0, 1) by rw [erI, if_pos (by omega), if_neg (by omega), if_pos (by omega)]] at h9; exact h9)
                    | (rw [show erI N (gvT N k (kF N k 0) (N 5).toNat).1 k (n + 1) = (1, 0) by rw [erI, if_pos (by omega), if_pos (by omega), if_neg (by omega)]] at h9; exact h9)
                    | (rw [show erI N (gvT N k (kF N k 0) (N 5).toNat).1 k (n + 1) = (0, 0) by rw [erI, if_pos (by omega), if_neg (by omega), if_neg (by omega)]] at h9; exact h9)
                    | (rw [show erI N (gvT N k (kF N k 0) (N 5).toNat).1 k (n + 1) = erI N (gvT N k (kF N k 0) (N 5).toNat).1 k n by rw [erI, if_neg (by omega)]] at h9; exact h9)
                  · refine gB hC _ _ _ _ _ _ _ qX12_errors_160 rfl ?_
                    refine gB hC _ _ _ _ _ _ _ qX12_errors_165 rfl ?_
                    refine gB hC _ _ _ _ _ _ _ qX12_errors_166 rfl ?_
                    have h9 := ih2 (n + 1) z (by show ((n + 1 : Nat) : Int) ≤ N 5; omega) (by show (N 5 - ((n + 1 : Nat) : Int)).toNat < (N 5 - (n : Int)).toNat; omega)
                    first
                    | (rw [show erI N (gvT N k (kF N k 0) (N 5).toNat).1 k (n + 1) = (1, 1) by rw [erI, if_pos (by omega), if_pos (by omega), if_pos (by omega)]] at h9; exact h9)
                    | (rw [show erI N (gvT N k (kF N k 0) (N 5).toNat).1 k (n + 1) = (0, 1) by rw [erI, if_pos (by omega), if_neg (by omega), if_pos (by omega)]] at h9; exact h9)
                    | (rw [show erI N (gvT N k (kF N k 0) (N 5).toNat).1 k (n + 1) = (1, 0) by rw [erI, if_pos (by omega), if_pos (by omega), if_neg (by omega)]] at h9; exact h9)
                    | (rw [show erI N (gvT N k (kF N k 0) (N 5).toNat).1 k (n + 1) = (0, 0) by rw [erI, if_pos (by omega), if_neg (by omega), if_neg (by omega)]] at h9; exact h9)
                    | (rw [show erI N (gvT N k (kF N k 0) (N 5).toNat).1 k (n + 1) = erI N (gvT N k (kF N k 0) (N 5).toNat).1 k n by rw [erI, if_neg (by omega)]] at h9; exact h9)
          · refine gB hC _ _ _ _ _ _ _ qX12_errors_109 rfl ?_
            refine gB hC _ _ _ _ _ _ _ qX12_errors_166 rfl ?_
            have h9 := ih2 (n + 1) z (by show ((n + 1 : Nat) : Int) ≤ N 5; omega) (by show (N 5 - ((n + 1 : Nat) : Int)).toNat < (N 5 - (n : Int)).toNat; omega)
            first
            | (rw [show erI N (gvT N k (kF N k 0) (N 5).toNat).1 k (n + 1) = (1, 1) by rw [erI, if_pos (by omega), if_pos (by omega), if_pos (by omega)]] at h9; exact h9)
            | (rw [show erI N (gvT N k (kF N k 0) (N 5).toNat).1 k (n + 1) = (0, 1) by rw [erI, if_pos (by omega), if_neg (by omega), if_pos (by omega)]] at h9; exact h9)
            | (rw [show erI N (gvT N k (kF N k 0) (N 5).toNat).1 k (n + 1) = (1, 0) by rw [erI, if_pos (by omega), if_pos (by omega), if_neg (by omega)]] at h9; exact h9)
            | (rw [show erI N (gvT N k (kF N k 0) (N 5).toNat).1 k (n + 1) = (0, 0) by rw [erI, if_pos (by omega), if_neg (by omega), if_neg (by omega)]] at h9; exact h9)
            | (rw [show erI N (gvT N k (kF N k 0) (N 5).toNat).1 k (n + 1) = erI N (gvT N k (kF N k 0) (N 5).toNat).1 k n by rw [erI, if_neg (by omega)]] at h9; exact h9)
