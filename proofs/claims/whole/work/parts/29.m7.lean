/-! the reference: changes of stays (rows laid by wip/whole/m7.py) -/
theorem i32_in (x : Int32) : inI x.toInt := by
  have h1 := Int32.le_toInt x
  have h2 := Int32.toInt_lt x
  unfold inI
  omega
/-- alike but for the closed nights -/
theorem INV_ag {N M : gN0} (h : ∀ j, 0 ≤ j → j < 1596 → M j = N j) (hI : INV N) : INV M := by
  obtain ⟨⟨i1, i2, i3, i4, i5⟩, hb, ho⟩ := hI
  have hsc := i1
  unfold iScal at hsc
  have lo : ∀ j, 0 ≤ j → j < 56 → M j = N j := fun j a b => h j a (by omega)
  refine ⟨⟨?_, ?_, ?_, ?_, ?_⟩, bOk_of ?_ (fun j a b => lo j (by omega) (by omega)) hb, oOk_of (fun j a b => lo j (by omega) (by omega)) ho⟩
  · unfold iScal
    rw [lo 0 (by decide) (by decide), lo 1 (by decide) (by decide), lo 2 (by decide) (by decide), lo 3 (by decide) (by decide), lo 4 (by decide) (by decide), lo 5 (by decide) (by decide), lo 6 (by decide) (by decide), lo 7 (by decide) (by decide)]
    exact i1
  · intro k a0 a1
    rw [lo 1 (by decide) (by decide)] at a1
    have := i2 k a0 a1
    have e : ∀ w, 0 ≤ w → w < 3 → kF M k w = kF N k w := fun w _ _ => lo _ (by omega) (by omega)
    unfold kOk at this ⊢
    rw [e 0 (by decide) (by decide), e 1 (by decide) (by decide), e 2 (by decide) (by decide)]
    exact this
  · intro k a0 a1
    rw [lo 2 (by decide) (by decide)] at a1
    have := i3 k a0 a1
    have e : ∀ w, 0 ≤ w → w < 4 → seF M k w = seF N k w := fun w _ _ => lo _ (by omega) (by omega)
    unfold seOk at this ⊢
    rw [e 0 (by decide) (by decide), e 1 (by decide) (by decide), e 2 (by decide) (by decide), e 3 (by decide) (by decide)]
    exact this
  · intro t a0 a1
    rw [lo 5 (by decide) (by decide)] at a1
    have := i4 t a0 a1
    have e : ∀ w, 0 ≤ w → w < 24 → sF M t w = sF N t w := fun w a b => h _ (by omega) (by omega)
    have h7 := this.1
    unfold sOk at this ⊢
    rw [e 0 (by decide) (by decide), e 1 (by decide) (by decide), e 2 (by decide) (by decide), e 3 (by decide) (by decide), e 4 (by decide) (by decide), e 5 (by decide) (by decide), e 6 (by decide) (by decide), e 7 (by decide) (by decide), e 8 (by decide) (by decide), e 9 (by decide) (by decide), lo 1 (by decide) (by decide)]
    refine ⟨this.1, fun n n0 n1 => ?_⟩
    rw [e (10 + n) (by omega) (by omega)]
    exact this.2 n n0 n1
  · intro g a0 a1
    rw [lo 7 (by decide) (by decide)] at a1
    have := i5 g a0 a1
    have e : ∀ w, 0 ≤ w → w < 5 → gF M g w = gF N g w := fun w _ _ => h _ (by omega) (by omega)
    unfold gOk at this ⊢
    rw [e 0 (by decide) (by decide), e 1 (by decide) (by decide), e 2 (by decide) (by decide), e 3 (by decide) (by decide), e 4 (by decide) (by decide), lo 1 (by decide) (by decide)]
    exact this
  · unfold Phi
    rw [lo 5 (by decide) (by decide), phT_eq (N := N) _ (fun s p q => by unfold sF; exact h _ (by omega) (by omega))]
def shV (j : Int) : Int := (Int32.ofInt 1 <<< (Int32.ofInt j &&& 31)).toInt
/-- a number with a bit laid or taken -/
def cbW (w j cl : Int) : Int := if cl = 0 then (Int32.ofInt w &&& Int32.ofInt ((Int32.ofInt (shV j) ^^^ Int32.ofInt (-1)).toInt)).toInt else (Int32.ofInt w ||| Int32.ofInt (shV j)).toInt
theorem cbW_in (w j cl : Int) : inI (cbW w j cl) := by unfold cbW; split <;> exact i32_in _
def clN (N : gN0) (k d cl : Int) : gN0 := upN N (1596 + k * 1142 + d / 32) (cbW (N (1596 + k * 1142 + d / 32)) (d % 32) cl)
theorem clN_inv {N : gN0} {k d cl : Int} (h : INV N) (h0 : 0 ≤ k) (h1 : 0 ≤ d) : INV (clN N k d cl) := INV_ag (fun j a b => upN_ne (by omega)) h
/-- the stays of a group that are held are cancelled -/
def lgS (N : gN0) (g : Int) : Nat → gN0 × Int
  | 0 => (N, 0)
  | n + 1 => if sF (lgS N g n).1 n 8 = g ∧ sF (lgS N g n).1 n 0 = 0 then (upN (lgS N g n).1 (56 + (n : Int) * 24 + 0) 2, (lgS N g n).2 + 1) else lgS N g n
theorem lgS_inv {N : gN0} {g : Int} (h : INV N) : ∀ n : Nat, (n : Int) ≤ N 5 → INV (lgS N g n).1 ∧ (lgS N g n).1 5 = N 5 ∧ 0 ≤ (lgS N g n).2 ∧ (lgS N g n).2 ≤ n := by
  intro n
  induction n with
  | zero => intro _; exact ⟨h, rfl, Int.le_refl _, Int.le_refl _⟩
  | succ n ih =>
    intro hn
    obtain ⟨h1, h2, h3, h4⟩ := ih (by omega)
    unfold lgS
    split
    · rename_i hc
      refine ⟨INV_st h1 (by omega) (by omega) (by decide) (by decide) ?_, ?_, by show 0 ≤ _ + 1; omega, by show _ + 1 ≤ _; omega⟩
      · rw [hc.2]; decide
      · show upN _ _ _ 5 = _
        rw [upN_ne (by omega)]; exact h2
    · exact ⟨h1, h2, h3, by omega⟩
def dpO (N : gN0) (s : Int) : Int := (sPr N s * 20 + 50) / 100
def payN (N : gN0) (s : Int) : gN0 := mvN (upN (upN N (56 + s * 24 + 0) 1) (56 + s * 24 + 6) (dpO N s)) 0 1 (dpO N s)
def rfO (N : gN0) (s : Int) : Int := if sF N s 0 ≠ 1 ∨ sF N s 2 - N 0 < 3 then 0 else if sF N s 2 - N 0 < 14 then (sF N s 6 + 1) / 2 else sF N s 6
theorem rfO_in {N : gN0} {s : Int} (h : sOk N s) : 0 ≤ rfO N s ∧ rfO N s ≤ sF N s 6 := by
  have := h.1
  unfold rfO
  (repeat' split) <;> omega
def caN (N : gN0) (s : Int) : gN0 := upN (if sF N s 0 = 1 then mvN (mvN N 1 0 (rfO N s)) 1 2 (sF N s 6 - rfO N s) else N) (56 + s * 24 + 0) 2
/-- prices laid from a cell on -/
def prP (N : gN0) (base k first n : Int) : gN0 := fun j => if base ≤ j ∧ j < base + n then nPr N k (first + (j - base)) else N j
theorem prP_0 (N : gN0) (base k first : Int) : prP N base k first 0 = N := by
  funext j
  unfold prP
  rw [if_neg (by omega)]
theorem prP_next (N : gN0) (base k first n : Int) {a : Int} (hn : 0 ≤ n) (ha : a = base + n) : upN (prP N base k first n) a (nPr N k (first + n)) = prP N base k first (n + 1) := by
  subst ha
  funext j
  unfold upN prP
  by_cases h : j = base + n
  · rw [if_pos h, if_pos (by omega), h]
    congr 1
    omega
  · rw [if_neg h]
    by_cases h2 : base ≤ j ∧ j < base + n
    · rw [if_pos h2, if_pos (by omega)]
    · rw [if_neg h2, if_neg (by omega)]
def snT (N : gN0) (k first : Int) : Nat → Int
  | 0 => 0
  | n + 1 => snT N k first n + nPr N k (first + n)
theorem prP_ne (N : gN0) (k first : Int) {base n j : Int} (h : j < base ∨ base + n ≤ j) : prP N base k first n j = N j := by unfold prP; rw [if_neg (by omega)]
theorem prP_at (N : gN0) (k first : Int) {base n j : Int} (h : base ≤ j ∧ j < base + n) : prP N base k first n j = nPr N k (first + (j - base)) := by unfold prP; rw [if_pos h]
def loN (N : gN0) (s nights : Int) : gN0 := upN (prP N (56 + s * 24 + 10 + sF N s 3) (sF N s 1) (sF N s 2 + sF N s 3) nights) (56 + s * 24 + 3) (sF N s 3 + nights)
def shN (N : gN0) (s nights : Int) : gN0 := upN N (56 + s * 24 + 3) (sF N s 3 - nights)
theorem prP_r {N : gN0} {s k first n : Int} (hs : 0 ≤ s) (h3 : 0 ≤ sF N s 3) (hn : sF N s 3 + n ≤ 14) : AgR N (prP N (56 + s * 24 + 10 + sF N s 3) k first n) := by
  refine ⟨fun j hj => prP_ne _ _ _ (by omega), fun t w t0 t1 w0 w1 => ?_⟩
  unfold sF
  unfold sF at h3 hn
  exact prP_ne _ _ _ (by omega)
theorem prP_s {N : gN0} {s k first n : Int} (hs : 0 ≤ s) (h3 : 0 ≤ sF N s 3) (hn : sF N s 3 + n ≤ 14) : AgT N (prP N (56 + s * 24 + 10 + sF N s 3) k first n) s := fun j h1 h2 => prP_ne _ _ _ (by unfold sF at *; omega)
theorem prP_sOk {N : gN0} {s k first n : Int} (h : sOk N s) (hs : 0 ≤ s) : sOk (prP N (56 + s * 24 + 10 + sF N s 3) k first n) s := by
  have h1 := h.1
  have e1 : prP N (56 + s * 24 + 10 + sF N s 3) k first n 1 = N 1 := prP_ne _ _ _ (by omega)
  have e : ∀ w, 0 ≤ w → w < 10 + sF N s 3 → sF (prP N (56 + s * 24 + 10 + sF N s 3) k first n) s w = sF N s w := fun w _ hw => prP_ne _ _ _ (by omega)
  generalize prP N (56 + s * 24 + 10 + sF N s 3) k first n = M at *
  unfold sOk at h ⊢
  rw [e1, e 0 (by omega) (by omega), e 1 (by omega) (by omega), e 2 (by omega) (by omega), e 3 (by omega) (by omega), e 4 (by omega) (by omega), e 5 (by omega) (by omega), e 6 (by omega) (by omega), e 7 (by omega) (by omega), e 8 (by omega) (by omega), e 9 (by omega) (by omega)]
  refine ⟨h.1, fun i a b => ?_⟩
  rw [e _ (by omega) (by omega)]
  exact h.2 i a b
theorem shN_inv {N : gN0} {s n : Int} (hI : INV N) (h0 : 0 ≤ s) (h1 : s < N 5) (hn0 : 1 ≤ n) (hn : n < sF N s 3) : INV (shN N s n) := by
  have hag : AgT N (shN N s n) s := fun j h _ => upN_ne (by omega)
  have h := hI.1.2.2.2.1 s h0 h1
  have e1 : shN N s n 1 = N 1 := upN_ne (by omega)
  have eb : ∀ j, 9 ≤ j → j ≤ 12 → shN N s n j = N j := fun j _ _ => upN_ne (by omega)
  have e : ∀ w, w ≠ 3 → sF (shN N s n) s w = sF N s w := fun w hw => upN_ne (by omega)
  have e3 : sF (shN N s n) s 3 = sF N s 3 - n := upN_eq _ _ _
  refine INV_s hag h0 h1 hI ?_ ?_
  · unfold sOk at h ⊢
    rw [e1, e3, e 0 (by decide), e 1 (by decide), e 2 (by decide), e 4 (by decide), e 5 (by decide), e 6 (by decide), e 7 (by decide), e 8 (by decide), e 9 (by decide)]
    refine ⟨by omega, fun i a b => ?_⟩
    rw [e _ (by omega)]
    exact h.2 i a (by omega)
  · rw [e 0 (by decide), eb 9 (by decide) (by decide), eb 10 (by decide) (by decide), eb 11 (by decide) (by decide), eb 12 (by decide) (by decide)]
    omega

theorem kX12_closeNight {E l Sh V z} {b : Int} {N : gN0} {k0 date cl : Int} (hm : gMd b N Sh V) (hI : INV N) (hv0 : 0 ≤ V b 2) (hv1 : V b 2 ≤ 6) (hk : inI k0) (h1 : inI date) (hcl : cl = 0 ∨ cl = 1) : gM E l yX12_closeNight (.code yX12_closeNight cX12_closeNight 6 (some .int)) (rmk 8 0 0 200) [(2, b), (0, k0), (0, date), (0, cl)] Sh V z (gRi (if (fitC (bI (0 ≤ k0 ∧ k0 ≤ N 1 - 1)) (bI (dayZ date ≠ -1)) 1) = 0 then if cl = 0 then (lk (clN N k0 (dayZ date) cl)).2 else 0 else 0) Sh (if (fitC (bI (0 ≤ k0 ∧ k0 ≤ N 1 - 1)) (bI (dayZ date ≠ -1)) 1) = 0 then wrN (kpV (up V b 3 0) b) b (if cl = 0 then (lk (clN N k0 (dayZ date) cl)).1 else clN N k0 (dayZ date) cl) else up V b 3 (fitC (bI (0 ≤ k0 ∧ k0 ≤ N 1 - 1)) (bI (dayZ date ≠ -1)) 1))) := by
  refine gM_at (L0 := [(2, b), (0, k0), (0, date), (0, cl), (9, 0), (9, 0)]) rfl rfl rfl ?_
  intro p e s m args below meth c hC hr hex hnm hz
  have hsc := hI.1.1
  unfold iScal at hsc
  have hdf := dayZ_in date
  refine gB hC _ _ _ _ _ _ _ qX12_closeNight_0 rfl ?_
  refine g_cV1 hC dX12_closeNight_3 mX12_118 vX12_isKind (kX12_isKind hm (by omega) (by omega)) rfl hm.1.1 (by decide) rfl (Nat.le_of_ble_eq_true rfl) (RR rfl rfl rfl rfl) (fun z => ?_)
  refine gB hC _ _ _ _ _ _ _ qX12_closeNight_6 rfl ?_
  refine g_cS1 hC dX12_closeNight_7 mX12_121 sX12_isDate (kX12_isDate (by omega)) rfl rfl (Nat.le_of_ble_eq_true rfl) (RR rfl rfl rfl rfl) (fun z => ?_)
  refine gB hC _ _ _ _ _ _ _ qX12_closeNight_10 rfl ?_
  refine g_cV1m hC dX12_closeNight_11 mX12_111 vX12_fits (kX12_fitsC (C := (fitC (bI (0 ≤ k0 ∧ k0 ≤ N 1 - 1)) (bI (dayZ date ≠ -1)) 1)) hm (by first | omega | exact bI_in _) (by first | omega | exact bI_in _) (by first | omega | exact bI_in _) (fit_eq (by first | rfl | exact (bI_t (by omega)).symm | exact (bI_f (by omega)).symm) (by first | rfl | exact (bI_t (by omega)).symm | exact (bI_f (by omega)).symm) (by first | rfl | exact (bI_t (by omega)).symm | exact (bI_f (by omega)).symm))) rfl hm.1.1 (by decide) rfl (Nat.le_of_ble_eq_true rfl) (RR rfl rfl rfl rfl) (fun z V11 e11 => ?_)
  have hm11 := gMd_o hm e11 (Or.inr ⟨rfl, by decide⟩)
  have h211 : V11 b 2 = V b 2 := by rw [e11, up_ne _ _ (Or.inr (by decide))]
  refine g_if_ne hC 19 dX12_closeNight_14 rfl (by first | omega | exact bI_in _) (fun c14 => ?_) (fun c14 => ?_)
  · have cF := bI_n0.mp c14
    have hp1 := fit_p1 cF
    have hp2 := fit_p2 cF
    have hIc := clN_inv (cl := cl) hI hp1.1 (d := dayZ date) (by omega)
    have hli := lk_in hIc.1
    refine gB hC _ _ _ _ _ _ _ qX12_closeNight_19 rfl ?_
    refine g_cV0m hC dX12_closeNight_20 mX12_115 vX12_keeps (kX12_keeps hm11 (by omega) (by omega)) rfl hm11.1.1 (by decide) rfl (Nat.le_of_ble_eq_true rfl) (RR rfl rfl rfl rfl) (fun z V20 e20 => ?_)
    have hm20 := gMd_kp hm11 e20
    refine gB hC _ _ _ _ _ _ _ qX12_closeNight_23 rfl ?_
    refine g_cS1i hC dX12_closeNight_24 mX12_27 sX12_dayOf (kX12_dayOf (by omega)) rfl rfl (Nat.le_of_ble_eq_true rfl) (RR rfl rfl rfl rfl) (fun z i24 => ?_)
    refine gB hC _ _ _ _ _ _ _ qX12_closeNight_27 rfl ?_
    refine g_idiv hC dX12_closeNight_42 (by first | omega | exact bI_in _) (by first | omega | exact bI_in _) (by omega) (by omega) ?_
    refine gB hC _ _ _ _ _ _ _ qX12_closeNight_43 rfl ?_
    refine g_getr hC dX12_closeNight_47 fX12_9 hm20.1.1 (by decide) rfl 0 rfl hm20.2.1.1 ?_
    refine gB hC _ _ _ _ _ _ _ qX12_closeNight_50 rfl ?_
    refine g_if_eq hC 74 dX12_closeNight_53 rfl (by first | omega | exact bI_in _) (fun c53 => ?_) (fun c53 => ?_)
    · refine gB hC _ _ _ _ _ _ _ qX12_closeNight_74 rfl ?_
      refine g_getr hC dX12_closeNight_75 fX12_9 hm20.1.1 (by decide) rfl 0 rfl hm20.2.1.1 ?_
      refine gB hC _ _ _ _ _ _ _ qX12_closeNight_78 rfl ?_
      refine g_iald hC dX12_closeNight_80 hm20.1.2.1 (gMd_at hm20 _) (by omega) (by omega) (by decide) (fun i80 => ?_)
      refine gB hC _ _ _ _ _ _ _ qX12_closeNight_81 rfl ?_
      refine g_irem hC dX12_closeNight_86 (by first | omega | exact bI_in _) (by first | omega | exact bI_in _) (by omega) (by omega) ?_
      refine g_ishl hC dX12_closeNight_87 (Int32.ofInt_toInt _).symm ?_
      refine gB hC _ _ _ _ _ _ _ qX12_closeNight_88 rfl ?_
      refine g_ixor hC dX12_closeNight_89 (Int32.ofInt_toInt _).symm ?_
      refine g_iand hC dX12_closeNight_90 (Int32.ofInt_toInt _).symm ?_
      refine g_ast hC dX12_closeNight_91 hm20.1.2.1 (by omega) (by omega) (by decide) (i32_in _) (fun V91 e91 => ?_)
      have hw91 := gMw_up (gMw_in hm20) e91
      have hclN : wrN V20 b (clN N k0 (dayZ date) cl) = V91 := by
        rw [hw91.2]; unfold clN cbW
        first | rw [if_pos (by omega)]; rfl | rw [if_neg (by omega)]; rfl
      have hwc : gMw b V20 (clN N k0 (dayZ date) cl) Sh V91 := ⟨by rw [← hclN]; exact gMd_w hm20 rfl, hclN.symm⟩
      refine gB hC _ _ _ _ _ _ _ qX12_closeNight_92 rfl ?_
      refine g_if_eq hC 100 dX12_closeNight_93 rfl (by first | omega | exact bI_in _) (fun c93 => ?_) (fun c93 => ?_)
      · refine gB hC _ _ _ _ _ _ _ qX12_closeNight_100 rfl ?_
        refine g_cV1im hC dX12_closeNight_101 mX12_124 vX12_looks (kX12_looks hwc.1 hIc.1) rfl hwc.1.1.1 (by decide) rfl (Nat.le_of_ble_eq_true rfl) (RR rfl rfl rfl rfl) (fun z V101 e101 i101 => ?_)
        have hw101 := gMw_wr hwc e101
        refine g_ireturn hC dX12_closeNight_104 hr ⟨?_, rfl, ?_, ?_⟩ gs_rfl ⟨Nat.le_of_ble_eq_true rfl, Nat.le_of_ble_eq_true rfl⟩
        · rw [if_pos cF]
          first | (exfalso; omega) | rw [if_pos (by omega)] | rw [if_neg (by omega)]
        · rw [if_pos cF, hw101.2, e20, e11, cF]
          first | (exfalso; omega) | rw [if_pos (by omega)] | rw [if_neg (by omega)]
        · rw [if_pos cF]
          split <;> omega
      · refine gB hC _ _ _ _ _ _ _ qX12_closeNight_96 rfl ?_
        refine g_ireturn hC dX12_closeNight_104 hr ⟨?_, rfl, ?_, ?_⟩ gs_rfl ⟨Nat.le_of_ble_eq_true rfl, Nat.le_of_ble_eq_true rfl⟩
        · rw [if_pos cF]
          first | (exfalso; omega) | rw [if_pos (by omega)] | rw [if_neg (by omega)]
        · rw [if_pos cF, hwc.2, e20, e11, cF]
          first | (exfalso; omega) | rw [if_pos (by omega)] | rw [if_neg (by omega)]
        · rw [if_pos cF]
          split <;> omega
    · refine gB hC _ _ _ _ _ _ _ qX12_closeNight_56 rfl ?_
      refine g_getr hC dX12_closeNight_57 fX12_9 hm20.1.1 (by decide) rfl 0 rfl hm20.2.1.1 ?_
      refine gB hC _ _ _ _ _ _ _ qX12_closeNight_60 rfl ?_
      refine g_iald hC dX12_closeNight_62 hm20.1.2.1 (gMd_at hm20 _) (by omega) (by omega) (by decide) (fun i62 => ?_)
      refine gB hC _ _ _ _ _ _ _ qX12_closeNight_63 rfl ?_
      refine g_irem hC dX12_closeNight_68 (by first | omega | exact bI_in _) (by first | omega | exact bI_in _) (by omega) (by omega) ?_
      refine g_ishl hC dX12_closeNight_69 (Int32.ofInt_toInt _).symm ?_
      refine g_ior hC dX12_closeNight_70 (Int32.ofInt_toInt _).symm ?_
      refine gB hC _ _ _ _ _ _ _ qX12_closeNight_71 rfl ?_
      refine g_ast hC dX12_closeNight_91 hm20.1.2.1 (by omega) (by omega) (by decide) (i32_in _) (fun V91 e91 => ?_)
      have hw91 := gMw_up (gMw_in hm20) e91
      have hclN : wrN V20 b (clN N k0 (dayZ date) cl) = V91 := by
        rw [hw91.2]; unfold clN cbW
        first | rw [if_pos (by omega)]; rfl | rw [if_neg (by omega)]; rfl
      have hwc : gMw b V20 (clN N k0 (dayZ date) cl) Sh V91 := ⟨by rw [← hclN]; exact gMd_w hm20 rfl, hclN.symm⟩
      refine gB hC _ _ _ _ _ _ _ qX12_closeNight_92 rfl ?_
      refine g_if_eq hC 100 dX12_closeNight_93 rfl (by first | omega | exact bI_in _) (fun c93 => ?_) (fun c93 => ?_)
      · refine gB hC _ _ _ _ _ _ _ qX12_closeNight_100 rfl ?_
        refine g_cV1im hC dX12_closeNight_101 mX12_124 vX12_looks (kX12_looks hwc.1 hIc.1) rfl hwc.1.1.1 (by decide) rfl (Nat.le_of_ble_eq_true rfl) (RR rfl rfl rfl rfl) (fun z V101 e101 i101 => ?_)
        have hw101 := gMw_wr hwc e101
        refine g_ireturn hC dX12_closeNight_104 hr ⟨?_, rfl, ?_, ?_⟩ gs_rfl ⟨Nat.le_of_ble_eq_true rfl, Nat.le_of_ble_eq_true rfl⟩
        · rw [if_pos cF]
          first | (exfalso; omega) | rw [if_pos (by omega)] | rw [if_neg (by omega)]
        · rw [if_pos cF, hw101.2, e20, e11, cF]
          first | (exfalso; omega) | rw [if_pos (by omega)] | rw [if_neg (by omega)]
        · rw [if_pos cF]
          split <;> omega
      · refine gB hC _ _ _ _ _ _ _ qX12_closeNight_96 rfl ?_
        refine g_ireturn hC dX12_closeNight_104 hr ⟨?_, rfl, ?_, ?_⟩ gs_rfl ⟨Nat.le_of_ble_eq_true rfl, Nat.le_of_ble_eq_true rfl⟩
        · rw [if_pos cF]
          first | (exfalso; omega) | rw [if_pos (by omega)] | rw [if_neg (by omega)]
        · rw [if_pos cF, hwc.2, e20, e11, cF]
          first | (exfalso; omega) | rw [if_pos (by omega)] | rw [if_neg (by omega)]
        · rw [if_pos cF]
          split <;> omega
  · have cF := bI_0.mp c14
    refine gB hC _ _ _ _ _ _ _ qX12_closeNight_17 rfl ?_
    refine g_ireturn hC dX12_closeNight_18 hr ⟨?_, rfl, ?_, ?_⟩ gs_rfl ⟨Nat.le_of_ble_eq_true rfl, Nat.le_of_ble_eq_true rfl⟩
    · rw [if_neg cF]
    · rw [if_neg cF]; exact e11
    · rw [if_neg cF]; decide

theorem kX12_letGo {E l Sh V z} {b : Int} {N : gN0} {g : Int} (hm : gMd b N Sh V) (hI : INV N) (hv0 : 0 ≤ V b 2) (hv1 : V b 2 ≤ 6) (hg : inI g) : gM E l yX12_letGo (.code yX12_letGo cX12_letGo 4 (some .int)) (rmk 8 0 0 200) [(2, b), (0, g)] Sh V z (gRi (if (fitC (bI (0 ≤ g ∧ g ≤ N 6 - 1)) 1 1) = 0 then (lgS N g (N 5).toNat).2 else 0) Sh (if (fitC (bI (0 ≤ g ∧ g ≤ N 6 - 1)) 1 1) = 0 then wrN (kpV (up V b 3 0) b) b ((lk (lgS N g (N 5).toNat).1).1) else up V b 3 (fitC (bI (0 ≤ g ∧ g ≤ N 6 - 1)) 1 1))) := by
  refine gM_at (L0 := [(2, b), (0, g), (9, 0), (9, 0)]) rfl rfl rfl ?_
  intro p e s m args below meth c hC hr hex hnm hz
  have hsc := hI.1.1
  unfold iScal at hsc
  refine gB hC _ _ _ _ _ _ _ qX12_letGo_0 rfl ?_
  refine g_getr hC dX12_letGo_4 fX12_9 hm.1.1 (by decide) rfl 0 rfl hm.2.1.1 ?_
  refine gB hC _ _ _ _ _ _ _ qX12_letGo_7 rfl ?_
  refine g_iald hC dX12_letGo_9 hm.1.2.1 (gMd_at hm _) (by omega) (by omega) (by decide) (fun i9 => ?_)
  refine gB hC _ _ _ _ _ _ _ qX12_letGo_10 rfl ?_
  refine g_cS1 hC dX12_letGo_12 mX12_35 sX12_in (kX12_in (by omega) (by omega) (by omega)) rfl rfl (Nat.le_of_ble_eq_true rfl) (RR rfl rfl rfl rfl) (fun z => ?_)
  refine gB hC _ _ _ _ _ _ _ qX12_letGo_15 rfl ?_
  refine g_cV1m hC dX12_letGo_17 mX12_111 vX12_fits (kX12_fitsC (C := (fitC (bI (0 ≤ g ∧ g ≤ N 6 - 1)) 1 1)) hm (by first | omega | exact bI_in _) (by first | omega | exact bI_in _) (by first | omega | exact bI_in _) (fit_eq (by first | rfl | exact (bI_t (by omega)).symm | exact (bI_f (by omega)).symm) (by first | rfl | exact (bI_t (by omega)).symm | exact (bI_f (by omega)).symm) (by first | rfl | exact (bI_t (by omega)).symm | exact (bI_f (by omega)).symm))) rfl hm.1.1 (by decide) rfl (Nat.le_of_ble_eq_true rfl) (RR rfl rfl rfl rfl) (fun z V17 e17 => ?_)
  have hm17 := gMd_o hm e17 (Or.inr ⟨rfl, by decide⟩)
  have h217 : V17 b 2 = V b 2 := by rw [e17, up_ne _ _ (Or.inr (by decide))]
  refine g_if_ne hC 25 dX12_letGo_20 rfl (by first | omega | exact bI_in _) (fun c20 => ?_) (fun c20 => ?_)
  · have cF := bI_n0.mp c20
    have hp1 := fit_p1 cF
    refine gB hC _ _ _ _ _ _ _ qX12_letGo_25 rfl ?_
    refine g_cV0m hC dX12_letGo_26 mX12_115 vX12_keeps (kX12_keeps hm17 (by omega) (by omega)) rfl hm17.1.1 (by decide) rfl (Nat.le_of_ble_eq_true rfl) (RR rfl rfl rfl rfl) (fun z V26 e26 => ?_)
    have hm26 := gMd_kp hm17 e26
    refine gB hC _ _ _ _ _ _ _ qX12_letGo_29 rfl ?_
    have hV0 : V26 = wrN V26 b N := wrN_self hm26
    rw [hV0]
    refine g_loop (fun x : Nat => (x : Int) ≤ N 5) (fun x => (N 5 - (x : Int)).toNat) 33 (fun x => [(2, b), (0, g), (0, (lgS N g x).2), (0, (x : Int))]) (fun x => wrN V26 b (lgS N g x).1) 0 (by show (0 : Int) ≤ N 5; omega) ?_
    rintro n z hn ih
    have hwn : gMw b V26 (lgS N g n).1 Sh (wrN V26 b (lgS N g n).1) := ⟨gMd_w hm26 rfl, rfl⟩
    obtain ⟨hIn, e5, hm0, hm1⟩ := lgS_inv (g := g) hI n hn
    refine gB hC _ _ _ _ _ _ _ qX12_letGo_33 rfl ?_
    refine g_getr hC dX12_letGo_35 fX12_9 hwn.1.1.1 (by decide) rfl 0 rfl hwn.1.2.1.1 ?_
    refine gB hC _ _ _ _ _ _ _ qX12_letGo_38 rfl ?_
    refine g_iald hC dX12_letGo_39 hwn.1.1.2.1 (gMd_at hwn.1 _) (by omega) (by omega) (by decide) (fun i39 => ?_)
    refine g_icmp_ge hC 82 dX12_letGo_40 rfl (by first | omega | exact bI_in _) (by first | omega | exact bI_in _) (fun c40 => ?_) (fun c40 => ?_)
    · have hnn : n = (N 5).toNat := by omega
      subst hnn
      refine gB hC _ _ _ _ _ _ _ qX12_letGo_82 rfl ?_
      refine g_cV1im hC dX12_letGo_83 mX12_124 vX12_looks (kX12_looks hwn.1 hIn.1) rfl hwn.1.1.1 (by decide) rfl (Nat.le_of_ble_eq_true rfl) (RR rfl rfl rfl rfl) (fun z V83 e83 i83 => ?_)
      have hw83 := gMw_wr hwn e83
      refine gB hC _ _ _ _ _ _ _ qX12_letGo_86 rfl ?_
      refine g_ireturn hC dX12_letGo_88 hr ⟨?_, rfl, ?_, ?_⟩ gs_rfl ⟨Nat.le_of_ble_eq_true rfl, Nat.le_of_ble_eq_true rfl⟩
      · rw [if_pos cF]
      · rw [if_pos cF, hw83.2, e26, e17, cF]
        first | done | rfl
      · rw [if_pos cF]
        omega
    · refine gB hC _ _ _ _ _ _ _ qX12_letGo_43 rfl ?_
      refine g_cV1i hC dX12_letGo_47 mX12_43 vX12_of (kX12_of hwn.1 (by omega) (by omega)) rfl hwn.1.1.1 (by decide) rfl (Nat.le_of_ble_eq_true rfl) (RR rfl rfl rfl rfl) (fun z i47 => ?_)
      refine gB hC _ _ _ _ _ _ _ qX12_letGo_50 rfl ?_
      refine g_icmp_ne hC 76 dX12_letGo_51 rfl (by first | omega | exact bI_in _) (by first | omega | exact bI_in _) (fun c51 => ?_) (fun c51 => ?_)
      · refine gB hC _ _ _ _ _ _ _ qX12_letGo_76 rfl ?_
        have hst : lgS N g (n + 1) = lgS N g n := by rw [lgS, if_neg (by omega)]
        have h9 := ih (n + 1) z (by show ((n + 1 : Nat) : Int) ≤ N 5; omega) (by show (N 5 - ((n + 1 : Nat) : Int)).toNat < (N 5 - (n : Int)).toNat; omega)
        rw [hst] at h9
        exact h9
      · refine gB hC _ _ _ _ _ _ _ qX12_letGo_54 rfl ?_
        refine g_cV1i hC dX12_letGo_57 mX12_43 vX12_of (kX12_of hwn.1 (by omega) (by omega)) rfl hwn.1.1.1 (by decide) rfl (Nat.le_of_ble_eq_true rfl) (RR rfl rfl rfl rfl) (fun z i57 => ?_)
        refine g_if_eq hC 66 dX12_letGo_60 rfl (by first | omega | exact bI_in _) (fun c60 => ?_) (fun c60 => ?_)
        · refine gB hC _ _ _ _ _ _ _ qX12_letGo_66 rfl ?_
          refine g_cV0m hC dX12_letGo_70 mX12_90 vX12_lays (kX12_lays hwn.1 (by omega) (by omega) (by first | omega | exact bI_in _)) rfl hwn.1.1.1 (by decide) rfl (Nat.le_of_ble_eq_true rfl) (RR rfl rfl rfl rfl) (fun z V70 e70 => ?_)
          have hw70 := gMw_wr hwn e70
          refine gB hC _ _ _ _ _ _ _ qX12_letGo_73 rfl ?_
          refine gB hC _ _ _ _ _ _ _ qX12_letGo_76 rfl ?_
          have hst : lgS N g (n + 1) = (upN (lgS N g n).1 (56 + (n : Int) * 24 + 0) 2, (lgS N g n).2 + 1) := by rw [lgS, if_pos ⟨by omega, by omega⟩]
          have h9 := ih (n + 1) z (by show ((n + 1 : Nat) : Int) ≤ N 5; omega) (by show (N 5 - ((n + 1 : Nat) : Int)).toNat < (N 5 - (n : Int)).toNat; omega)
          rw [hst] at h9
          rw [hw70.2]
          exact h9
        · refine gB hC _ _ _ _ _ _ _ qX12_letGo_63 rfl ?_
          refine gB hC _ _ _ _ _ _ _ qX12_letGo_76 rfl ?_
          have hst : lgS N g (n + 1) = lgS N g n := by rw [lgS, if_neg (by omega)]
          have h9 := ih (n + 1) z (by show ((n + 1 : Nat) : Int) ≤ N 5; omega) (by show (N 5 - ((n + 1 : Nat) : Int)).toNat < (N 5 - (n : Int)).toNat; omega)
          rw [hst] at h9
          exact h9
  · have cF := bI_0.mp c20
    refine gB hC _ _ _ _ _ _ _ qX12_letGo_23 rfl ?_
    refine g_ireturn hC dX12_letGo_24 hr ⟨?_, rfl, ?_, ?_⟩ gs_rfl ⟨Nat.le_of_ble_eq_true rfl, Nat.le_of_ble_eq_true rfl⟩
    · rw [if_neg cF]
    · rw [if_neg cF]; exact e17
    · rw [if_neg cF]; decide

theorem kX12_pay {E l Sh V z} {b : Int} {N : gN0} {s0 : Int} (hm : gMd b N Sh V) (hI : INV N) (hv0 : 0 ≤ V b 2) (hv1 : V b 2 ≤ 6) (hk : inI s0) : gM E l yX12_pay (.code yX12_pay cX12_pay 3 (some .int)) (rmk 8 0 0 200) [(2, b), (0, s0)] Sh V z (gRi (if (fitC (bI (0 ≤ s0 ∧ s0 ≤ N 5 - 1)) (bI ((0 ≤ s0 ∧ s0 ≤ N 5 - 1) ∧ sF N s0 0 = 0)) 1) = 0 then dpO N s0 else 0) Sh (if (fitC (bI (0 ≤ s0 ∧ s0 ≤ N 5 - 1)) (bI ((0 ≤ s0 ∧ s0 ≤ N 5 - 1) ∧ sF N s0 0 = 0)) 1) = 0 then wrN (kpV (up V b 3 0) b) b (payN N s0) else up V b 3 (fitC (bI (0 ≤ s0 ∧ s0 ≤ N 5 - 1)) (bI ((0 ≤ s0 ∧ s0 ≤ N 5 - 1) ∧ sF N s0 0 = 0)) 1))) := by
  refine gM_at (L0 := [(2, b), (0, s0), (9, 0)]) rfl rfl rfl ?_
  intro p e s m args below meth c hC hr hex hnm hz
  have hsc := hI.1.1
  unfold iScal at hsc
  have hbk := hI.2.1
  unfold bOk at hbk
  have hph := Phi_in hI.1
  refine gB hC _ _ _ _ _ _ _ qX12_pay_0 rfl ?_
  refine g_cV1 hC dX12_pay_3 mX12_143 vX12_isStay (kX12_isStay hm (by omega) (by omega)) rfl hm.1.1 (by decide) rfl (Nat.le_of_ble_eq_true rfl) (RR rfl rfl rfl rfl) (fun z => ?_)
  refine gB hC _ _ _ _ _ _ _ qX12_pay_6 rfl ?_
  refine g_cV1 hC dX12_pay_8 mX12_143 vX12_isStay (kX12_isStay hm (by omega) (by omega)) rfl hm.1.1 (by decide) rfl (Nat.le_of_ble_eq_true rfl) (RR rfl rfl rfl rfl) (fun z => ?_)
  refine g_if_eq hC 27 dX12_pay_11 rfl (by first | omega | exact bI_in _) (fun c11 => ?_) (fun c11 => ?_)
  · have c11 := bI_0.mp c11
    refine gB hC _ _ _ _ _ _ _ qX12_pay_27 rfl ?_
    refine gB hC _ _ _ _ _ _ _ qX12_pay_28 rfl ?_
    refine g_cV1m hC dX12_pay_29 mX12_111 vX12_fits (kX12_fitsC (C := (fitC (bI (0 ≤ s0 ∧ s0 ≤ N 5 - 1)) (bI ((0 ≤ s0 ∧ s0 ≤ N 5 - 1) ∧ sF N s0 0 = 0)) 1)) hm (by first | omega | exact bI_in _) (by first | omega | exact bI_in _) (by first | omega | exact bI_in _) (fit_eq (by first | rfl | exact (bI_t (by omega)).symm | exact (bI_f (by omega)).symm) (by first | rfl | exact (bI_t (by omega)).symm | exact (bI_f (by omega)).symm) (by first | rfl | exact (bI_t (by omega)).symm | exact (bI_f (by omega)).symm))) rfl hm.1.1 (by decide) rfl (Nat.le_of_ble_eq_true rfl) (RR rfl rfl rfl rfl) (fun z V29 e29 => ?_)
    have hm29 := gMd_o hm e29 (Or.inr ⟨rfl, by decide⟩)
    have h229 : V29 b 2 = V b 2 := by rw [e29, up_ne _ _ (Or.inr (by decide))]
    refine g_if_ne hC 37 dX12_pay_32 rfl (by first | omega | exact bI_in _) (fun c32 => ?_) (fun c32 => ?_)
    · exact absurd (bI_n0.mp c32) (fit_n2 (by first | rfl | exact bI_f (by omega)))
    · have cF := bI_0.mp c32
      refine gB hC _ _ _ _ _ _ _ qX12_pay_35 rfl ?_
      refine g_ireturn hC dX12_pay_36 hr ⟨?_, rfl, ?_, ?_⟩ gs_rfl ⟨Nat.le_of_ble_eq_true rfl, Nat.le_of_ble_eq_true rfl⟩
      · rw [if_neg cF]
      · rw [if_neg cF]; exact e29
      · rw [if_neg cF]; decide
  · have c11 := bI_n0.mp c11
    refine gB hC _ _ _ _ _ _ _ qX12_pay_14 rfl ?_
    refine g_cV1i hC dX12_pay_17 mX12_43 vX12_of (kX12_of hm (by omega) (by omega)) rfl hm.1.1 (by decide) rfl (Nat.le_of_ble_eq_true rfl) (RR rfl rfl rfl rfl) (fun z i17 => ?_)
    refine g_if_ne hC 27 dX12_pay_20 rfl (by first | omega | exact bI_in _) (fun c20 => ?_) (fun c20 => ?_)
    · refine gB hC _ _ _ _ _ _ _ qX12_pay_27 rfl ?_
      refine gB hC _ _ _ _ _ _ _ qX12_pay_28 rfl ?_
      refine g_cV1m hC dX12_pay_29 mX12_111 vX12_fits (kX12_fitsC (C := (fitC (bI (0 ≤ s0 ∧ s0 ≤ N 5 - 1)) (bI ((0 ≤ s0 ∧ s0 ≤ N 5 - 1) ∧ sF N s0 0 = 0)) 1)) hm (by first | omega | exact bI_in _) (by first | omega | exact bI_in _) (by first | omega | exact bI_in _) (fit_eq (by first | rfl | exact (bI_t (by omega)).symm | exact (bI_f (by omega)).symm) (by first | rfl | exact (bI_t (by omega)).symm | exact (bI_f (by omega)).symm) (by first | rfl | exact (bI_t (by omega)).symm | exact (bI_f (by omega)).symm))) rfl hm.1.1 (by decide) rfl (Nat.le_of_ble_eq_true rfl) (RR rfl rfl rfl rfl) (fun z V29 e29 => ?_)
      have hm29 := gMd_o hm e29 (Or.inr ⟨rfl, by decide⟩)
      have h229 : V29 b 2 = V b 2 := by rw [e29, up_ne _ _ (Or.inr (by decide))]
      refine g_if_ne hC 37 dX12_pay_32 rfl (by first | omega | exact bI_in _) (fun c32 => ?_) (fun c32 => ?_)
      · exact absurd (bI_n0.mp c32) (fit_n2 (by first | rfl | exact bI_f (by omega)))
      · have cF := bI_0.mp c32
        refine gB hC _ _ _ _ _ _ _ qX12_pay_35 rfl ?_
        refine g_ireturn hC dX12_pay_36 hr ⟨?_, rfl, ?_, ?_⟩ gs_rfl ⟨Nat.le_of_ble_eq_true rfl, Nat.le_of_ble_eq_true rfl⟩
        · rw [if_neg cF]
        · rw [if_neg cF]; exact e29
        · rw [if_neg cF]; decide
    · refine gB hC _ _ _ _ _ _ _ qX12_pay_23 rfl ?_
      refine gB hC _ _ _ _ _ _ _ qX12_pay_28 rfl ?_
      refine g_cV1m hC dX12_pay_29 mX12_111 vX12_fits (kX12_fitsC (C := (fitC (bI (0 ≤ s0 ∧ s0 ≤ N 5 - 1)) (bI ((0 ≤ s0 ∧ s0 ≤ N 5 - 1) ∧ sF N s0 0 = 0)) 1)) hm (by first | omega | exact bI_in _) (by first | omega | exact bI_in _) (by first | omega | exact bI_in _) (fit_eq (by first | rfl | exact (bI_t (by omega)).symm | exact (bI_f (by omega)).symm) (by first | rfl | exact (bI_t (by omega)).symm | exact (bI_f (by omega)).symm) (by first | rfl | exact (bI_t (by omega)).symm | exact (bI_f (by omega)).symm))) rfl hm.1.1 (by decide) rfl (Nat.le_of_ble_eq_true rfl) (RR rfl rfl rfl rfl) (fun z V29 e29 => ?_)
      have hm29 := gMd_o hm e29 (Or.inr ⟨rfl, by decide⟩)
      have h229 : V29 b 2 = V b 2 := by rw [e29, up_ne _ _ (Or.inr (by decide))]
      refine g_if_ne hC 37 dX12_pay_32 rfl (by first | omega | exact bI_in _) (fun c32 => ?_) (fun c32 => ?_)
      · have cF := bI_n0.mp c32
        have hp1 := fit_p1 cF
        have hp2 := fit_p2 cF
        have hsk := hI.1.2.2.2.1 s0 hp1.1 (by omega)
        have hs1 := hsk.1
        have hpr := sPr_in hsk
        refine gB hC _ _ _ _ _ _ _ qX12_pay_37 rfl ?_
        refine g_cV0m hC dX12_pay_38 mX12_115 vX12_keeps (kX12_keeps hm29 (by omega) (by omega)) rfl hm29.1.1 (by decide) rfl (Nat.le_of_ble_eq_true rfl) (RR rfl rfl rfl rfl) (fun z V38 e38 => ?_)
        have hm38 := gMd_kp hm29 e38
        refine gB hC _ _ _ _ _ _ _ qX12_pay_41 rfl ?_
        refine g_cV1i hC dX12_pay_43 mX12_146 vX12_price (kX12_price hm38 hsk (by omega) (by omega)) rfl hm38.1.1 (by decide) rfl (Nat.le_of_ble_eq_true rfl) (RR rfl rfl rfl rfl) (fun z i43 => ?_)
        refine gB hC _ _ _ _ _ _ _ qX12_pay_46 rfl ?_
        refine g_idiv hC dX12_pay_54 (by first | omega | exact bI_in _) (by first | omega | exact bI_in _) (by omega) (by omega) ?_
        refine gB hC _ _ _ _ _ _ _ qX12_pay_55 rfl ?_
        refine g_cV0m hC dX12_pay_60 mX12_90 vX12_lays (kX12_lays hm38 (by omega) (by omega) (by first | omega | exact bI_in _)) rfl hm38.1.1 (by decide) rfl (Nat.le_of_ble_eq_true rfl) (RR rfl rfl rfl rfl) (fun z V60 e60 => ?_)
        have hw60 := gMw_wr (gMw_in hm38) e60
        refine gB hC _ _ _ _ _ _ _ qX12_pay_63 rfl ?_
        refine g_cV0m hC dX12_pay_68 mX12_90 vX12_lays (kX12_lays hw60.1 (by omega) (by omega) (by first | omega | exact bI_in _)) rfl hw60.1.1.1 (by decide) rfl (Nat.le_of_ble_eq_true rfl) (RR rfl rfl rfl rfl) (fun z V68 e68 => ?_)
        have hw68 := gMw_wr hw60 e68
        refine gB hC _ _ _ _ _ _ _ qX12_pay_71 rfl ?_
        refine g_cV0m hC dX12_pay_75 mX12_149 vX12_moves (kX12_moves hw68.1 (by decide) (by decide) (by decide) (by decide) (by show inI (upN (upN N _ _) _ _ 9 - _); rw [upN_ne (by omega), upN_ne (by omega)]; omega) (by show inI (upN (upN (upN N _ _) _ _) _ _ 10 + _); rw [upN_ne (by omega), upN_ne (by omega), upN_ne (by omega)]; omega)) rfl hw68.1.1.1 (by decide) rfl (Nat.le_of_ble_eq_true rfl) (RR rfl rfl rfl rfl) (fun z V75 e75 => ?_)
        have hw75 := gMw_wr hw68 e75
        refine gB hC _ _ _ _ _ _ _ qX12_pay_78 rfl ?_
        refine g_ireturn hC dX12_pay_79 hr ⟨?_, rfl, ?_, ?_⟩ gs_rfl ⟨Nat.le_of_ble_eq_true rfl, Nat.le_of_ble_eq_true rfl⟩
        · rw [if_pos cF]
          rfl
        · rw [if_pos cF, hw75.2, e38, e29, cF]
          first | done | rfl
        · rw [if_pos cF]
          unfold dpO; omega
      · have cF := bI_0.mp c32
        refine gB hC _ _ _ _ _ _ _ qX12_pay_35 rfl ?_
        refine g_ireturn hC dX12_pay_36 hr ⟨?_, rfl, ?_, ?_⟩ gs_rfl ⟨Nat.le_of_ble_eq_true rfl, Nat.le_of_ble_eq_true rfl⟩
        · rw [if_neg cF]
        · rw [if_neg cF]; exact e29
        · rw [if_neg cF]; decide

theorem kX12_refundOf {E l Sh V z} {b : Int} {N : gN0} {s0 : Int} (hm : gMd b N Sh V) (hs : sOk N s0) (h0 : 0 ≤ s0) (h1 : s0 < 60) (h2 : 0 ≤ N 0) (h3 : N 0 ≤ 36524) : gM E l yX12_refundOf (.code yX12_refundOf cX12_refundOf 3 (some .int)) (rmk 2 0 0 45) [(2, b), (0, s0)] Sh V z (gRi (rfO N s0) Sh V) := by
  refine gM_at (L0 := [(2, b), (0, s0), (9, 0)]) rfl rfl rfl ?_
  intro p e s m args below meth c hC hr hex hnm hz
  have hs1 := hs.1
  have hro := rfO_in hs
  refine gB hC _ _ _ _ _ _ _ qX12_refundOf_0 rfl ?_
  refine g_cV1i hC dX12_refundOf_3 mX12_43 vX12_of (kX12_of hm (by omega) (by omega)) rfl hm.1.1 (by decide) rfl (Nat.le_of_ble_eq_true rfl) (RR rfl rfl rfl rfl) (fun z i3 => ?_)
  refine gB hC _ _ _ _ _ _ _ qX12_refundOf_6 rfl ?_
  refine g_getr hC dX12_refundOf_7 fX12_9 hm.1.1 (by decide) rfl 0 rfl hm.2.1.1 ?_
  refine gB hC _ _ _ _ _ _ _ qX12_refundOf_10 rfl ?_
  refine g_iald hC dX12_refundOf_11 hm.1.2.1 (gMd_at hm _) (by omega) (by omega) (by decide) (fun i11 => ?_)
  refine gB hC _ _ _ _ _ _ _ qX12_refundOf_12 rfl ?_
  refine g_cV1i hC dX12_refundOf_17 mX12_43 vX12_of (kX12_of hm (by omega) (by omega)) rfl hm.1.1 (by decide) rfl (Nat.le_of_ble_eq_true rfl) (RR rfl rfl rfl rfl) (fun z i17 => ?_)
  refine gB hC _ _ _ _ _ _ _ qX12_refundOf_20 rfl ?_
  refine g_icmp_ne hC 29 dX12_refundOf_21 rfl (by first | omega | exact bI_in _) (by first | omega | exact bI_in _) (fun c21 => ?_) (fun c21 => ?_)
  · refine gB hC _ _ _ _ _ _ _ qX12_refundOf_29 rfl ?_
    refine g_ireturn hC dX12_refundOf_60 hr ⟨?_, rfl, rfl, by omega⟩ gs_rfl ⟨Nat.le_of_ble_eq_true rfl, Nat.le_of_ble_eq_true rfl⟩
    unfold rfO
    first | rw [if_pos (by omega)] | (rw [if_neg (by omega), if_pos (by omega)]; done) | (rw [if_neg (by omega), if_neg (by omega)]; done)
  · refine gB hC _ _ _ _ _ _ _ qX12_refundOf_24 rfl ?_
    refine g_icmp_ge hC 33 dX12_refundOf_26 rfl (by first | omega | exact bI_in _) (by first | omega | exact bI_in _) (fun c26 => ?_) (fun c26 => ?_)
    · refine gB hC _ _ _ _ _ _ _ qX12_refundOf_33 rfl ?_
      refine g_icmp_ge hC 53 dX12_refundOf_36 rfl (by first | omega | exact bI_in _) (by first | omega | exact bI_in _) (fun c36 => ?_) (fun c36 => ?_)
      · refine gB hC _ _ _ _ _ _ _ qX12_refundOf_53 rfl ?_
        refine g_cV1i hC dX12_refundOf_57 mX12_43 vX12_of (kX12_of hm (by omega) (by omega)) rfl hm.1.1 (by decide) rfl (Nat.le_of_ble_eq_true rfl) (RR rfl rfl rfl rfl) (fun z i57 => ?_)
        refine g_ireturn hC dX12_refundOf_60 hr ⟨?_, rfl, rfl, by omega⟩ gs_rfl ⟨Nat.le_of_ble_eq_true rfl, Nat.le_of_ble_eq_true rfl⟩
        unfold rfO
        first | rw [if_pos (by omega)] | (rw [if_neg (by omega), if_pos (by omega)]; done) | (rw [if_neg (by omega), if_neg (by omega)]; done)
      · refine gB hC _ _ _ _ _ _ _ qX12_refundOf_39 rfl ?_
        refine g_cV1i hC dX12_refundOf_43 mX12_43 vX12_of (kX12_of hm (by omega) (by omega)) rfl hm.1.1 (by decide) rfl (Nat.le_of_ble_eq_true rfl) (RR rfl rfl rfl rfl) (fun z i43 => ?_)
        refine gB hC _ _ _ _ _ _ _ qX12_refundOf_46 rfl ?_
        refine g_idiv hC dX12_refundOf_49 (by first | omega | exact bI_in _) (by first | omega | exact bI_in _) (by omega) (by omega) ?_
        refine gB hC _ _ _ _ _ _ _ qX12_refundOf_50 rfl ?_
        refine g_ireturn hC dX12_refundOf_60 hr ⟨?_, rfl, rfl, by omega⟩ gs_rfl ⟨Nat.le_of_ble_eq_true rfl, Nat.le_of_ble_eq_true rfl⟩
        unfold rfO
        first | rw [if_pos (by omega)] | (rw [if_neg (by omega), if_pos (by omega)]; done) | (rw [if_neg (by omega), if_neg (by omega)]; done)
    · refine gB hC _ _ _ _ _ _ _ qX12_refundOf_29 rfl ?_
      refine g_ireturn hC dX12_refundOf_60 hr ⟨?_, rfl, rfl, by omega⟩ gs_rfl ⟨Nat.le_of_ble_eq_true rfl, Nat.le_of_ble_eq_true rfl⟩
      unfold rfO
      first | rw [if_pos (by omega)] | (rw [if_neg (by omega), if_pos (by omega)]; done) | (rw [if_neg (by omega), if_neg (by omega)]; done)

theorem caN_inv {N : gN0} {s : Int} (hI : INV N) (h0 : 0 ≤ s) (h1 : s < N 5) (ha : sF N s 0 = 0 ∨ sF N s 0 = 1) : INV (caN N s) := by
  have hs := hI.1.2.2.2.1 s h0 h1
  have hs1 := hs.1
  have hr := rfO_in hs
  by_cases hp : sF N s 0 = 1
  · have e : caN N s = stN (mvN (mvN N 1 0 (rfO N s)) 1 2 (sF N s 6 - rfO N s)) s 2 := by unfold caN; rw [if_pos hp]; rfl
    rw [e]
    have hok := sOk_st (st := 2) (sOk_mv (f := 1) (t := 2) (a := sF N s 6 - rfO N s) (sOk_mv (f := 1) (t := 0) (a := rfO N s) hs h0 (by decide) (by decide)) h0 (by decide) (by decide)) h0 (by decide) (by decide)
    refine INV_s (fun j q1 q2 => ?_) h0 h1 hI hok ?_
    · unfold stN
      rw [upN_ne (by omega), mvN_far _ (by decide) (by decide) q2, mvN_far _ (by decide) (by decide) q2]
    · rw [stN_0, hp]
      have eb : ∀ j, j < 13 → stN (mvN (mvN N 1 0 (rfO N s)) 1 2 (sF N s 6 - rfO N s)) s 2 j = mvN (mvN N 1 0 (rfO N s)) 1 2 (sF N s 6 - rfO N s) j := fun j hj => upN_ne (by omega)
      rw [eb 9 (by decide), eb 10 (by decide), eb 11 (by decide), eb 12 (by decide)]
      have p1 : phi 1 = 2016000 := rfl
      have p2 : phi 2 = 4032000 := rfl
      simp only [mvN, upN, p1, p2]
      simp
      omega
  · have e : caN N s = stN N s 2 := by unfold caN; rw [if_neg hp]; rfl
    rw [e]
    refine INV_st hI h0 h1 (by decide) (by decide) ?_
    have := ha.resolve_right hp
    rw [this]; decide

theorem kX12_cancel {E l Sh V z} {b : Int} {N : gN0} {s0 : Int} (hm : gMd b N Sh V) (hI : INV N) (hv0 : 0 ≤ V b 2) (hv1 : V b 2 ≤ 6) (hk : inI s0) : gM E l yX12_cancel (.code yX12_cancel cX12_cancel 4 (some .int)) (rmk 8 0 0 200) [(2, b), (0, s0)] Sh V z (gRi (if (fitC (bI (0 ≤ s0 ∧ s0 ≤ N 5 - 1)) (bI ((0 ≤ s0 ∧ s0 ≤ N 5 - 1) ∧ (sF N s0 0 = 0 ∨ sF N s0 0 = 1) ∧ N 0 < sF N s0 2)) 1) = 0 then rfO N s0 else 0) Sh (if (fitC (bI (0 ≤ s0 ∧ s0 ≤ N 5 - 1)) (bI ((0 ≤ s0 ∧ s0 ≤ N 5 - 1) ∧ (sF N s0 0 = 0 ∨ sF N s0 0 = 1) ∧ N 0 < sF N s0 2)) 1) = 0 then wrN (kpV (up V b 3 0) b) b ((lk (caN N s0)).1) else up V b 3 (fitC (bI (0 ≤ s0 ∧ s0 ≤ N 5 - 1)) (bI ((0 ≤ s0 ∧ s0 ≤ N 5 - 1) ∧ (sF N s0 0 = 0 ∨ sF N s0 0 = 1) ∧ N 0 < sF N s0 2)) 1))) := by
  refine gM_at (L0 := [(2, b), (0, s0), (9, 0), (9, 0)]) rfl rfl rfl ?_
  intro p e s m args below meth c hC hr hex hnm hz
  have hsc := hI.1.1
  unfold iScal at hsc
  have hbk := hI.2.1
  unfold bOk at hbk
  have hph := Phi_in hI.1
  refine gB hC _ _ _ _ _ _ _ qX12_cancel_0 rfl ?_
  refine g_cV1 hC dX12_cancel_3 mX12_143 vX12_isStay (kX12_isStay hm (by omega) (by omega)) rfl hm.1.1 (by decide) rfl (Nat.le_of_ble_eq_true rfl) (RR rfl rfl rfl rfl) (fun z => ?_)
  refine gB hC _ _ _ _ _ _ _ qX12_cancel_6 rfl ?_
  refine g_cV1 hC dX12_cancel_8 mX12_143 vX12_isStay (kX12_isStay hm (by omega) (by omega)) rfl hm.1.1 (by decide) rfl (Nat.le_of_ble_eq_true rfl) (RR rfl rfl rfl rfl) (fun z => ?_)
  refine g_if_eq hC 41 dX12_cancel_11 rfl (by first | omega | exact bI_in _) (fun c11 => ?_) (fun c11 => ?_)
  · have c11 := bI_0.mp c11
    refine gB hC _ _ _ _ _ _ _ qX12_cancel_41 rfl ?_
    refine gB hC _ _ _ _ _ _ _ qX12_cancel_42 rfl ?_
    refine g_cV1m hC dX12_cancel_43 mX12_111 vX12_fits (kX12_fitsC (C := (fitC (bI (0 ≤ s0 ∧ s0 ≤ N 5 - 1)) (bI ((0 ≤ s0 ∧ s0 ≤ N 5 - 1) ∧ (sF N s0 0 = 0 ∨ sF N s0 0 = 1) ∧ N 0 < sF N s0 2)) 1)) hm (by first | omega | exact bI_in _) (by first | omega | exact bI_in _) (by first | omega | exact bI_in _) (fit_eq (by first | rfl | exact (bI_t (by omega)).symm | exact (bI_f (by omega)).symm) (by first | rfl | exact (bI_t (by omega)).symm | exact (bI_f (by omega)).symm) (by first | rfl | exact (bI_t (by omega)).symm | exact (bI_f (by omega)).symm))) rfl hm.1.1 (by decide) rfl (Nat.le_of_ble_eq_true rfl) (RR rfl rfl rfl rfl) (fun z V43 e43 => ?_)
    have hm43 := gMd_o hm e43 (Or.inr ⟨rfl, by decide⟩)
    have h243 : V43 b 2 = V b 2 := by rw [e43, up_ne _ _ (Or.inr (by decide))]
    refine g_if_ne hC 51 dX12_cancel_46 rfl (by first | omega | exact bI_in _) (fun c46 => ?_) (fun c46 => ?_)
    · exact absurd (bI_n0.mp c46) (fit_n2 (by first | rfl | exact bI_f (by omega)))
    · have cF := bI_0.mp c46
      refine gB hC _ _ _ _ _ _ _ qX12_cancel_49 rfl ?_
      refine g_ireturn hC dX12_cancel_50 hr ⟨?_, rfl, ?_, ?_⟩ gs_rfl ⟨Nat.le_of_ble_eq_true rfl, Nat.le_of_ble_eq_true rfl⟩
      · rw [if_neg cF]
      · rw [if_neg cF]; exact e43
      · rw [if_neg cF]; decide
  · have c11 := bI_n0.mp c11
    refine gB hC _ _ _ _ _ _ _ qX12_cancel_14 rfl ?_
    refine g_cV1 hC dX12_cancel_16 mX12_49 vX12_isAlive (kX12_isAlive hm (by omega) (by omega)) rfl hm.1.1 (by decide) rfl (Nat.le_of_ble_eq_true rfl) (RR rfl rfl rfl rfl) (fun z => ?_)
    refine g_if_eq hC 41 dX12_cancel_19 rfl (by first | omega | exact bI_in _) (fun c19 => ?_) (fun c19 => ?_)
    · have c19 := bI_0.mp c19
      refine gB hC _ _ _ _ _ _ _ qX12_cancel_41 rfl ?_
      refine gB hC _ _ _ _ _ _ _ qX12_cancel_42 rfl ?_
      refine g_cV1m hC dX12_cancel_43 mX12_111 vX12_fits (kX12_fitsC (C := (fitC (bI (0 ≤ s0 ∧ s0 ≤ N 5 - 1)) (bI ((0 ≤ s0 ∧ s0 ≤ N 5 - 1) ∧ (sF N s0 0 = 0 ∨ sF N s0 0 = 1) ∧ N 0 < sF N s0 2)) 1)) hm (by first | omega | exact bI_in _) (by first | omega | exact bI_in _) (by first | omega | exact bI_in _) (fit_eq (by first | rfl | exact (bI_t (by omega)).symm | exact (bI_f (by omega)).symm) (by first | rfl | exact (bI_t (by omega)).symm | exact (bI_f (by omega)).symm) (by first | rfl | exact (bI_t (by omega)).symm | exact (bI_f (by omega)).symm))) rfl hm.1.1 (by decide) rfl (Nat.le_of_ble_eq_true rfl) (RR rfl rfl rfl rfl) (fun z V43 e43 => ?_)
      have hm43 := gMd_o hm e43 (Or.inr ⟨rfl, by decide⟩)
      have h243 : V43 b 2 = V b 2 := by rw [e43, up_ne _ _ (Or.inr (by decide))]
      refine g_if_ne hC 51 dX12_cancel_46 rfl (by first | omega | exact bI_in _) (fun c46 => ?_) (fun c46 => ?_)
      · exact absurd (bI_n0.mp c46) (fit_n2 (by first | rfl | exact bI_f (by omega)))
      · have cF := bI_0.mp c46
        refine gB hC _ _ _ _ _ _ _ qX12_cancel_49 rfl ?_
        refine g_ireturn hC dX12_cancel_50 hr ⟨?_, rfl, ?_, ?_⟩ gs_rfl ⟨Nat.le_of_ble_eq_true rfl, Nat.le_of_ble_eq_true rfl⟩
        · rw [if_neg cF]
        · rw [if_neg cF]; exact e43
        · rw [if_neg cF]; decide
    · have c19 := bI_n0.mp c19
      refine gB hC _ _ _ _ _ _ _ qX12_cancel_22 rfl ?_
      refine g_cV1i hC dX12_cancel_25 mX12_43 vX12_of (kX12_of hm (by omega) (by omega)) rfl hm.1.1 (by decide) rfl (Nat.le_of_ble_eq_true rfl) (RR rfl rfl rfl rfl) (fun z i25 => ?_)
      refine gB hC _ _ _ _ _ _ _ qX12_cancel_28 rfl ?_
      refine g_getr hC dX12_cancel_29 fX12_9 hm.1.1 (by decide) rfl 0 rfl hm.2.1.1 ?_
      refine gB hC _ _ _ _ _ _ _ qX12_cancel_32 rfl ?_
      refine g_iald hC dX12_cancel_33 hm.1.2.1 (gMd_at hm _) (by omega) (by omega) (by decide) (fun i33 => ?_)
      refine g_icmp_le hC 41 dX12_cancel_34 rfl (by first | omega | exact bI_in _) (by first | omega | exact bI_in _) (fun c34 => ?_) (fun c34 => ?_)
      · refine gB hC _ _ _ _ _ _ _ qX12_cancel_41 rfl ?_
        refine gB hC _ _ _ _ _ _ _ qX12_cancel_42 rfl ?_
        refine g_cV1m hC dX12_cancel_43 mX12_111 vX12_fits (kX12_fitsC (C := (fitC (bI (0 ≤ s0 ∧ s0 ≤ N 5 - 1)) (bI ((0 ≤ s0 ∧ s0 ≤ N 5 - 1) ∧ (sF N s0 0 = 0 ∨ sF N s0 0 = 1) ∧ N 0 < sF N s0 2)) 1)) hm (by first | omega | exact bI_in _) (by first | omega | exact bI_in _) (by first | omega | exact bI_in _) (fit_eq (by first | rfl | exact (bI_t (by omega)).symm | exact (bI_f (by omega)).symm) (by first | rfl | exact (bI_t (by omega)).symm | exact (bI_f (by omega)).symm) (by first | rfl | exact (bI_t (by omega)).symm | exact (bI_f (by omega)).symm))) rfl hm.1.1 (by decide) rfl (Nat.le_of_ble_eq_true rfl) (RR rfl rfl rfl rfl) (fun z V43 e43 => ?_)
        have hm43 := gMd_o hm e43 (Or.inr ⟨rfl, by decide⟩)
        have h243 : V43 b 2 = V b 2 := by rw [e43, up_ne _ _ (Or.inr (by decide))]
        refine g_if_ne hC 51 dX12_cancel_46 rfl (by first | omega | exact bI_in _) (fun c46 => ?_) (fun c46 => ?_)
        · exact absurd (bI_n0.mp c46) (fit_n2 (by first | rfl | exact bI_f (by omega)))
        · have cF := bI_0.mp c46
          refine gB hC _ _ _ _ _ _ _ qX12_cancel_49 rfl ?_
          refine g_ireturn hC dX12_cancel_50 hr ⟨?_, rfl, ?_, ?_⟩ gs_rfl ⟨Nat.le_of_ble_eq_true rfl, Nat.le_of_ble_eq_true rfl⟩
          · rw [if_neg cF]
          · rw [if_neg cF]; exact e43
          · rw [if_neg cF]; decide
      · refine gB hC _ _ _ _ _ _ _ qX12_cancel_37 rfl ?_
        refine gB hC _ _ _ _ _ _ _ qX12_cancel_42 rfl ?_
        refine g_cV1m hC dX12_cancel_43 mX12_111 vX12_fits (kX12_fitsC (C := (fitC (bI (0 ≤ s0 ∧ s0 ≤ N 5 - 1)) (bI ((0 ≤ s0 ∧ s0 ≤ N 5 - 1) ∧ (sF N s0 0 = 0 ∨ sF N s0 0 = 1) ∧ N 0 < sF N s0 2)) 1)) hm (by first | omega | exact bI_in _) (by first | omega | exact bI_in _) (by first | omega | exact bI_in _) (fit_eq (by first | rfl | exact (bI_t (by omega)).symm | exact (bI_f (by omega)).symm) (by first | rfl | exact (bI_t (by omega)).symm | exact (bI_f (by omega)).symm) (by first | rfl | exact (bI_t (by omega)).symm | exact (bI_f (by omega)).symm))) rfl hm.1.1 (by decide) rfl (Nat.le_of_ble_eq_true rfl) (RR rfl rfl rfl rfl) (fun z V43 e43 => ?_)
        have hm43 := gMd_o hm e43 (Or.inr ⟨rfl, by decide⟩)
        have h243 : V43 b 2 = V b 2 := by rw [e43, up_ne _ _ (Or.inr (by decide))]
        refine g_if_ne hC 51 dX12_cancel_46 rfl (by first | omega | exact bI_in _) (fun c46 => ?_) (fun c46 => ?_)
        · have cF := bI_n0.mp c46
          have hp1 := fit_p1 cF
          have hp2 := fit_p2 cF
          have hsk := hI.1.2.2.2.1 s0 hp1.1 (by omega)
          have hs1 := hsk.1
          have hpr := sPr_in hsk
          have hro := rfO_in hsk
          have hIc := caN_inv hI hp1.1 (by omega) hp2.2.1
          refine gB hC _ _ _ _ _ _ _ qX12_cancel_51 rfl ?_
          refine g_cV0m hC dX12_cancel_52 mX12_115 vX12_keeps (kX12_keeps hm43 (by omega) (by omega)) rfl hm43.1.1 (by decide) rfl (Nat.le_of_ble_eq_true rfl) (RR rfl rfl rfl rfl) (fun z V52 e52 => ?_)
          have hm52 := gMd_kp hm43 e52
          refine gB hC _ _ _ _ _ _ _ qX12_cancel_55 rfl ?_
          refine g_cV1i hC dX12_cancel_57 mX12_152 vX12_refundOf (kX12_refundOf hm52 hsk (by omega) (by omega) (by omega) (by omega)) rfl hm52.1.1 (by decide) rfl (Nat.le_of_ble_eq_true rfl) (RR rfl rfl rfl rfl) (fun z i57 => ?_)
          refine gB hC _ _ _ _ _ _ _ qX12_cancel_60 rfl ?_
          refine g_cV1i hC dX12_cancel_64 mX12_43 vX12_of (kX12_of hm52 (by omega) (by omega)) rfl hm52.1.1 (by decide) rfl (Nat.le_of_ble_eq_true rfl) (RR rfl rfl rfl rfl) (fun z i64 => ?_)
          refine gB hC _ _ _ _ _ _ _ qX12_cancel_67 rfl ?_
          refine g_icmp_ne hC 93 dX12_cancel_68 rfl (by first | omega | exact bI_in _) (by first | omega | exact bI_in _) (fun c68 => ?_) (fun c68 => ?_)
          · refine gB hC _ _ _ _ _ _ _ qX12_cancel_93 rfl ?_
            refine g_cV0m hC dX12_cancel_97 mX12_90 vX12_lays (kX12_lays hm52 (by omega) (by omega) (by first | omega | exact bI_in _)) rfl hm52.1.1 (by decide) rfl (Nat.le_of_ble_eq_true rfl) (RR rfl rfl rfl rfl) (fun z V97 e97 => ?_)
            have hw97 := gMw_wr (gMw_in hm52) e97
            have hcN : wrN V52 b (caN N s0) = V97 := by
              rw [hw97.2]; unfold caN
              first | rw [if_pos (by omega)] | rw [if_neg (by omega)]
            have hwc : gMw b V52 (caN N s0) Sh V97 := ⟨by rw [← hcN]; exact gMd_w hm52 rfl, hcN.symm⟩
            refine gB hC _ _ _ _ _ _ _ qX12_cancel_100 rfl ?_
            refine g_cV1im hC dX12_cancel_101 mX12_124 vX12_looks (kX12_looks hwc.1 hIc.1) rfl hwc.1.1.1 (by decide) rfl (Nat.le_of_ble_eq_true rfl) (RR rfl rfl rfl rfl) (fun z V101 e101 i101 => ?_)
            have hw101 := gMw_wr hwc e101
            refine gB hC _ _ _ _ _ _ _ qX12_cancel_104 rfl ?_
            refine g_ireturn hC dX12_cancel_106 hr ⟨?_, rfl, ?_, ?_⟩ gs_rfl ⟨Nat.le_of_ble_eq_true rfl, Nat.le_of_ble_eq_true rfl⟩
            · rw [if_pos cF]
            · rw [if_pos cF, hw101.2, e52, e43, cF]
              first | done | rfl
            · rw [if_pos cF]
              omega
          · refine gB hC _ _ _ _ _ _ _ qX12_cancel_71 rfl ?_
            refine g_cV0m hC dX12_cancel_75 mX12_149 vX12_moves (kX12_moves hm52 (by decide) (by decide) (by decide) (by decide) (by show inI (N 10 - _); omega) (by show inI (upN N _ _ 9 + _); rw [upN_ne (by decide)]; omega)) rfl hm52.1.1 (by decide) rfl (Nat.le_of_ble_eq_true rfl) (RR rfl rfl rfl rfl) (fun z V75 e75 => ?_)
            have hw75 := gMw_wr (gMw_in hm52) e75
            have h6 : sF (mvN N 1 0 (rfO N s0)) s0 6 = sF N s0 6 := mvN_far N (by decide) (by decide) (by omega)
            refine gB hC _ _ _ _ _ _ _ qX12_cancel_78 rfl ?_
            refine g_cV1i hC dX12_cancel_85 mX12_43 vX12_of (kX12_of hw75.1 (by omega) (by omega)) rfl hw75.1.1.1 (by decide) rfl (Nat.le_of_ble_eq_true rfl) (RR rfl rfl rfl rfl) (fun z i85 => ?_)
            refine gB hC _ _ _ _ _ _ _ qX12_cancel_88 rfl ?_
            refine g_cV0m hC dX12_cancel_90 mX12_149 vX12_moves (kX12_moves hw75.1 (by decide) (by decide) (by decide) (by decide) (by rw [h6]; show inI (upN (upN N 10 (N 10 - _)) 9 _ 10 - _); rw [upN_ne (by decide), upN_eq]; omega) (by rw [h6]; show inI (upN (upN (upN N _ _) _ _) _ _ 11 + _); rw [upN_ne (by decide), upN_ne (by decide), upN_ne (by decide)]; omega)) rfl hw75.1.1.1 (by decide) rfl (Nat.le_of_ble_eq_true rfl) (RR rfl rfl rfl rfl) (fun z V90 e90 => ?_)
            have hw90 := gMw_wr hw75 e90
            rw [h6] at e90 hw90
            refine gB hC _ _ _ _ _ _ _ qX12_cancel_93 rfl ?_
            refine g_cV0m hC dX12_cancel_97 mX12_90 vX12_lays (kX12_lays hw90.1 (by omega) (by omega) (by first | omega | exact bI_in _)) rfl hw90.1.1.1 (by decide) rfl (Nat.le_of_ble_eq_true rfl) (RR rfl rfl rfl rfl) (fun z V97 e97 => ?_)
            have hw97 := gMw_wr hw90 e97
            have hcN : wrN V52 b (caN N s0) = V97 := by
              rw [hw97.2]; unfold caN
              first | rw [if_pos (by omega)] | rw [if_neg (by omega)]
            have hwc : gMw b V52 (caN N s0) Sh V97 := ⟨by rw [← hcN]; exact gMd_w hm52 rfl, hcN.symm⟩
            refine gB hC _ _ _ _ _ _ _ qX12_cancel_100 rfl ?_
            refine g_cV1im hC dX12_cancel_101 mX12_124 vX12_looks (kX12_looks hwc.1 hIc.1) rfl hwc.1.1.1 (by decide) rfl (Nat.le_of_ble_eq_true rfl) (RR rfl rfl rfl rfl) (fun z V101 e101 i101 => ?_)
            have hw101 := gMw_wr hwc e101
            refine gB hC _ _ _ _ _ _ _ qX12_cancel_104 rfl ?_
            refine g_ireturn hC dX12_cancel_106 hr ⟨?_, rfl, ?_, ?_⟩ gs_rfl ⟨Nat.le_of_ble_eq_true rfl, Nat.le_of_ble_eq_true rfl⟩
            · rw [if_pos cF]
            · rw [if_pos cF, hw101.2, e52, e43, cF]
              first | done | rfl
            · rw [if_pos cF]
              omega
        · have cF := bI_0.mp c46
          refine gB hC _ _ _ _ _ _ _ qX12_cancel_49 rfl ?_
          refine g_ireturn hC dX12_cancel_50 hr ⟨?_, rfl, ?_, ?_⟩ gs_rfl ⟨Nat.le_of_ble_eq_true rfl, Nat.le_of_ble_eq_true rfl⟩
          · rw [if_neg cF]
          · rw [if_neg cF]; exact e43
          · rw [if_neg cF]; decide
