/-! the reference: readers (rows laid by wip/whole/m10.py) -/
def grZ (N : gN0) (k d : Int) : Nat → Int
  | 0 => 0
  | n + 1 => max (grZ N k d n) (cnt N k (d + n))
theorem grZ_in {N : gN0} (h : InvC N) (k d : Int) : ∀ n, 0 ≤ grZ N k d n ∧ grZ N k d n ≤ 60 := by
  intro n
  induction n with
  | zero => exact ⟨Int.le_refl _, by show (0 : Int) ≤ 60; decide⟩
  | succ n ih =>
    have := cnt_in h k (d + n)
    unfold grZ
    omega
def ckZ (N : gN0) : Nat → Int
  | 0 => 17
  | n + 1 => 31 * (31 * (31 * ckZ N n + sF N n 0) + sPr N n) + sF N n 3
def wI (x : Int) : Int := (Int32.ofInt x).toInt
def mnI (N : gN0) (month s : Int) : Nat → Int
  | 0 => 0
  | n + 1 => mnI N month s n + (if dateZ (sF N s 2 + n) / 100 = month then 1 else 0)
def mnT (N : gN0) (month : Int) : Nat → Int
  | 0 => 0
  | n + 1 => mnT N month n + (if sF N n 0 = 1 ∨ sF N n 0 = 4 then mnI N month n (sF N n 3).toNat else 0)
theorem mnI_in (N : gN0) (month s : Int) : ∀ n, 0 ≤ mnI N month s n ∧ mnI N month s n ≤ n := by
  intro n
  induction n with
  | zero => exact ⟨Int.le_refl _, Int.le_refl _⟩
  | succ n ih => unfold mnI; split <;> omega
theorem mnT_in {N : gN0} (h : InvC N) (month : Int) : ∀ n : Nat, (n : Int) ≤ N 5 → 0 ≤ mnT N month n ∧ mnT N month n ≤ 14 * n := by
  intro n
  induction n with
  | zero => intro _; exact ⟨Int.le_refl _, by show (0 : Int) ≤ 14 * ((0 : Nat) : Int); omega⟩
  | succ n ih =>
    intro hn
    have h1 := ih (by omega)
    have hs := (h.2.2.2.1 n (by omega) (by omega)).1
    have h2 := mnI_in N month n (sF N n 3).toNat
    unfold mnT
    split <;> omega
def miI (N : gN0) (month s : Int) : Nat → Int
  | 0 => 0
  | n + 1 => miI N month s n + (if dateZ (sF N s 2 + n) / 100 = month then sF N s (10 + n) else 0)
def miT (N : gN0) (month : Int) : Nat → Int
  | 0 => 0
  | n + 1 => miT N month n + (if sF N n 0 = 1 ∨ sF N n 0 = 4 then miI N month n (sF N n 3).toNat else 0)
theorem miI_in {N : gN0} {month s : Int} (h : sOk N s) : ∀ n : Nat, (n : Int) ≤ sF N s 3 → 0 ≤ miI N month s n ∧ miI N month s n ≤ 720000 * n := by
  intro n
  induction n with
  | zero => intro _; exact ⟨Int.le_refl _, by show (0 : Int) ≤ 720000 * ((0 : Nat) : Int); omega⟩
  | succ n ih =>
    intro hn
    have h1 := ih (by omega)
    have h2 := h.2 n (by omega) (by omega)
    unfold miI
    split <;> omega
theorem miT_in {N : gN0} (h : InvC N) (month : Int) : ∀ n : Nat, (n : Int) ≤ N 5 → 0 ≤ miT N month n ∧ miT N month n ≤ 10080000 * n := by
  intro n
  induction n with
  | zero => intro _; exact ⟨Int.le_refl _, by show (0 : Int) ≤ 10080000 * ((0 : Nat) : Int); omega⟩
  | succ n ih =>
    intro hn
    have h1 := ih (by omega)
    have hs := h.2.2.2.1 n (by omega) (by omega)
    have hs1 := hs.1
    have h2 := miI_in (month := month) hs (sF N n 3).toNat (by omega)
    unfold miT
    split <;> omega
/-- what is told of a stay -/
def stZ (N : gN0) (s w : Int) : Int := if w = 0 then sF N s 0 else if w = 1 then sF N s 1 else if w = 2 then dateZ (sF N s 2) else if w = 3 then sF N s 3 else if w = 4 then sPr N s else if w = 5 then sF N s 6 else if w = 6 then sTx N s else if w = 7 then sF N s 8 else dateZ (sF N s 9)
section GW3
variable {E : gE} {own : ClassId} {nL : Nat} {p : Program} {l : Launch} {e : Env} {R : Room} {s : State} {m : MethodId} {args : Array Value} {below : List Frame} {meth : Method} {c : Code} {Q : State → Prop} {pc k n : Nat} {L st : List aV} {Sh : gSh} {V : gV} {z : Int}
theorem g_wrap1 {x : Int} (kk : gG E nL p l e R s m args below meth c Q pc L ((0, wI x) :: st) Sh V z k n) : gG E nL p l e R s m args below meth c Q pc L ((0, x) :: st) Sh V z k n := by
  have hx : cv (0, x) = cv (0, wI x) := by
    show Value.int _ = Value.int _
    unfold wI
    rw [Int32.ofInt_toInt]
  intro H locs ls h1 h2 h3 h4 h5
  have h6 := kk H locs ls h1 h2 h3 h4 h5
  simp only [List.map_cons] at h6 ⊢
  rw [hx]
  exact h6
end GW3

theorem kX12_thrown {E l Sh V z} {b : Int} {N : gN0} (hm : gMd b N Sh V) : gM E l yX12_thrown (.code yX12_thrown cX12_thrown 1 (some .int)) (rmk 0 0 0 0) [(2, b)] Sh V z (gRi (V b 3) Sh V) := by
  refine gM_at (L0 := [(2, b)]) rfl rfl rfl ?_
  intro p e s m args below meth c hC hr hex hnm hz
  refine gB hC _ _ _ _ _ _ _ qX12_thrown_0 rfl ?_
  refine g_geti hC dX12_thrown_1 fX12_31 hm.1.1 (by decide) rfl 3 rfl (fun i1 => ?_)
  refine g_ireturn hC dX12_thrown_4 hr ⟨rfl, rfl, rfl, by assumption⟩ gs_rfl ⟨Nat.le_of_ble_eq_true rfl, Nat.le_of_ble_eq_true rfl⟩

theorem kX12_today {E l Sh V z} {b : Int} {N : gN0} (hm : gMd b N Sh V) (hI : INV N) : gM E l yX12_today (.code yX12_today cX12_today 1 (some .int)) (rmk 4 0 0 100) [(2, b)] Sh V z (gRi (dateZ (N 0)) Sh (up V b 3 0)) := by
  refine gM_at (L0 := [(2, b)]) rfl rfl rfl ?_
  intro p e s m args below meth c hC hr hex hnm hz
  have hsc := hI.1.1
  unfold iScal at hsc
  refine gB hC _ _ _ _ _ _ _ qX12_today_0 rfl ?_
  refine g_puti hC dX12_today_2 fX12_31 hm.1.1 (by decide) rfl (fun _ h => by cases h; rfl) 3 rfl (by first | omega | exact bI_in _) (fun V2 e2 => ?_)
  have hm2 := gMd_o hm e2 (Or.inr ⟨rfl, by decide⟩)
  refine gB hC _ _ _ _ _ _ _ qX12_today_5 rfl ?_
  refine g_getr hC dX12_today_6 fX12_9 hm2.1.1 (by decide) rfl 0 rfl hm2.2.1.1 ?_
  refine gB hC _ _ _ _ _ _ _ qX12_today_9 rfl ?_
  refine g_iald hC dX12_today_10 hm2.1.2.1 (gMd_at hm2 _) (by omega) (by omega) (by decide) (fun i10 => ?_)
  refine g_cS1i hC dX12_today_11 mX12_66 sX12_dateOf (kX12_dateOf (by omega) (by omega)) rfl rfl (Nat.le_of_ble_eq_true rfl) (RR rfl rfl rfl rfl) (fun z i11 => ?_)
  refine g_ireturn hC dX12_today_14 hr ⟨rfl, rfl, e2, by have := dateZ_in (d := N 0) (by omega) (by omega); omega⟩ gs_rfl ⟨Nat.le_of_ble_eq_true rfl, Nat.le_of_ble_eq_true rfl⟩

theorem kX12_kinds {E l Sh V z} {b : Int} {N : gN0} (hm : gMd b N Sh V) (hI : INV N) : gM E l yX12_kinds (.code yX12_kinds cX12_kinds 1 (some .int)) (rmk 4 0 0 100) [(2, b)] Sh V z (gRi (N 1) Sh (up V b 3 0)) := by
  refine gM_at (L0 := [(2, b)]) rfl rfl rfl ?_
  intro p e s m args below meth c hC hr hex hnm hz
  have hsc := hI.1.1
  unfold iScal at hsc
  refine gB hC _ _ _ _ _ _ _ qX12_kinds_0 rfl ?_
  refine g_puti hC dX12_kinds_2 fX12_31 hm.1.1 (by decide) rfl (fun _ h => by cases h; rfl) 3 rfl (by first | omega | exact bI_in _) (fun V2 e2 => ?_)
  have hm2 := gMd_o hm e2 (Or.inr ⟨rfl, by decide⟩)
  refine gB hC _ _ _ _ _ _ _ qX12_kinds_5 rfl ?_
  refine g_getr hC dX12_kinds_6 fX12_9 hm2.1.1 (by decide) rfl 0 rfl hm2.2.1.1 ?_
  refine gB hC _ _ _ _ _ _ _ qX12_kinds_9 rfl ?_
  refine g_iald hC dX12_kinds_10 hm2.1.2.1 (gMd_at hm2 _) (by omega) (by omega) (by decide) (fun i10 => ?_)
  refine g_ireturn hC dX12_kinds_11 hr ⟨rfl, rfl, e2, by omega⟩ gs_rfl ⟨Nat.le_of_ble_eq_true rfl, Nat.le_of_ble_eq_true rfl⟩

theorem kX12_refusedNight {E l Sh V z} {b : Int} {N : gN0} (hm : gMd b N Sh V) (hI : INV N) : gM E l yX12_refusedNight (.code yX12_refusedNight cX12_refusedNight 1 (some .int)) (rmk 4 0 0 100) [(2, b)] Sh V z (gRi (N 8) Sh (up V b 3 0)) := by
  refine gM_at (L0 := [(2, b)]) rfl rfl rfl ?_
  intro p e s m args below meth c hC hr hex hnm hz
  have hsc := hI.1.1
  unfold iScal at hsc
  refine gB hC _ _ _ _ _ _ _ qX12_refusedNight_0 rfl ?_
  refine g_puti hC dX12_refusedNight_2 fX12_31 hm.1.1 (by decide) rfl (fun _ h => by cases h; rfl) 3 rfl (by first | omega | exact bI_in _) (fun V2 e2 => ?_)
  have hm2 := gMd_o hm e2 (Or.inr ⟨rfl, by decide⟩)
  refine gB hC _ _ _ _ _ _ _ qX12_refusedNight_5 rfl ?_
  refine g_getr hC dX12_refusedNight_6 fX12_9 hm2.1.1 (by decide) rfl 0 rfl hm2.2.1.1 ?_
  refine gB hC _ _ _ _ _ _ _ qX12_refusedNight_9 rfl ?_
  refine g_iald hC dX12_refusedNight_11 hm2.1.2.1 (gMd_at hm2 _) (by omega) (by omega) (by decide) (fun i11 => ?_)
  refine g_ireturn hC dX12_refusedNight_12 hr ⟨rfl, rfl, e2, by assumption⟩ gs_rfl ⟨Nat.le_of_ble_eq_true rfl, Nat.le_of_ble_eq_true rfl⟩

theorem kX12_waiting {E l Sh V z} {b : Int} {N : gN0} (hm : gMd b N Sh V) (hI : INV N) : gM E l yX12_waiting (.code yX12_waiting cX12_waiting 1 (some .int)) (rmk 4 0 0 100) [(2, b)] Sh V z (gRi (N 7) Sh (up V b 3 0)) := by
  refine gM_at (L0 := [(2, b)]) rfl rfl rfl ?_
  intro p e s m args below meth c hC hr hex hnm hz
  have hsc := hI.1.1
  unfold iScal at hsc
  refine gB hC _ _ _ _ _ _ _ qX12_waiting_0 rfl ?_
  refine g_puti hC dX12_waiting_2 fX12_31 hm.1.1 (by decide) rfl (fun _ h => by cases h; rfl) 3 rfl (by first | omega | exact bI_in _) (fun V2 e2 => ?_)
  have hm2 := gMd_o hm e2 (Or.inr ⟨rfl, by decide⟩)
  refine gB hC _ _ _ _ _ _ _ qX12_waiting_5 rfl ?_
  refine g_getr hC dX12_waiting_6 fX12_9 hm2.1.1 (by decide) rfl 0 rfl hm2.2.1.1 ?_
  refine gB hC _ _ _ _ _ _ _ qX12_waiting_9 rfl ?_
  refine g_iald hC dX12_waiting_11 hm2.1.2.1 (gMd_at hm2 _) (by omega) (by omega) (by decide) (fun i11 => ?_)
  refine g_ireturn hC dX12_waiting_12 hr ⟨rfl, rfl, e2, by omega⟩ gs_rfl ⟨Nat.le_of_ble_eq_true rfl, Nat.le_of_ble_eq_true rfl⟩

theorem kX12_dayOfWeek {E l Sh V z} {b : Int} {N : gN0} {date : Int} (hm : gMd b N Sh V) (hI : INV N) (h1 : inI date) : gM E l yX12_dayOfWeek (.code yX12_dayOfWeek cX12_dayOfWeek 2 (some .int)) (rmk 8 0 0 200) [(2, b), (0, date)] Sh V z (gRi (if (fitC (bI (dayZ date ≠ -1)) 1 1) = 0 then wdZ (dayZ date) else 0) Sh (up V b 3 (fitC (bI (dayZ date ≠ -1)) 1 1))) := by
  refine gM_at (L0 := [(2, b), (0, date)]) rfl rfl rfl ?_
  intro p e s m args below meth c hC hr hex hnm hz
  have hsc := hI.1.1
  unfold iScal at hsc
  have hdf := dayZ_in date
  refine gB hC _ _ _ _ _ _ _ qX12_dayOfWeek_0 rfl ?_
  refine g_cS1 hC dX12_dayOfWeek_2 mX12_121 sX12_isDate (kX12_isDate (by omega)) rfl rfl (Nat.le_of_ble_eq_true rfl) (RR rfl rfl rfl rfl) (fun z => ?_)
  refine gB hC _ _ _ _ _ _ _ qX12_dayOfWeek_5 rfl ?_
  refine g_cV1m hC dX12_dayOfWeek_7 mX12_111 vX12_fits (kX12_fitsC (C := (fitC (bI (dayZ date ≠ -1)) 1 1)) hm (by first | omega | exact bI_in _) (by first | omega | exact bI_in _) (by first | omega | exact bI_in _) (fit_eq (by first | rfl | exact (bI_t (by omega)).symm | exact (bI_f (by omega)).symm) (by first | rfl | exact (bI_t (by omega)).symm | exact (bI_f (by omega)).symm) (by first | rfl | exact (bI_t (by omega)).symm | exact (bI_f (by omega)).symm))) rfl hm.1.1 (by decide) rfl (Nat.le_of_ble_eq_true rfl) (RR rfl rfl rfl rfl) (fun z V7 e7 => ?_)
  have hm7 := gMd_o hm e7 (Or.inr ⟨rfl, by decide⟩)
  have h27 : V7 b 2 = V b 2 := by rw [e7, up_ne _ _ (Or.inr (by decide))]
  refine g_if_eq hC 23 dX12_dayOfWeek_10 rfl (by first | omega | exact bI_in _) (fun c10 => ?_) (fun c10 => ?_)
  · have cF := bI_0.mp c10
    refine gB hC _ _ _ _ _ _ _ qX12_dayOfWeek_23 rfl ?_
    refine g_ireturn hC dX12_dayOfWeek_24 hr ⟨?_, rfl, ?_, ?_⟩ gs_rfl ⟨Nat.le_of_ble_eq_true rfl, Nat.le_of_ble_eq_true rfl⟩
    · rw [if_neg cF]
    · exact e7
    · rw [if_neg cF]; decide
  · have cF := bI_n0.mp c10
    have hp1 := fit_p1 cF
    refine gB hC _ _ _ _ _ _ _ qX12_dayOfWeek_13 rfl ?_
    refine g_cS1i hC dX12_dayOfWeek_14 mX12_27 sX12_dayOf (kX12_dayOf (by omega)) rfl rfl (Nat.le_of_ble_eq_true rfl) (RR rfl rfl rfl rfl) (fun z i14 => ?_)
    refine g_cS1i hC dX12_dayOfWeek_17 mX12_84 sX12_weekday (kX12_weekday (by omega) (by omega)) rfl rfl (Nat.le_of_ble_eq_true rfl) (RR rfl rfl rfl rfl) (fun z i17 => ?_)
    refine gB hC _ _ _ _ _ _ _ qX12_dayOfWeek_20 rfl ?_
    refine g_ireturn hC dX12_dayOfWeek_24 hr ⟨?_, rfl, ?_, ?_⟩ gs_rfl ⟨Nat.le_of_ble_eq_true rfl, Nat.le_of_ble_eq_true rfl⟩
    · rw [if_pos cF]
    · exact e7
    · rw [if_pos cF]
      unfold wdZ; omega

theorem kX12_addDays {E l Sh V z} {b : Int} {N : gN0} {date days : Int} (hm : gMd b N Sh V) (hI : INV N) (h1 : inI date) (h2 : inI days) : gM E l yX12_addDays (.code yX12_addDays cX12_addDays 3 (some .int)) (rmk 8 0 0 200) [(2, b), (0, date), (0, days)] Sh V z (gRi (if (fitC (bI (dayZ date ≠ -1 ∧ (-1000 ≤ days ∧ days ≤ 1000) ∧ 0 ≤ dayZ date + days ∧ dayZ date + days ≤ 36524)) 1 1) = 0 then dateZ (dayZ date + days) else 0) Sh (up V b 3 (fitC (bI (dayZ date ≠ -1 ∧ (-1000 ≤ days ∧ days ≤ 1000) ∧ 0 ≤ dayZ date + days ∧ dayZ date + days ≤ 36524)) 1 1))) := by
  refine gM_at (L0 := [(2, b), (0, date), (0, days)]) rfl rfl rfl ?_
  intro p e s m args below meth c hC hr hex hnm hz
  have hsc := hI.1.1
  unfold iScal at hsc
  have hdf := dayZ_in date
  refine gB hC _ _ _ _ _ _ _ qX12_addDays_0 rfl ?_
  refine g_cS1 hC dX12_addDays_2 mX12_121 sX12_isDate (kX12_isDate (by omega)) rfl rfl (Nat.le_of_ble_eq_true rfl) (RR rfl rfl rfl rfl) (fun z => ?_)
  refine g_if_eq hC 40 dX12_addDays_5 rfl (by first | omega | exact bI_in _) (fun c5 => ?_) (fun c5 => ?_)
  · have c5 := bI_0.mp c5
    refine gB hC _ _ _ _ _ _ _ qX12_addDays_40 rfl ?_
    refine gB hC _ _ _ _ _ _ _ qX12_addDays_41 rfl ?_
    refine g_cV1m hC dX12_addDays_43 mX12_111 vX12_fits (kX12_fitsC (C := (fitC (bI (dayZ date ≠ -1 ∧ (-1000 ≤ days ∧ days ≤ 1000) ∧ 0 ≤ dayZ date + days ∧ dayZ date + days ≤ 36524)) 1 1)) hm (by first | omega | exact bI_in _) (by first | omega | exact bI_in _) (by first | omega | exact bI_in _) (fit_eq (by first | rfl | exact (bI_t (by omega)).symm | exact (bI_f (by omega)).symm) (by first | rfl | exact (bI_t (by omega)).symm | exact (bI_f (by omega)).symm) (by first | rfl | exact (bI_t (by omega)).symm | exact (bI_f (by omega)).symm))) rfl hm.1.1 (by decide) rfl (Nat.le_of_ble_eq_true rfl) (RR rfl rfl rfl rfl) (fun z V43 e43 => ?_)
    have hm43 := gMd_o hm e43 (Or.inr ⟨rfl, by decide⟩)
    have h243 : V43 b 2 = V b 2 := by rw [e43, up_ne _ _ (Or.inr (by decide))]
    refine g_if_eq hC 61 dX12_addDays_46 rfl (by first | omega | exact bI_in _) (fun c46 => ?_) (fun c46 => ?_)
    · have cF := bI_0.mp c46
      refine gB hC _ _ _ _ _ _ _ qX12_addDays_61 rfl ?_
      refine g_ireturn hC dX12_addDays_62 hr ⟨?_, rfl, ?_, ?_⟩ gs_rfl ⟨Nat.le_of_ble_eq_true rfl, Nat.le_of_ble_eq_true rfl⟩
      · rw [if_neg cF]
      · exact e43
      · rw [if_neg cF]; decide
    · exact absurd (bI_n0.mp c46) (fit_n1 (by first | rfl | exact bI_f (by omega)))
  · have c5 := bI_n0.mp c5
    refine gB hC _ _ _ _ _ _ _ qX12_addDays_8 rfl ?_
    refine g_cS1 hC dX12_addDays_15 mX12_35 sX12_in (kX12_in (by omega) (by omega) (by omega)) rfl rfl (Nat.le_of_ble_eq_true rfl) (RR rfl rfl rfl rfl) (fun z => ?_)
    refine g_if_eq hC 40 dX12_addDays_18 rfl (by first | omega | exact bI_in _) (fun c18 => ?_) (fun c18 => ?_)
    · have c18 := bI_0.mp c18
      refine gB hC _ _ _ _ _ _ _ qX12_addDays_40 rfl ?_
      refine gB hC _ _ _ _ _ _ _ qX12_addDays_41 rfl ?_
      refine g_cV1m hC dX12_addDays_43 mX12_111 vX12_fits (kX12_fitsC (C := (fitC (bI (dayZ date ≠ -1 ∧ (-1000 ≤ days ∧ days ≤ 1000) ∧ 0 ≤ dayZ date + days ∧ dayZ date + days ≤ 36524)) 1 1)) hm (by first | omega | exact bI_in _) (by first | omega | exact bI_in _) (by first | omega | exact bI_in _) (fit_eq (by first | rfl | exact (bI_t (by omega)).symm | exact (bI_f (by omega)).symm) (by first | rfl | exact (bI_t (by omega)).symm | exact (bI_f (by omega)).symm) (by first | rfl | exact (bI_t (by omega)).symm | exact (bI_f (by omega)).symm))) rfl hm.1.1 (by decide) rfl (Nat.le_of_ble_eq_true rfl) (RR rfl rfl rfl rfl) (fun z V43 e43 => ?_)
      have hm43 := gMd_o hm e43 (Or.inr ⟨rfl, by decide⟩)
      have h243 : V43 b 2 = V b 2 := by rw [e43, up_ne _ _ (Or.inr (by decide))]
      refine g_if_eq hC 61 dX12_addDays_46 rfl (by first | omega | exact bI_in _) (fun c46 => ?_) (fun c46 => ?_)
      · have cF := bI_0.mp c46
        refine gB hC _ _ _ _ _ _ _ qX12_addDays_61 rfl ?_
        refine g_ireturn hC dX12_addDays_62 hr ⟨?_, rfl, ?_, ?_⟩ gs_rfl ⟨Nat.le_of_ble_eq_true rfl, Nat.le_of_ble_eq_true rfl⟩
        · rw [if_neg cF]
        · exact e43
        · rw [if_neg cF]; decide
      · exact absurd (bI_n0.mp c46) (fit_n1 (by first | rfl | exact bI_f (by omega)))
    · have c18 := bI_n0.mp c18
      refine gB hC _ _ _ _ _ _ _ qX12_addDays_21 rfl ?_
      refine g_cS1i hC dX12_addDays_22 mX12_27 sX12_dayOf (kX12_dayOf (by omega)) rfl rfl (Nat.le_of_ble_eq_true rfl) (RR rfl rfl rfl rfl) (fun z i22 => ?_)
      refine gB hC _ _ _ _ _ _ _ qX12_addDays_25 rfl ?_
      refine g_ldc hC 36524 kX12_183 rfl dX12_addDays_28 ?_
      refine g_cS1 hC dX12_addDays_30 mX12_35 sX12_in (kX12_in (by omega) (by omega) (by omega)) rfl rfl (Nat.le_of_ble_eq_true rfl) (RR rfl rfl rfl rfl) (fun z => ?_)
      refine g_if_eq hC 40 dX12_addDays_33 rfl (by first | omega | exact bI_in _) (fun c33 => ?_) (fun c33 => ?_)
      · have c33 := bI_0.mp c33
        refine gB hC _ _ _ _ _ _ _ qX12_addDays_40 rfl ?_
        refine gB hC _ _ _ _ _ _ _ qX12_addDays_41 rfl ?_
        refine g_cV1m hC dX12_addDays_43 mX12_111 vX12_fits (kX12_fitsC (C := (fitC (bI (dayZ date ≠ -1 ∧ (-1000 ≤ days ∧ days ≤ 1000) ∧ 0 ≤ dayZ date + days ∧ dayZ date + days ≤ 36524)) 1 1)) hm (by first | omega | exact bI_in _) (by first | omega | exact bI_in _) (by first | omega | exact bI_in _) (fit_eq (by first | rfl | exact (bI_t (by omega)).symm | exact (bI_f (by omega)).symm) (by first | rfl | exact (bI_t (by omega)).symm | exact (bI_f (by omega)).symm) (by first | rfl | exact (bI_t (by omega)).symm | exact (bI_f (by omega)).symm))) rfl hm.1.1 (by decide) rfl (Nat.le_of_ble_eq_true rfl) (RR rfl rfl rfl rfl) (fun z V43 e43 => ?_)
        have hm43 := gMd_o hm e43 (Or.inr ⟨rfl, by decide⟩)
        have h243 : V43 b 2 = V b 2 := by rw [e43, up_ne _ _ (Or.inr (by decide))]
        refine g_if_eq hC 61 dX12_addDays_46 rfl (by first | omega | exact bI_in _) (fun c46 => ?_) (fun c46 => ?_)
        · have cF := bI_0.mp c46
          refine gB hC _ _ _ _ _ _ _ qX12_addDays_61 rfl ?_
          refine g_ireturn hC dX12_addDays_62 hr ⟨?_, rfl, ?_, ?_⟩ gs_rfl ⟨Nat.le_of_ble_eq_true rfl, Nat.le_of_ble_eq_true rfl⟩
          · rw [if_neg cF]
          · exact e43
          · rw [if_neg cF]; decide
        · exact absurd (bI_n0.mp c46) (fit_n1 (by first | rfl | exact bI_f (by omega)))
      · have c33 := bI_n0.mp c33
        refine gB hC _ _ _ _ _ _ _ qX12_addDays_36 rfl ?_
        refine gB hC _ _ _ _ _ _ _ qX12_addDays_41 rfl ?_
        refine g_cV1m hC dX12_addDays_43 mX12_111 vX12_fits (kX12_fitsC (C := (fitC (bI (dayZ date ≠ -1 ∧ (-1000 ≤ days ∧ days ≤ 1000) ∧ 0 ≤ dayZ date + days ∧ dayZ date + days ≤ 36524)) 1 1)) hm (by first | omega | exact bI_in _) (by first | omega | exact bI_in _) (by first | omega | exact bI_in _) (fit_eq (by first | rfl | exact (bI_t (by omega)).symm | exact (bI_f (by omega)).symm) (by first | rfl | exact (bI_t (by omega)).symm | exact (bI_f (by omega)).symm) (by first | rfl | exact (bI_t (by omega)).symm | exact (bI_f (by omega)).symm))) rfl hm.1.1 (by decide) rfl (Nat.le_of_ble_eq_true rfl) (RR rfl rfl rfl rfl) (fun z V43 e43 => ?_)
        have hm43 := gMd_o hm e43 (Or.inr ⟨rfl, by decide⟩)
        have h243 : V43 b 2 = V b 2 := by rw [e43, up_ne _ _ (Or.inr (by decide))]
        refine g_if_eq hC 61 dX12_addDays_46 rfl (by first | omega | exact bI_in _) (fun c46 => ?_) (fun c46 => ?_)
        · exact absurd (fit_ok (by first | rfl | exact bI_t (by omega)) (by first | rfl | exact bI_t (by omega)) (by first | rfl | exact bI_t (by omega))) (bI_0.mp c46)
        · have cF := bI_n0.mp c46
          have hp1 := fit_p1 cF
          refine gB hC _ _ _ _ _ _ _ qX12_addDays_49 rfl ?_
          refine g_cS1i hC dX12_addDays_50 mX12_27 sX12_dayOf (kX12_dayOf (by omega)) rfl rfl (Nat.le_of_ble_eq_true rfl) (RR rfl rfl rfl rfl) (fun z i50 => ?_)
          refine gB hC _ _ _ _ _ _ _ qX12_addDays_53 rfl ?_
          refine g_cS1i hC dX12_addDays_55 mX12_66 sX12_dateOf (kX12_dateOf (by omega) (by omega)) rfl rfl (Nat.le_of_ble_eq_true rfl) (RR rfl rfl rfl rfl) (fun z i55 => ?_)
          refine gB hC _ _ _ _ _ _ _ qX12_addDays_58 rfl ?_
          refine g_ireturn hC dX12_addDays_62 hr ⟨?_, rfl, ?_, ?_⟩ gs_rfl ⟨Nat.le_of_ble_eq_true rfl, Nat.le_of_ble_eq_true rfl⟩
          · rw [if_pos cF]
          · exact e43
          · rw [if_pos cF]
            have := dateZ_in (d := dayZ date + days) (by omega) (by omega); omega

theorem kX12_count {E l Sh V z} {b : Int} {N : gN0} {k0 date : Int} (hm : gMd b N Sh V) (hI : INV N) (hk : inI k0) (h1 : inI date) : gM E l yX12_count (.code yX12_count cX12_count 3 (some .int)) (rmk 8 0 0 200) [(2, b), (0, k0), (0, date)] Sh V z (gRi (if (fitC (bI (0 ≤ k0 ∧ k0 ≤ N 1 - 1)) (bI (dayZ date ≠ -1)) 1) = 0 then cnt N k0 (dayZ date) else 0) Sh (up V b 3 (fitC (bI (0 ≤ k0 ∧ k0 ≤ N 1 - 1)) (bI (dayZ date ≠ -1)) 1))) := by
  refine gM_at (L0 := [(2, b), (0, k0), (0, date)]) rfl rfl rfl ?_
  intro p e s m args below meth c hC hr hex hnm hz
  have hsc := hI.1.1
  unfold iScal at hsc
  have hdf := dayZ_in date
  have hcn := cnt_in hI.1 k0 (dayZ date)
  refine gB hC _ _ _ _ _ _ _ qX12_count_0 rfl ?_
  refine g_cV1 hC dX12_count_3 mX12_118 vX12_isKind (kX12_isKind hm (by omega) (by omega)) rfl hm.1.1 (by decide) rfl (Nat.le_of_ble_eq_true rfl) (RR rfl rfl rfl rfl) (fun z => ?_)
  refine gB hC _ _ _ _ _ _ _ qX12_count_6 rfl ?_
  refine g_cS1 hC dX12_count_7 mX12_121 sX12_isDate (kX12_isDate (by omega)) rfl rfl (Nat.le_of_ble_eq_true rfl) (RR rfl rfl rfl rfl) (fun z => ?_)
  refine gB hC _ _ _ _ _ _ _ qX12_count_10 rfl ?_
  refine g_cV1m hC dX12_count_11 mX12_111 vX12_fits (kX12_fitsC (C := (fitC (bI (0 ≤ k0 ∧ k0 ≤ N 1 - 1)) (bI (dayZ date ≠ -1)) 1)) hm (by first | omega | exact bI_in _) (by first | omega | exact bI_in _) (by first | omega | exact bI_in _) (fit_eq (by first | rfl | exact (bI_t (by omega)).symm | exact (bI_f (by omega)).symm) (by first | rfl | exact (bI_t (by omega)).symm | exact (bI_f (by omega)).symm) (by first | rfl | exact (bI_t (by omega)).symm | exact (bI_f (by omega)).symm))) rfl hm.1.1 (by decide) rfl (Nat.le_of_ble_eq_true rfl) (RR rfl rfl rfl rfl) (fun z V11 e11 => ?_)
  have hm11 := gMd_o hm e11 (Or.inr ⟨rfl, by decide⟩)
  have h211 : V11 b 2 = V b 2 := by rw [e11, up_ne _ _ (Or.inr (by decide))]
  refine g_if_eq hC 29 dX12_count_14 rfl (by first | omega | exact bI_in _) (fun c14 => ?_) (fun c14 => ?_)
  · have cF := bI_0.mp c14
    refine gB hC _ _ _ _ _ _ _ qX12_count_29 rfl ?_
    refine g_ireturn hC dX12_count_30 hr ⟨?_, rfl, ?_, ?_⟩ gs_rfl ⟨Nat.le_of_ble_eq_true rfl, Nat.le_of_ble_eq_true rfl⟩
    · rw [if_neg cF]
    · exact e11
    · rw [if_neg cF]; decide
  · have cF := bI_n0.mp c14
    have hp1 := fit_p1 cF
    have hp2 := fit_p2 cF
    refine gB hC _ _ _ _ _ _ _ qX12_count_17 rfl ?_
    refine g_cS1i hC dX12_count_20 mX12_27 sX12_dayOf (kX12_dayOf (by omega)) rfl rfl (Nat.le_of_ble_eq_true rfl) (RR rfl rfl rfl rfl) (fun z i20 => ?_)
    refine g_cV1i hC dX12_count_23 mX12_60 vX12_counts (kX12_counts hm11 hI.1 (by omega) (by omega)) rfl hm11.1.1 (by decide) rfl (Nat.le_of_ble_eq_true rfl) (RR rfl rfl rfl rfl) (fun z i23 => ?_)
    refine gB hC _ _ _ _ _ _ _ qX12_count_26 rfl ?_
    refine g_ireturn hC dX12_count_30 hr ⟨?_, rfl, ?_, ?_⟩ gs_rfl ⟨Nat.le_of_ble_eq_true rfl, Nat.le_of_ble_eq_true rfl⟩
    · rw [if_pos cF]
    · exact e11
    · rw [if_pos cF]
      omega

theorem kX12_priceOf {E l Sh V z} {b : Int} {N : gN0} {k0 date : Int} (hm : gMd b N Sh V) (hI : INV N) (hk : inI k0) (h1 : inI date) : gM E l yX12_priceOf (.code yX12_priceOf cX12_priceOf 3 (some .int)) (rmk 8 0 0 200) [(2, b), (0, k0), (0, date)] Sh V z (gRi (if (fitC (bI (0 ≤ k0 ∧ k0 ≤ N 1 - 1)) (bI (dayZ date ≠ -1)) 1) = 0 then nPr N k0 (dayZ date) else 0) Sh (up V b 3 (fitC (bI (0 ≤ k0 ∧ k0 ≤ N 1 - 1)) (bI (dayZ date ≠ -1)) 1))) := by
  refine gM_at (L0 := [(2, b), (0, k0), (0, date)]) rfl rfl rfl ?_
  intro p e s m args below meth c hC hr hex hnm hz
  have hsc := hI.1.1
  unfold iScal at hsc
  have hdf := dayZ_in date
  refine gB hC _ _ _ _ _ _ _ qX12_priceOf_0 rfl ?_
  refine g_cV1 hC dX12_priceOf_3 mX12_118 vX12_isKind (kX12_isKind hm (by omega) (by omega)) rfl hm.1.1 (by decide) rfl (Nat.le_of_ble_eq_true rfl) (RR rfl rfl rfl rfl) (fun z => ?_)
  refine gB hC _ _ _ _ _ _ _ qX12_priceOf_6 rfl ?_
  refine g_cS1 hC dX12_priceOf_7 mX12_121 sX12_isDate (kX12_isDate (by omega)) rfl rfl (Nat.le_of_ble_eq_true rfl) (RR rfl rfl rfl rfl) (fun z => ?_)
  refine gB hC _ _ _ _ _ _ _ qX12_priceOf_10 rfl ?_
  refine g_cV1m hC dX12_priceOf_11 mX12_111 vX12_fits (kX12_fitsC (C := (fitC (bI (0 ≤ k0 ∧ k0 ≤ N 1 - 1)) (bI (dayZ date ≠ -1)) 1)) hm (by first | omega | exact bI_in _) (by first | omega | exact bI_in _) (by first | omega | exact bI_in _) (fit_eq (by first | rfl | exact (bI_t (by omega)).symm | exact (bI_f (by omega)).symm) (by first | rfl | exact (bI_t (by omega)).symm | exact (bI_f (by omega)).symm) (by first | rfl | exact (bI_t (by omega)).symm | exact (bI_f (by omega)).symm))) rfl hm.1.1 (by decide) rfl (Nat.le_of_ble_eq_true rfl) (RR rfl rfl rfl rfl) (fun z V11 e11 => ?_)
  have hm11 := gMd_o hm e11 (Or.inr ⟨rfl, by decide⟩)
  have h211 : V11 b 2 = V b 2 := by rw [e11, up_ne _ _ (Or.inr (by decide))]
  refine g_if_eq hC 29 dX12_priceOf_14 rfl (by first | omega | exact bI_in _) (fun c14 => ?_) (fun c14 => ?_)
  · have cF := bI_0.mp c14
    refine gB hC _ _ _ _ _ _ _ qX12_priceOf_29 rfl ?_
    refine g_ireturn hC dX12_priceOf_30 hr ⟨?_, rfl, ?_, ?_⟩ gs_rfl ⟨Nat.le_of_ble_eq_true rfl, Nat.le_of_ble_eq_true rfl⟩
    · rw [if_neg cF]
    · exact e11
    · rw [if_neg cF]; decide
  · have cF := bI_n0.mp c14
    have hp1 := fit_p1 cF
    have hp2 := fit_p2 cF
    refine gB hC _ _ _ _ _ _ _ qX12_priceOf_17 rfl ?_
    refine g_cS1i hC dX12_priceOf_20 mX12_27 sX12_dayOf (kX12_dayOf (by omega)) rfl rfl (Nat.le_of_ble_eq_true rfl) (RR rfl rfl rfl rfl) (fun z i20 => ?_)
    refine g_cV1i hC dX12_priceOf_23 mX12_87 vX12_nightPrice (kX12_nightPrice hm11 hI.1 (by omega) (by omega) (by omega) (by omega)) rfl hm11.1.1 (by decide) rfl (Nat.le_of_ble_eq_true rfl) (RR rfl rfl rfl rfl) (fun z i23 => ?_)
    refine gB hC _ _ _ _ _ _ _ qX12_priceOf_26 rfl ?_
    refine g_ireturn hC dX12_priceOf_30 hr ⟨?_, rfl, ?_, ?_⟩ gs_rfl ⟨Nat.le_of_ble_eq_true rfl, Nat.le_of_ble_eq_true rfl⟩
    · rw [if_pos cF]
    · exact e11
    · rw [if_pos cF]
      assumption

theorem kX12_refund {E l Sh V z} {b : Int} {N : gN0} {s0 : Int} (hm : gMd b N Sh V) (hI : INV N) (hk : inI s0) : gM E l yX12_refund (.code yX12_refund cX12_refund 2 (some .int)) (rmk 8 0 0 200) [(2, b), (0, s0)] Sh V z (gRi (if (fitC (bI (0 ≤ s0 ∧ s0 ≤ N 5 - 1)) 1 1) = 0 then rfO N s0 else 0) Sh (up V b 3 (fitC (bI (0 ≤ s0 ∧ s0 ≤ N 5 - 1)) 1 1))) := by
  refine gM_at (L0 := [(2, b), (0, s0)]) rfl rfl rfl ?_
  intro p e s m args below meth c hC hr hex hnm hz
  have hsc := hI.1.1
  unfold iScal at hsc
  refine gB hC _ _ _ _ _ _ _ qX12_refund_0 rfl ?_
  refine g_cV1 hC dX12_refund_3 mX12_143 vX12_isStay (kX12_isStay hm (by omega) (by omega)) rfl hm.1.1 (by decide) rfl (Nat.le_of_ble_eq_true rfl) (RR rfl rfl rfl rfl) (fun z => ?_)
  refine gB hC _ _ _ _ _ _ _ qX12_refund_6 rfl ?_
  refine g_cV1m hC dX12_refund_8 mX12_111 vX12_fits (kX12_fitsC (C := (fitC (bI (0 ≤ s0 ∧ s0 ≤ N 5 - 1)) 1 1)) hm (by first | omega | exact bI_in _) (by first | omega | exact bI_in _) (by first | omega | exact bI_in _) (fit_eq (by first | rfl | exact (bI_t (by omega)).symm | exact (bI_f (by omega)).symm) (by first | rfl | exact (bI_t (by omega)).symm | exact (bI_f (by omega)).symm) (by first | rfl | exact (bI_t (by omega)).symm | exact (bI_f (by omega)).symm))) rfl hm.1.1 (by decide) rfl (Nat.le_of_ble_eq_true rfl) (RR rfl rfl rfl rfl) (fun z V8 e8 => ?_)
  have hm8 := gMd_o hm e8 (Or.inr ⟨rfl, by decide⟩)
  have h28 : V8 b 2 = V b 2 := by rw [e8, up_ne _ _ (Or.inr (by decide))]
  refine g_if_eq hC 22 dX12_refund_11 rfl (by first | omega | exact bI_in _) (fun c11 => ?_) (fun c11 => ?_)
  · have cF := bI_0.mp c11
    refine gB hC _ _ _ _ _ _ _ qX12_refund_22 rfl ?_
    refine g_ireturn hC dX12_refund_23 hr ⟨?_, rfl, ?_, ?_⟩ gs_rfl ⟨Nat.le_of_ble_eq_true rfl, Nat.le_of_ble_eq_true rfl⟩
    · rw [if_neg cF]
    · exact e8
    · rw [if_neg cF]; decide
  · have cF := bI_n0.mp c11
    have hp1 := fit_p1 cF
    have hsk := hI.1.2.2.2.1 s0 hp1.1 (by omega)
    have hs1 := hsk.1
    have hpr := sPr_in hsk
    have hro := rfO_in hsk
    refine gB hC _ _ _ _ _ _ _ qX12_refund_14 rfl ?_
    refine g_cV1i hC dX12_refund_16 mX12_152 vX12_refundOf (kX12_refundOf hm8 hsk (by omega) (by omega) (by omega) (by omega)) rfl hm8.1.1 (by decide) rfl (Nat.le_of_ble_eq_true rfl) (RR rfl rfl rfl rfl) (fun z i16 => ?_)
    refine gB hC _ _ _ _ _ _ _ qX12_refund_19 rfl ?_
    refine g_ireturn hC dX12_refund_23 hr ⟨?_, rfl, ?_, ?_⟩ gs_rfl ⟨Nat.le_of_ble_eq_true rfl, Nat.le_of_ble_eq_true rfl⟩
    · rw [if_pos cF]
    · exact e8
    · rw [if_pos cF]
      omega

theorem kX12_book {E l Sh V z} {b : Int} {N : gN0} {bk : Int} (hm : gMd b N Sh V) (hI : INV N) (hk : inI bk) : gM E l yX12_book (.code yX12_book cX12_book 2 (some .long)) (rmk 8 0 0 200) [(2, b), (0, bk)] Sh V z (gRl (if (fitC (bI (0 ≤ bk ∧ bk ≤ 3)) 1 1) = 0 then N (9 + bk) else 0) Sh (up V b 3 (fitC (bI (0 ≤ bk ∧ bk ≤ 3)) 1 1))) := by
  refine gM_at (L0 := [(2, b), (0, bk)]) rfl rfl rfl ?_
  intro p e s m args below meth c hC hr hex hnm hz
  have hsc := hI.1.1
  unfold iScal at hsc
  refine gB hC _ _ _ _ _ _ _ qX12_book_0 rfl ?_
  refine g_cS1 hC dX12_book_4 mX12_35 sX12_in (kX12_in (by omega) (by omega) (by omega)) rfl rfl (Nat.le_of_ble_eq_true rfl) (RR rfl rfl rfl rfl) (fun z => ?_)
  refine gB hC _ _ _ _ _ _ _ qX12_book_7 rfl ?_
  refine g_cV1m hC dX12_book_9 mX12_111 vX12_fits (kX12_fitsC (C := (fitC (bI (0 ≤ bk ∧ bk ≤ 3)) 1 1)) hm (by first | omega | exact bI_in _) (by first | omega | exact bI_in _) (by first | omega | exact bI_in _) (fit_eq (by first | rfl | exact (bI_t (by omega)).symm | exact (bI_f (by omega)).symm) (by first | rfl | exact (bI_t (by omega)).symm | exact (bI_f (by omega)).symm) (by first | rfl | exact (bI_t (by omega)).symm | exact (bI_f (by omega)).symm))) rfl hm.1.1 (by decide) rfl (Nat.le_of_ble_eq_true rfl) (RR rfl rfl rfl rfl) (fun z V9 e9 => ?_)
  have hm9 := gMd_o hm e9 (Or.inr ⟨rfl, by decide⟩)
  have h29 : V9 b 2 = V b 2 := by rw [e9, up_ne _ _ (Or.inr (by decide))]
  refine g_if_eq hC 28 dX12_book_12 rfl (by first | omega | exact bI_in _) (fun c12 => ?_) (fun c12 => ?_)
  · have cF := bI_0.mp c12
    refine gB hC _ _ _ _ _ _ _ qX12_book_28 rfl ?_
    refine g_lreturn hC dX12_book_29 hr ⟨?_, rfl, ?_, ?_⟩ gs_rfl ⟨Nat.le_of_ble_eq_true rfl, Nat.le_of_ble_eq_true rfl⟩
    · rw [if_neg cF]; rfl
    · exact e9
    · rw [if_neg cF]; exact ⟨by decide, by decide⟩
  · have cF := bI_n0.mp c12
    have hp1 := fit_p1 cF
    refine gB hC _ _ _ _ _ _ _ qX12_book_15 rfl ?_
    refine g_getr hC dX12_book_16 fX12_9 hm9.1.1 (by decide) rfl 0 rfl hm9.2.1.1 ?_
    refine gB hC _ _ _ _ _ _ _ qX12_book_19 rfl ?_
    refine g_iald hC dX12_book_23 hm9.1.2.1 (gMd_at hm9 _) (by omega) (by omega) (by decide) (fun i23 => ?_)
    refine g_i2l hC dX12_book_24 (by first | omega | exact bI_in _) ?_
    refine gB hC _ _ _ _ _ _ _ qX12_book_25 rfl ?_
    refine g_lreturn hC dX12_book_29 hr ⟨?_, rfl, ?_, ?_⟩ gs_rfl ⟨Nat.le_of_ble_eq_true rfl, Nat.le_of_ble_eq_true rfl⟩
    · rw [if_pos cF]
    · exact e9
    · rw [if_pos cF]
      omega

theorem kX12_greatest {E l Sh V z} {b : Int} {N : gN0} {k0 from9 to : Int} (hm : gMd b N Sh V) (hI : INV N) (hk : inI k0) (h1 : inI from9) (h2 : inI to) : gM E l yX12_greatest (.code yX12_greatest cX12_greatest 6 (some .int)) (rmk 8 0 0 200) [(2, b), (0, k0), (0, from9), (0, to)] Sh V z (gRi (if (fitC (bI (0 ≤ k0 ∧ k0 ≤ N 1 - 1)) (bI (dayZ from9 ≠ -1 ∧ dayZ to ≠ -1 ∧ 0 ≤ dayZ to - dayZ from9 ∧ dayZ to - dayZ from9 ≤ 400)) 1) = 0 then grZ N k0 (dayZ from9) (dayZ to - dayZ from9 + 1).toNat else 0) Sh (up V b 3 (fitC (bI (0 ≤ k0 ∧ k0 ≤ N 1 - 1)) (bI (dayZ from9 ≠ -1 ∧ dayZ to ≠ -1 ∧ 0 ≤ dayZ to - dayZ from9 ∧ dayZ to - dayZ from9 ≤ 400)) 1))) := by
  refine gM_at (L0 := [(2, b), (0, k0), (0, from9), (0, to), (9, 0), (9, 0)]) rfl rfl rfl ?_
  intro p e s m args below meth c hC hr hex hnm hz
  have hsc := hI.1.1
  unfold iScal at hsc
  have hdf := dayZ_in from9
  have hdt := dayZ_in to
  refine gB hC _ _ _ _ _ _ _ qX12_greatest_0 rfl ?_
  refine g_cV1 hC dX12_greatest_3 mX12_118 vX12_isKind (kX12_isKind hm (by omega) (by omega)) rfl hm.1.1 (by decide) rfl (Nat.le_of_ble_eq_true rfl) (RR rfl rfl rfl rfl) (fun z => ?_)
  refine gB hC _ _ _ _ _ _ _ qX12_greatest_6 rfl ?_
  refine g_cS1 hC dX12_greatest_7 mX12_121 sX12_isDate (kX12_isDate (by omega)) rfl rfl (Nat.le_of_ble_eq_true rfl) (RR rfl rfl rfl rfl) (fun z => ?_)
  refine g_if_eq hC 43 dX12_greatest_10 rfl (by first | omega | exact bI_in _) (fun c10 => ?_) (fun c10 => ?_)
  · have c10 := bI_0.mp c10
    refine gB hC _ _ _ _ _ _ _ qX12_greatest_43 rfl ?_
    refine gB hC _ _ _ _ _ _ _ qX12_greatest_44 rfl ?_
    refine g_cV1m hC dX12_greatest_45 mX12_111 vX12_fits (kX12_fitsC (C := (fitC (bI (0 ≤ k0 ∧ k0 ≤ N 1 - 1)) (bI (dayZ from9 ≠ -1 ∧ dayZ to ≠ -1 ∧ 0 ≤ dayZ to - dayZ from9 ∧ dayZ to - dayZ from9 ≤ 400)) 1)) hm (by first | omega | exact bI_in _) (by first | omega | exact bI_in _) (by first | omega | exact bI_in _) (fit_eq (by first | rfl | exact (bI_t (by omega)).symm | exact (bI_f (by omega)).symm) (by first | rfl | exact (bI_t (by omega)).symm | exact (bI_f (by omega)).symm) (by first | rfl | exact (bI_t (by omega)).symm | exact (bI_f (by omega)).symm))) rfl hm.1.1 (by decide) rfl (Nat.le_of_ble_eq_true rfl) (RR rfl rfl rfl rfl) (fun z V45 e45 => ?_)
    have hm45 := gMd_o hm e45 (Or.inr ⟨rfl, by decide⟩)
    have h245 : V45 b 2 = V b 2 := by rw [e45, up_ne _ _ (Or.inr (by decide))]
    refine g_if_ne hC 53 dX12_greatest_48 rfl (by first | omega | exact bI_in _) (fun c48 => ?_) (fun c48 => ?_)
    · exact absurd (bI_n0.mp c48) (fit_n2 (by first | rfl | exact bI_f (by omega)))
    · have cF := bI_0.mp c48
      refine gB hC _ _ _ _ _ _ _ qX12_greatest_51 rfl ?_
      refine g_ireturn hC dX12_greatest_52 hr ⟨?_, rfl, ?_, ?_⟩ gs_rfl ⟨Nat.le_of_ble_eq_true rfl, Nat.le_of_ble_eq_true rfl⟩
      · rw [if_neg cF]
      · exact e45
      · rw [if_neg cF]; decide
  · have c10 := bI_n0.mp c10
    refine gB hC _ _ _ _ _ _ _ qX12_greatest_13 rfl ?_
    refine g_cS1 hC dX12_greatest_14 mX12_121 sX12_isDate (kX12_isDate (by omega)) rfl rfl (Nat.le_of_ble_eq_true rfl) (RR rfl rfl rfl rfl) (fun z => ?_)
    refine g_if_eq hC 43 dX12_greatest_17 rfl (by first | omega | exact bI_in _) (fun c17 => ?_) (fun c17 => ?_)
    · have c17 := bI_0.mp c17
      refine gB hC _ _ _ _ _ _ _ qX12_greatest_43 rfl ?_
      refine gB hC _ _ _ _ _ _ _ qX12_greatest_44 rfl ?_
      refine g_cV1m hC dX12_greatest_45 mX12_111 vX12_fits (kX12_fitsC (C := (fitC (bI (0 ≤ k0 ∧ k0 ≤ N 1 - 1)) (bI (dayZ from9 ≠ -1 ∧ dayZ to ≠ -1 ∧ 0 ≤ dayZ to - dayZ from9 ∧ dayZ to - dayZ from9 ≤ 400)) 1)) hm (by first | omega | exact bI_in _) (by first | omega | exact bI_in _) (by first | omega | exact bI_in _) (fit_eq (by first | rfl | exact (bI_t (by omega)).symm | exact (bI_f (by omega)).symm) (by first | rfl | exact (bI_t (by omega)).symm | exact (bI_f (by omega)).symm) (by first | rfl | exact (bI_t (by omega)).symm | exact (bI_f (by omega)).symm))) rfl hm.1.1 (by decide) rfl (Nat.le_of_ble_eq_true rfl) (RR rfl rfl rfl rfl) (fun z V45 e45 => ?_)
      have hm45 := gMd_o hm e45 (Or.inr ⟨rfl, by decide⟩)
      have h245 : V45 b 2 = V b 2 := by rw [e45, up_ne _ _ (Or.inr (by decide))]
      refine g_if_ne hC 53 dX12_greatest_48 rfl (by first | omega | exact bI_in _) (fun c48 => ?_) (fun c48 => ?_)
      · exact absurd (bI_n0.mp c48) (fit_n2 (by first | rfl | exact bI_f (by omega)))
      · have cF := bI_0.mp c48
        refine gB hC _ _ _ _ _ _ _ qX12_greatest_51 rfl ?_
        refine g_ireturn hC dX12_greatest_52 hr ⟨?_, rfl, ?_, ?_⟩ gs_rfl ⟨Nat.le_of_ble_eq_true rfl, Nat.le_of_ble_eq_true rfl⟩
        · rw [if_neg cF]
        · exact e45
        · rw [if_neg cF]; decide
    · have c17 := bI_n0.mp c17
      refine gB hC _ _ _ _ _ _ _ qX12_greatest_20 rfl ?_
      refine g_cS1i hC dX12_greatest_21 mX12_27 sX12_dayOf (kX12_dayOf (by omega)) rfl rfl (Nat.le_of_ble_eq_true rfl) (RR rfl rfl rfl rfl) (fun z i21 => ?_)
      refine gB hC _ _ _ _ _ _ _ qX12_greatest_24 rfl ?_
      refine g_cS1i hC dX12_greatest_25 mX12_27 sX12_dayOf (kX12_dayOf (by omega)) rfl rfl (Nat.le_of_ble_eq_true rfl) (RR rfl rfl rfl rfl) (fun z i25 => ?_)
      refine gB hC _ _ _ _ _ _ _ qX12_greatest_28 rfl ?_
      refine g_cS1 hC dX12_greatest_33 mX12_35 sX12_in (kX12_in (by omega) (by omega) (by omega)) rfl rfl (Nat.le_of_ble_eq_true rfl) (RR rfl rfl rfl rfl) (fun z => ?_)
      refine g_if_eq hC 43 dX12_greatest_36 rfl (by first | omega | exact bI_in _) (fun c36 => ?_) (fun c36 => ?_)
      · have c36 := bI_0.mp c36
        refine gB hC _ _ _ _ _ _ _ qX12_greatest_43 rfl ?_
        refine gB hC _ _ _ _ _ _ _ qX12_greatest_44 rfl ?_
        refine g_cV1m hC dX12_greatest_45 mX12_111 vX12_fits (kX12_fitsC (C := (fitC (bI (0 ≤ k0 ∧ k0 ≤ N 1 - 1)) (bI (dayZ from9 ≠ -1 ∧ dayZ to ≠ -1 ∧ 0 ≤ dayZ to - dayZ from9 ∧ dayZ to - dayZ from9 ≤ 400)) 1)) hm (by first | omega | exact bI_in _) (by first | omega | exact bI_in _) (by first | omega | exact bI_in _) (fit_eq (by first | rfl | exact (bI_t (by omega)).symm | exact (bI_f (by omega)).symm) (by first | rfl | exact (bI_t (by omega)).symm | exact (bI_f (by omega)).symm) (by first | rfl | exact (bI_t (by omega)).symm | exact (bI_f (by omega)).symm))) rfl hm.1.1 (by decide) rfl (Nat.le_of_ble_eq_true rfl) (RR rfl rfl rfl rfl) (fun z V45 e45 => ?_)
        have hm45 := gMd_o hm e45 (Or.inr ⟨rfl, by decide⟩)
        have h245 : V45 b 2 = V b 2 := by rw [e45, up_ne _ _ (Or.inr (by decide))]
        refine g_if_ne hC 53 dX12_greatest_48 rfl (by first | omega | exact bI_in _) (fun c48 => ?_) (fun c48 => ?_)
        · exact absurd (bI_n0.mp c48) (fit_n2 (by first | rfl | exact bI_f (by omega)))
        · have cF := bI_0.mp c48
          refine gB hC _ _ _ _ _ _ _ qX12_greatest_51 rfl ?_
          refine g_ireturn hC dX12_greatest_52 hr ⟨?_, rfl, ?_, ?_⟩ gs_rfl ⟨Nat.le_of_ble_eq_true rfl, Nat.le_of_ble_eq_true rfl⟩
          · rw [if_neg cF]
          · exact e45
          · rw [if_neg cF]; decide
      · have c36 := bI_n0.mp c36
        refine gB hC _ _ _ _ _ _ _ qX12_greatest_39 rfl ?_
        refine gB hC _ _ _ _ _ _ _ qX12_greatest_44 rfl ?_
        refine g_cV1m hC dX12_greatest_45 mX12_111 vX12_fits (kX12_fitsC (C := (fitC (bI (0 ≤ k0 ∧ k0 ≤ N 1 - 1)) (bI (dayZ from9 ≠ -1 ∧ dayZ to ≠ -1 ∧ 0 ≤ dayZ to - dayZ from9 ∧ dayZ to - dayZ from9 ≤ 400)) 1)) hm (by first | omega | exact bI_in _) (by first | omega | exact bI_in _) (by first | omega | exact bI_in _) (fit_eq (by first | rfl | exact (bI_t (by omega)).symm | exact (bI_f (by omega)).symm) (by first | rfl | exact (bI_t (by omega)).symm | exact (bI_f (by omega)).symm) (by first | rfl | exact (bI_t (by omega)).symm | exact (bI_f (by omega)).symm))) rfl hm.1.1 (by decide) rfl (Nat.le_of_ble_eq_true rfl) (RR rfl rfl rfl rfl) (fun z V45 e45 => ?_)
        have hm45 := gMd_o hm e45 (Or.inr ⟨rfl, by decide⟩)
        have h245 : V45 b 2 = V b 2 := by rw [e45, up_ne _ _ (Or.inr (by decide))]
        refine g_if_ne hC 53 dX12_greatest_48 rfl (by first | omega | exact bI_in _) (fun c48 => ?_) (fun c48 => ?_)
        · have cF := bI_n0.mp c48
          have hp1 := fit_p1 cF
          have hp2 := fit_p2 cF
          refine gB hC _ _ _ _ _ _ _ qX12_greatest_53 rfl ?_
          refine g_cS1i hC dX12_greatest_57 mX12_27 sX12_dayOf (kX12_dayOf (by omega)) rfl rfl (Nat.le_of_ble_eq_true rfl) (RR rfl rfl rfl rfl) (fun z i57 => ?_)
          
          refine gB hC _ _ _ _ _ _ _ qX12_greatest_60 rfl ?_
          refine g_loop (fun x : Nat × Int => (x.1 : Int) ≤ dayZ to - dayZ from9 + 1 ∧ x.2 = dayZ from9 + x.1) (fun x => (dayZ to - dayZ from9 + 1 - (x.1 : Int)).toNat) 62 (fun x => [(2, b), (0, k0), (0, from9), (0, to), (0, grZ N k0 (dayZ from9) x.1), (0, x.2)]) (fun _ => V45) (0, dayZ from9) ⟨by show (0 : Int) ≤ _; omega, by show dayZ from9 = dayZ from9 + ((0 : Nat) : Int); omega⟩ ?_
          rintro ⟨n, dd⟩ z ⟨hn, hdd⟩ ih
          dsimp only at hn hdd ih ⊢
          have hgz := grZ_in hI.1 k0 (dayZ from9) n
          have hcn := cnt_in hI.1 k0 dd
          refine gB hC _ _ _ _ _ _ _ qX12_greatest_62 rfl ?_
          refine g_cS1i hC dX12_greatest_65 mX12_27 sX12_dayOf (kX12_dayOf (by omega)) rfl rfl (Nat.le_of_ble_eq_true rfl) (RR rfl rfl rfl rfl) (fun z i65 => ?_)
          refine g_icmp_gt hC 91 dX12_greatest_68 rfl (by first | omega | exact bI_in _) (by first | omega | exact bI_in _) (fun c68 => ?_) (fun c68 => ?_)
          · have hnn : n = (dayZ to - dayZ from9 + 1).toNat := by omega
            refine gB hC _ _ _ _ _ _ _ qX12_greatest_91 rfl ?_
            refine g_ireturn hC dX12_greatest_93 hr ⟨?_, rfl, ?_, ?_⟩ gs_rfl ⟨Nat.le_of_ble_eq_true rfl, Nat.le_of_ble_eq_true rfl⟩
            · rw [if_pos cF]
              rw [hnn]
            · exact e45
            · rw [if_pos cF]
              rw [← hnn]; omega
          · refine gB hC _ _ _ _ _ _ _ qX12_greatest_71 rfl ?_
            refine g_cV1i hC dX12_greatest_77 mX12_60 vX12_counts (kX12_counts hm45 hI.1 (by omega) (by omega)) rfl hm45.1.1 (by decide) rfl (Nat.le_of_ble_eq_true rfl) (RR rfl rfl rfl rfl) (fun z i77 => ?_)
            refine g_max hC dX12_greatest_80 mX12_72 (by first | omega | exact bI_in _) (by first | omega | exact bI_in _) ⟨Nat.le_of_ble_eq_true rfl, Nat.le_of_ble_eq_true rfl, Nat.le_of_ble_eq_true rfl, Nat.le_of_ble_eq_true rfl⟩ ?_
            refine gB hC _ _ _ _ _ _ _ qX12_greatest_83 rfl ?_
            have h9 := ih (n + 1, dd + 1) z ⟨by show ((n + 1 : Nat) : Int) ≤ _; omega, by show dd + 1 = dayZ from9 + ((n + 1 : Nat) : Int); omega⟩ (by show (_ - ((n + 1 : Nat) : Int)).toNat < (_ - (n : Int)).toNat; omega)
            rw [show grZ N k0 (dayZ from9) (n + 1) = max (grZ N k0 (dayZ from9) n) (cnt N k0 dd) by rw [grZ, hdd]] at h9
            exact h9
        · have cF := bI_0.mp c48
          refine gB hC _ _ _ _ _ _ _ qX12_greatest_51 rfl ?_
          refine g_ireturn hC dX12_greatest_52 hr ⟨?_, rfl, ?_, ?_⟩ gs_rfl ⟨Nat.le_of_ble_eq_true rfl, Nat.le_of_ble_eq_true rfl⟩
          · rw [if_neg cF]
          · exact e45
          · rw [if_neg cF]; decide

theorem kX12_isSold {E l Sh V z} {b : Int} {N : gN0} {s0 : Int} (hm : gMd b N Sh V) (h0 : 0 ≤ s0) (h1 : s0 < 60) : gM E l yX12_isSold (.code yX12_isSold cX12_isSold 2 (some .boolean)) (rmk 1 0 0 22) [(2, b), (0, s0)] Sh V z (gR (some (0, bI (sF N s0 0 = 1 ∨ sF N s0 0 = 4))) Sh V) := by
  refine gM_at (L0 := [(2, b), (0, s0)]) rfl rfl rfl ?_
  intro p e s m args below meth c hC hr hex hnm hz
  refine gB hC _ _ _ _ _ _ _ qX12_isSold_0 rfl ?_
  refine g_cV1i hC dX12_isSold_3 mX12_43 vX12_of (kX12_of hm (by omega) (by omega)) rfl hm.1.1 (by decide) rfl (Nat.le_of_ble_eq_true rfl) (RR rfl rfl rfl rfl) (fun z i3 => ?_)
  refine gB hC _ _ _ _ _ _ _ qX12_isSold_6 rfl ?_
  refine g_icmp_eq hC 20 dX12_isSold_7 rfl (by first | omega | exact bI_in _) (by first | omega | exact bI_in _) (fun c7 => ?_) (fun c7 => ?_)
  · refine gB hC _ _ _ _ _ _ _ qX12_isSold_20 rfl ?_
    refine g_zreturn hC dX12_isSold_25 hr ?_ ⟨?_, rfl, rfl⟩ gs_rfl ⟨Nat.le_of_ble_eq_true rfl, Nat.le_of_ble_eq_true rfl⟩
    · first | exact Or.inl rfl | exact Or.inr rfl | exact bI_01 _
    first | rw [bI_f (by omega)] | rw [bI_t (by omega)]
  · refine gB hC _ _ _ _ _ _ _ qX12_isSold_10 rfl ?_
    refine g_cV1i hC dX12_isSold_13 mX12_43 vX12_of (kX12_of hm (by omega) (by omega)) rfl hm.1.1 (by decide) rfl (Nat.le_of_ble_eq_true rfl) (RR rfl rfl rfl rfl) (fun z i13 => ?_)
    refine gB hC _ _ _ _ _ _ _ qX12_isSold_16 rfl ?_
    refine g_icmp_ne hC 24 dX12_isSold_17 rfl (by first | omega | exact bI_in _) (by first | omega | exact bI_in _) (fun c17 => ?_) (fun c17 => ?_)
    · refine gB hC _ _ _ _ _ _ _ qX12_isSold_24 rfl ?_
      refine g_zreturn hC dX12_isSold_25 hr ?_ ⟨?_, rfl, rfl⟩ gs_rfl ⟨Nat.le_of_ble_eq_true rfl, Nat.le_of_ble_eq_true rfl⟩
      · first | exact Or.inl rfl | exact Or.inr rfl | exact bI_01 _
      first | rw [bI_f (by omega)] | rw [bI_t (by omega)]
    · refine gB hC _ _ _ _ _ _ _ qX12_isSold_20 rfl ?_
      refine g_zreturn hC dX12_isSold_25 hr ?_ ⟨?_, rfl, rfl⟩ gs_rfl ⟨Nat.le_of_ble_eq_true rfl, Nat.le_of_ble_eq_true rfl⟩
      · first | exact Or.inl rfl | exact Or.inr rfl | exact bI_01 _
      first | rw [bI_f (by omega)] | rw [bI_t (by omega)]

theorem kX12_isMonth_neg {E l Sh V z} {month : Int} (h1 : inI month) (h0 : month < 0) : gM E l yX12_isMonth (.code yX12_isMonth cX12_isMonth 1 (some .boolean)) (rmk 1 0 0 25) [(0, month)] Sh V z (gR (some (0, bI ((2000 ≤ month / 100 ∧ month / 100 ≤ 2099) ∧ 1 ≤ month % 100 ∧ month % 100 ≤ 12))) Sh V) := by
  refine gM_at (L0 := [(0, month)]) rfl rfl rfl ?_
  intro p e s m args below meth c hC hr hex hnm hz
  have htd := Int.neg_tdiv (-month) 100
  rw [Int.neg_neg, Int.tdiv_eq_ediv_of_nonneg (a := -month) (by omega)] at htd
  refine gB hC _ _ _ _ _ _ _ qX12_isMonth_0 rfl ?_
  refine g_idivT hC dX12_isMonth_3 (by omega) (by omega) (by omega) (Or.inr (by omega)) ?_
  refine gB hC _ _ _ _ _ _ _ qX12_isMonth_4 rfl ?_
  refine g_cS1 hC dX12_isMonth_10 mX12_35 sX12_in (kX12_in (by omega) (by omega) (by omega)) rfl rfl (Nat.le_of_ble_eq_true rfl) (RR rfl rfl rfl rfl) (fun z => ?_)
  refine g_if_eq hC 33 dX12_isMonth_13 rfl (by first | omega | exact bI_in _) (fun c13 => ?_) (fun c13 => ?_)
  · have c13 := bI_0.mp c13
    refine gB hC _ _ _ _ _ _ _ qX12_isMonth_33 rfl ?_
    refine g_zreturn hC dX12_isMonth_34 hr ?_ ⟨?_, rfl, rfl⟩ gs_rfl ⟨Nat.le_of_ble_eq_true rfl, Nat.le_of_ble_eq_true rfl⟩
    · first | exact Or.inl rfl | exact Or.inr rfl | exact bI_01 _
    first | rw [bI_f (by omega)] | rw [bI_t (by omega)]
  · exfalso
    have hh := bI_n0.mp c13
    omega --stop

theorem kX12_isMonth_pos {E l Sh V z} {month : Int} (h1 : inI month) (h0 : 0 ≤ month) : gM E l yX12_isMonth (.code yX12_isMonth cX12_isMonth 1 (some .boolean)) (rmk 1 0 0 25) [(0, month)] Sh V z (gR (some (0, bI ((2000 ≤ month / 100 ∧ month / 100 ≤ 2099) ∧ 1 ≤ month % 100 ∧ month % 100 ≤ 12))) Sh V) := by
  refine gM_at (L0 := [(0, month)]) rfl rfl rfl ?_
  intro p e s m args below meth c hC hr hex hnm hz
  refine gB hC _ _ _ _ _ _ _ qX12_isMonth_0 rfl ?_
  refine g_idiv hC dX12_isMonth_3 (by first | omega | exact bI_in _) (by first | omega | exact bI_in _) (by omega) (by omega) ?_
  refine gB hC _ _ _ _ _ _ _ qX12_isMonth_4 rfl ?_
  refine g_cS1 hC dX12_isMonth_10 mX12_35 sX12_in (kX12_in (by omega) (by omega) (by omega)) rfl rfl (Nat.le_of_ble_eq_true rfl) (RR rfl rfl rfl rfl) (fun z => ?_)
  refine g_if_eq hC 33 dX12_isMonth_13 rfl (by first | omega | exact bI_in _) (fun c13 => ?_) (fun c13 => ?_)
  · have c13 := bI_0.mp c13
    refine gB hC _ _ _ _ _ _ _ qX12_isMonth_33 rfl ?_
    refine g_zreturn hC dX12_isMonth_34 hr ?_ ⟨?_, rfl, rfl⟩ gs_rfl ⟨Nat.le_of_ble_eq_true rfl, Nat.le_of_ble_eq_true rfl⟩
    · first | exact Or.inl rfl | exact Or.inr rfl | exact bI_01 _
    first | rw [bI_f (by omega)] | rw [bI_t (by omega)]
  · have c13 := bI_n0.mp c13
    refine gB hC _ _ _ _ _ _ _ qX12_isMonth_16 rfl ?_
    refine g_irem hC dX12_isMonth_19 (by first | omega | exact bI_in _) (by first | omega | exact bI_in _) (by omega) (by omega) ?_
    refine gB hC _ _ _ _ _ _ _ qX12_isMonth_20 rfl ?_
    refine g_cS1 hC dX12_isMonth_23 mX12_35 sX12_in (kX12_in (by omega) (by omega) (by omega)) rfl rfl (Nat.le_of_ble_eq_true rfl) (RR rfl rfl rfl rfl) (fun z => ?_)
    refine g_if_eq hC 33 dX12_isMonth_26 rfl (by first | omega | exact bI_in _) (fun c26 => ?_) (fun c26 => ?_)
    · have c26 := bI_0.mp c26
      refine gB hC _ _ _ _ _ _ _ qX12_isMonth_33 rfl ?_
      refine g_zreturn hC dX12_isMonth_34 hr ?_ ⟨?_, rfl, rfl⟩ gs_rfl ⟨Nat.le_of_ble_eq_true rfl, Nat.le_of_ble_eq_true rfl⟩
      · first | exact Or.inl rfl | exact Or.inr rfl | exact bI_01 _
      first | rw [bI_f (by omega)] | rw [bI_t (by omega)]
    · have c26 := bI_n0.mp c26
      refine gB hC _ _ _ _ _ _ _ qX12_isMonth_29 rfl ?_
      refine g_zreturn hC dX12_isMonth_34 hr ?_ ⟨?_, rfl, rfl⟩ gs_rfl ⟨Nat.le_of_ble_eq_true rfl, Nat.le_of_ble_eq_true rfl⟩
      · first | exact Or.inl rfl | exact Or.inr rfl | exact bI_01 _
      first | rw [bI_f (by omega)] | rw [bI_t (by omega)]

theorem kX12_isMonth {E l Sh V z} {month : Int} (h1 : inI month) : gM E l yX12_isMonth (.code yX12_isMonth cX12_isMonth 1 (some .boolean)) (rmk 1 0 0 25) [(0, month)] Sh V z (gR (some (0, bI ((2000 ≤ month / 100 ∧ month / 100 ≤ 2099) ∧ 1 ≤ month % 100 ∧ month % 100 ≤ 12))) Sh V) := by
  by_cases h : month < 0
  · exact kX12_isMonth_neg h1 h
  · exact kX12_isMonth_pos h1 (by omega)

theorem kX12_monthNights {E l Sh V z} {b : Int} {N : gN0} {month : Int} (hm : gMd b N Sh V) (hI : INV N) (h1 : inI month) : gM E l yX12_monthNights (.code yX12_monthNights cX12_monthNights 5 (some .int)) (rmk 8 0 0 200) [(2, b), (0, month)] Sh V z (gRi (if (fitC (bI ((2000 ≤ month / 100 ∧ month / 100 ≤ 2099) ∧ 1 ≤ month % 100 ∧ month % 100 ≤ 12)) 1 1) = 0 then mnT N month (N 5).toNat else 0) Sh (up V b 3 (fitC (bI ((2000 ≤ month / 100 ∧ month / 100 ≤ 2099) ∧ 1 ≤ month % 100 ∧ month % 100 ≤ 12)) 1 1))) := by
  refine gM_at (L0 := [(2, b), (0, month), (9, 0), (9, 0), (9, 0)]) rfl rfl rfl ?_
  intro p e s m args below meth c hC hr hex hnm hz
  have hsc := hI.1.1
  unfold iScal at hsc
  refine gB hC _ _ _ _ _ _ _ qX12_monthNights_0 rfl ?_
  refine g_cS1 hC dX12_monthNights_2 mX12_205 sX12_isMonth (kX12_isMonth (by omega)) rfl rfl (Nat.le_of_ble_eq_true rfl) (RR rfl rfl rfl rfl) (fun z => ?_)
  refine gB hC _ _ _ _ _ _ _ qX12_monthNights_5 rfl ?_
  refine g_cV1m hC dX12_monthNights_7 mX12_111 vX12_fits (kX12_fitsC (C := (fitC (bI ((2000 ≤ month / 100 ∧ month / 100 ≤ 2099) ∧ 1 ≤ month % 100 ∧ month % 100 ≤ 12)) 1 1)) hm (by first | omega | exact bI_in _) (by first | omega | exact bI_in _) (by first | omega | exact bI_in _) (fit_eq (by first | rfl | exact (bI_t (by omega)).symm | exact (bI_f (by omega)).symm) (by first | rfl | exact (bI_t (by omega)).symm | exact (bI_f (by omega)).symm) (by first | rfl | exact (bI_t (by omega)).symm | exact (bI_f (by omega)).symm))) rfl hm.1.1 (by decide) rfl (Nat.le_of_ble_eq_true rfl) (RR rfl rfl rfl rfl) (fun z V7 e7 => ?_)
  have hm7 := gMd_o hm e7 (Or.inr ⟨rfl, by decide⟩)
  have h27 : V7 b 2 = V b 2 := by rw [e7, up_ne _ _ (Or.inr (by decide))]
  refine g_if_ne hC 15 dX12_monthNights_10 rfl (by first | omega | exact bI_in _) (fun c10 => ?_) (fun c10 => ?_)
  · have cF := bI_n0.mp c10
    have hp1 := fit_p1 cF
    refine gB hC _ _ _ _ _ _ _ qX12_monthNights_15 rfl ?_
    refine g_loop (fun x : Nat × aV => (x.1 : Int) ≤ N 5) (fun x => (N 5 - (x.1 : Int)).toNat) 19 (fun x => [(2, b), (0, month), (0, mnT N month x.1), (0, (x.1 : Int)), x.2]) (fun _ => V7) (0, (9, 0)) (by show (0 : Int) ≤ N 5; omega) ?_
    rintro ⟨n, a4⟩ z hn ih
    dsimp only at hn ih ⊢
    refine gB hC _ _ _ _ _ _ _ qX12_monthNights_19 rfl ?_
    refine g_getr hC dX12_monthNights_21 fX12_9 hm7.1.1 (by decide) rfl 0 rfl hm7.2.1.1 ?_
    refine gB hC _ _ _ _ _ _ _ qX12_monthNights_24 rfl ?_
    refine g_iald hC dX12_monthNights_25 hm7.1.2.1 (gMd_at hm7 _) (by omega) (by omega) (by decide) (fun i25 => ?_)
    refine g_icmp_ge hC 90 dX12_monthNights_26 rfl (by first | omega | exact bI_in _) (by first | omega | exact bI_in _) (fun c26 => ?_) (fun c26 => ?_)
    · obtain rfl : n = (N 5).toNat := by omega
      have hmt := mnT_in hI.1 month (N 5).toNat (by omega)
      refine gB hC _ _ _ _ _ _ _ qX12_monthNights_90 rfl ?_
      refine g_ireturn hC dX12_monthNights_91 hr ⟨?_, rfl, ?_, ?_⟩ gs_rfl ⟨Nat.le_of_ble_eq_true rfl, Nat.le_of_ble_eq_true rfl⟩
      · rw [if_pos cF]
      · exact e7
      · rw [if_pos cF]
        omega
    · refine gB hC _ _ _ _ _ _ _ qX12_monthNights_29 rfl ?_
      have hs := hI.1.2.2.2.1 n (by omega) (by omega)
      have hs1 := hs.1
      refine g_loop (fun x : Nat × Int => (x.1 : Int) ≤ sF N n 3 ∧ (x.1 = 0 ∨ sF N n 0 = 1 ∨ sF N n 0 = 4) ∧ x.2 = mnT N month n + mnI N month n x.1) (fun x => (sF N n 3 - (x.1 : Int)).toNat) 32 (fun x => [(2, b), (0, month), (0, x.2), (0, (n : Int)), (0, (x.1 : Int))]) (fun _ => V7) (0, mnT N month n) ⟨by show (0 : Int) ≤ _; omega, Or.inl rfl, (Int.add_zero _).symm⟩ ?_
      rintro ⟨i, mm⟩ z ⟨hi, hso, hmm⟩ ih2
      dsimp only at hi hso hmm ih2 ⊢
      have hdz : (i : Int) < sF N n 3 → 20000101 ≤ dateZ (sF N n 2 + i) ∧ dateZ (sF N n 2 + i) ≤ 20991231 := fun q => by have := dateZ_in (d := sF N n 2 + i) (by omega) (by omega); omega
      refine gB hC _ _ _ _ _ _ _ qX12_monthNights_32 rfl ?_
      refine g_cV1i hC dX12_monthNights_37 mX12_43 vX12_of (kX12_of hm7 (by omega) (by omega)) rfl hm7.1.1 (by decide) rfl (Nat.le_of_ble_eq_true rfl) (RR rfl rfl rfl rfl) (fun z i37 => ?_)
      refine g_icmp_ge hC 84 dX12_monthNights_40 rfl (by first | omega | exact bI_in _) (by first | omega | exact bI_in _) (fun c40 => ?_) (fun c40 => ?_)
      · refine gB hC _ _ _ _ _ _ _ qX12_monthNights_84 rfl ?_
        have h9 := ih (n + 1, (0, (i : Int))) z (by show ((n + 1 : Nat) : Int) ≤ N 5; omega) (by show (N 5 - ((n + 1 : Nat) : Int)).toNat < (N 5 - (n : Int)).toNat; omega)
        first
        | (rw [show mnT N month (n + 1) = mm by rw [mnT, if_pos (by omega), show (sF N n 3).toNat = i by omega, hmm]] at h9; exact h9)
        | (rw [show mnT N month (n + 1) = mm by rw [mnT, if_neg (by omega), hmm, show i = 0 by omega]; rfl] at h9; exact h9)
      · refine gB hC _ _ _ _ _ _ _ qX12_monthNights_43 rfl ?_
        refine g_cV1 hC dX12_monthNights_45 mX12_208 vX12_isSold (kX12_isSold hm7 (by omega) (by omega)) rfl hm7.1.1 (by decide) rfl (Nat.le_of_ble_eq_true rfl) (RR rfl rfl rfl rfl) (fun z => ?_)
        refine g_if_eq hC 84 dX12_monthNights_48 rfl (by first | omega | exact bI_in _) (fun c48 => ?_) (fun c48 => ?_)
        · have c48 := bI_0.mp c48
          refine gB hC _ _ _ _ _ _ _ qX12_monthNights_84 rfl ?_
          have h9 := ih (n + 1, (0, (i : Int))) z (by show ((n + 1 : Nat) : Int) ≤ N 5; omega) (by show (N 5 - ((n + 1 : Nat) : Int)).toNat < (N 5 - (n : Int)).toNat; omega)
          first
          | (rw [show mnT N month (n + 1) = mm by rw [mnT, if_pos (by omega), show (sF N n 3).toNat = i by omega, hmm]] at h9; exact h9)
          | (rw [show mnT N month (n + 1) = mm by rw [mnT, if_neg (by omega), hmm, show i = 0 by omega]; rfl] at h9; exact h9)
        · have c48 := bI_n0.mp c48
          have hdd := hdz (by omega)
          refine gB hC _ _ _ _ _ _ _ qX12_monthNights_51 rfl ?_
          refine g_cV1i hC dX12_monthNights_55 mX12_43 vX12_of (kX12_of hm7 (by omega) (by omega)) rfl hm7.1.1 (by decide) rfl (Nat.le_of_ble_eq_true rfl) (RR rfl rfl rfl rfl) (fun z i55 => ?_)
          refine gB hC _ _ _ _ _ _ _ qX12_monthNights_58 rfl ?_
          refine g_cS1i hC dX12_monthNights_61 mX12_66 sX12_dateOf (kX12_dateOf (by omega) (by omega)) rfl rfl (Nat.le_of_ble_eq_true rfl) (RR rfl rfl rfl rfl) (fun z i61 => ?_)
          refine gB hC _ _ _ _ _ _ _ qX12_monthNights_64 rfl ?_
          refine g_idiv hC dX12_monthNights_66 (by first | omega | exact bI_in _) (by first | omega | exact bI_in _) (by omega) (by omega) ?_
          refine gB hC _ _ _ _ _ _ _ qX12_monthNights_67 rfl ?_
          refine g_icmp_ne hC 75 dX12_monthNights_68 rfl (by first | omega | exact bI_in _) (by first | omega | exact bI_in _) (fun c68 => ?_) (fun c68 => ?_)
          · refine gB hC _ _ _ _ _ _ _ qX12_monthNights_75 rfl ?_
            refine gB hC _ _ _ _ _ _ _ qX12_monthNights_76 rfl ?_
            first
            | exact ih2 (i + 1, mm + 1) z ⟨by show ((i + 1 : Nat) : Int) ≤ _; omega, Or.inr (by omega), by show mm + 1 = mnT N month n + mnI N month n (i + 1); rw [mnI, if_pos (by omega)]; omega⟩ (by show (_ - ((i + 1 : Nat) : Int)).toNat < (_ - (i : Int)).toNat; omega)
            | exact ih2 (i + 1, mm + 0) z ⟨by show ((i + 1 : Nat) : Int) ≤ _; omega, Or.inr (by omega), by show mm + 0 = mnT N month n + mnI N month n (i + 1); rw [mnI, if_neg (by omega)]; omega⟩ (by show (_ - ((i + 1 : Nat) : Int)).toNat < (_ - (i : Int)).toNat; omega)
          · refine gB hC _ _ _ _ _ _ _ qX12_monthNights_71 rfl ?_
            refine gB hC _ _ _ _ _ _ _ qX12_monthNights_76 rfl ?_
            first
            | exact ih2 (i + 1, mm + 1) z ⟨by show ((i + 1 : Nat) : Int) ≤ _; omega, Or.inr (by omega), by show mm + 1 = mnT N month n + mnI N month n (i + 1); rw [mnI, if_pos (by omega)]; omega⟩ (by show (_ - ((i + 1 : Nat) : Int)).toNat < (_ - (i : Int)).toNat; omega)
            | exact ih2 (i + 1, mm + 0) z ⟨by show ((i + 1 : Nat) : Int) ≤ _; omega, Or.inr (by omega), by show mm + 0 = mnT N month n + mnI N month n (i + 1); rw [mnI, if_neg (by omega)]; omega⟩ (by show (_ - ((i + 1 : Nat) : Int)).toNat < (_ - (i : Int)).toNat; omega)
  · have cF := bI_0.mp c10
    refine gB hC _ _ _ _ _ _ _ qX12_monthNights_13 rfl ?_
    refine g_ireturn hC dX12_monthNights_14 hr ⟨?_, rfl, ?_, ?_⟩ gs_rfl ⟨Nat.le_of_ble_eq_true rfl, Nat.le_of_ble_eq_true rfl⟩
    · rw [if_neg cF]
    · exact e7
    · rw [if_neg cF]; decide

theorem kX12_monthIncome {E l Sh V z} {b : Int} {N : gN0} {month : Int} (hm : gMd b N Sh V) (hI : INV N) (h1 : inI month) : gM E l yX12_monthIncome (.code yX12_monthIncome cX12_monthIncome 6 (some .long)) (rmk 8 0 0 200) [(2, b), (0, month)] Sh V z (gRl (if (fitC (bI ((2000 ≤ month / 100 ∧ month / 100 ≤ 2099) ∧ 1 ≤ month % 100 ∧ month % 100 ≤ 12)) 1 1) = 0 then miT N month (N 5).toNat else 0) Sh (up V b 3 (fitC (bI ((2000 ≤ month / 100 ∧ month / 100 ≤ 2099) ∧ 1 ≤ month % 100 ∧ month % 100 ≤ 12)) 1 1))) := by
  refine gM_at (L0 := [(2, b), (0, month), (9, 0), (9, 0), (9, 0), (9, 0)]) rfl rfl rfl ?_
  intro p e s m args below meth c hC hr hex hnm hz
  have hsc := hI.1.1
  unfold iScal at hsc
  refine gB hC _ _ _ _ _ _ _ qX12_monthIncome_0 rfl ?_
  refine g_cS1 hC dX12_monthIncome_2 mX12_205 sX12_isMonth (kX12_isMonth (by omega)) rfl rfl (Nat.le_of_ble_eq_true rfl) (RR rfl rfl rfl rfl) (fun z => ?_)
  refine gB hC _ _ _ _ _ _ _ qX12_monthIncome_5 rfl ?_
  refine g_cV1m hC dX12_monthIncome_7 mX12_111 vX12_fits (kX12_fitsC (C := (fitC (bI ((2000 ≤ month / 100 ∧ month / 100 ≤ 2099) ∧ 1 ≤ month % 100 ∧ month % 100 ≤ 12)) 1 1)) hm (by first | omega | exact bI_in _) (by first | omega | exact bI_in _) (by first | omega | exact bI_in _) (fit_eq (by first | rfl | exact (bI_t (by omega)).symm | exact (bI_f (by omega)).symm) (by first | rfl | exact (bI_t (by omega)).symm | exact (bI_f (by omega)).symm) (by first | rfl | exact (bI_t (by omega)).symm | exact (bI_f (by omega)).symm))) rfl hm.1.1 (by decide) rfl (Nat.le_of_ble_eq_true rfl) (RR rfl rfl rfl rfl) (fun z V7 e7 => ?_)
  have hm7 := gMd_o hm e7 (Or.inr ⟨rfl, by decide⟩)
  have h27 : V7 b 2 = V b 2 := by rw [e7, up_ne _ _ (Or.inr (by decide))]
  refine g_if_ne hC 15 dX12_monthIncome_10 rfl (by first | omega | exact bI_in _) (fun c10 => ?_) (fun c10 => ?_)
  · have cF := bI_n0.mp c10
    have hp1 := fit_p1 cF
    refine gB hC _ _ _ _ _ _ _ qX12_monthIncome_15 rfl ?_
    refine g_loop (fun x : Nat × aV => (x.1 : Int) ≤ N 5) (fun x => (N 5 - (x.1 : Int)).toNat) 20 (fun x => [(2, b), (0, month), (1, miT N month x.1), (9, 0), (0, (x.1 : Int)), x.2]) (fun _ => V7) (0, (9, 0)) (by show (0 : Int) ≤ N 5; omega) ?_
    rintro ⟨n, a4⟩ z hn ih
    dsimp only at hn ih ⊢
    refine gB hC _ _ _ _ _ _ _ qX12_monthIncome_20 rfl ?_
    refine g_getr hC dX12_monthIncome_23 fX12_9 hm7.1.1 (by decide) rfl 0 rfl hm7.2.1.1 ?_
    refine gB hC _ _ _ _ _ _ _ qX12_monthIncome_26 rfl ?_
    refine g_iald hC dX12_monthIncome_27 hm7.1.2.1 (gMd_at hm7 _) (by omega) (by omega) (by decide) (fun i27 => ?_)
    refine g_icmp_ge hC 106 dX12_monthIncome_28 rfl (by first | omega | exact bI_in _) (by first | omega | exact bI_in _) (fun c28 => ?_) (fun c28 => ?_)
    · obtain rfl : n = (N 5).toNat := by omega
      have hmt := miT_in hI.1 month (N 5).toNat (by omega)
      refine gB hC _ _ _ _ _ _ _ qX12_monthIncome_106 rfl ?_
      refine g_lreturn hC dX12_monthIncome_107 hr ⟨?_, rfl, ?_, ?_⟩ gs_rfl ⟨Nat.le_of_ble_eq_true rfl, Nat.le_of_ble_eq_true rfl⟩
      · rw [if_pos cF]
      · exact e7
      · rw [if_pos cF]
        omega
    · refine gB hC _ _ _ _ _ _ _ qX12_monthIncome_31 rfl ?_
      have hs := hI.1.2.2.2.1 n (by omega) (by omega)
      have hs1 := hs.1
      refine g_loop (fun x : Nat × Int => (x.1 : Int) ≤ sF N n 3 ∧ (x.1 = 0 ∨ sF N n 0 = 1 ∨ sF N n 0 = 4) ∧ x.2 = miT N month n + miI N month n x.1) (fun x => (sF N n 3 - (x.1 : Int)).toNat) 34 (fun x => [(2, b), (0, month), (1, x.2), (9, 0), (0, (n : Int)), (0, (x.1 : Int))]) (fun _ => V7) (0, miT N month n) ⟨by show (0 : Int) ≤ _; omega, Or.inl rfl, (Int.add_zero _).symm⟩ ?_
      rintro ⟨i, mm⟩ z ⟨hi, hso, hmm⟩ ih2
      dsimp only at hi hso hmm ih2 ⊢
      have hdz : (i : Int) < sF N n 3 → 20000101 ≤ dateZ (sF N n 2 + i) ∧ dateZ (sF N n 2 + i) ≤ 20991231 := fun q => by have := dateZ_in (d := sF N n 2 + i) (by omega) (by omega); omega
      refine gB hC _ _ _ _ _ _ _ qX12_monthIncome_34 rfl ?_
      refine g_cV1i hC dX12_monthIncome_40 mX12_43 vX12_of (kX12_of hm7 (by omega) (by omega)) rfl hm7.1.1 (by decide) rfl (Nat.le_of_ble_eq_true rfl) (RR rfl rfl rfl rfl) (fun z i40 => ?_)
      refine g_icmp_ge hC 100 dX12_monthIncome_43 rfl (by first | omega | exact bI_in _) (by first | omega | exact bI_in _) (fun c43 => ?_) (fun c43 => ?_)
      · refine gB hC _ _ _ _ _ _ _ qX12_monthIncome_100 rfl ?_
        have h9 := ih (n + 1, (0, (i : Int))) z (by show ((n + 1 : Nat) : Int) ≤ N 5; omega) (by show (N 5 - ((n + 1 : Nat) : Int)).toNat < (N 5 - (n : Int)).toNat; omega)
        first
        | (rw [show miT N month (n + 1) = mm by rw [miT, if_pos (by omega), show (sF N n 3).toNat = i by omega, hmm]] at h9; exact h9)
        | (rw [show miT N month (n + 1) = mm by rw [miT, if_neg (by omega), hmm, show i = 0 by omega]; rfl] at h9; exact h9)
      · refine gB hC _ _ _ _ _ _ _ qX12_monthIncome_46 rfl ?_
        refine g_cV1 hC dX12_monthIncome_49 mX12_208 vX12_isSold (kX12_isSold hm7 (by omega) (by omega)) rfl hm7.1.1 (by decide) rfl (Nat.le_of_ble_eq_true rfl) (RR rfl rfl rfl rfl) (fun z => ?_)
        refine g_if_eq hC 100 dX12_monthIncome_52 rfl (by first | omega | exact bI_in _) (fun c52 => ?_) (fun c52 => ?_)
        · have c52 := bI_0.mp c52
          refine gB hC _ _ _ _ _ _ _ qX12_monthIncome_100 rfl ?_
          have h9 := ih (n + 1, (0, (i : Int))) z (by show ((n + 1 : Nat) : Int) ≤ N 5; omega) (by show (N 5 - ((n + 1 : Nat) : Int)).toNat < (N 5 - (n : Int)).toNat; omega)
          first
          | (rw [show miT N month (n + 1) = mm by rw [miT, if_pos (by omega), show (sF N n 3).toNat = i by omega, hmm]] at h9; exact h9)
          | (rw [show miT N month (n + 1) = mm by rw [miT, if_neg (by omega), hmm, show i = 0 by omega]; rfl] at h9; exact h9)
        · have c52 := bI_n0.mp c52
          have hdd := hdz (by omega)
          refine gB hC _ _ _ _ _ _ _ qX12_monthIncome_55 rfl ?_
          refine g_cV1i hC dX12_monthIncome_60 mX12_43 vX12_of (kX12_of hm7 (by omega) (by omega)) rfl hm7.1.1 (by decide) rfl (Nat.le_of_ble_eq_true rfl) (RR rfl rfl rfl rfl) (fun z i60 => ?_)
          refine gB hC _ _ _ _ _ _ _ qX12_monthIncome_63 rfl ?_
          refine g_cS1i hC dX12_monthIncome_66 mX12_66 sX12_dateOf (kX12_dateOf (by omega) (by omega)) rfl rfl (Nat.le_of_ble_eq_true rfl) (RR rfl rfl rfl rfl) (fun z i66 => ?_)
          refine gB hC _ _ _ _ _ _ _ qX12_monthIncome_69 rfl ?_
          refine g_idiv hC dX12_monthIncome_71 (by first | omega | exact bI_in _) (by first | omega | exact bI_in _) (by omega) (by omega) ?_
          refine gB hC _ _ _ _ _ _ _ qX12_monthIncome_72 rfl ?_
          refine g_icmp_ne hC 91 dX12_monthIncome_73 rfl (by first | omega | exact bI_in _) (by first | omega | exact bI_in _) (fun c73 => ?_) (fun c73 => ?_)
          · refine gB hC _ _ _ _ _ _ _ qX12_monthIncome_91 rfl ?_
            refine gB hC _ _ _ _ _ _ _ qX12_monthIncome_92 rfl ?_
            first
            | exact ih2 (i + 1, mm + sF N n (10 + i)) z ⟨by show ((i + 1 : Nat) : Int) ≤ _; omega, Or.inr (by omega), by show mm + sF N n (10 + i) = miT N month n + miI N month n (i + 1); rw [miI, if_pos (by omega)]; omega⟩ (by show (_ - ((i + 1 : Nat) : Int)).toNat < (_ - (i : Int)).toNat; omega)
            | exact ih2 (i + 1, mm + 0) z ⟨by show ((i + 1 : Nat) : Int) ≤ _; omega, Or.inr (by omega), by show mm + 0 = miT N month n + miI N month n (i + 1); rw [miI, if_neg (by omega)]; omega⟩ (by show (_ - ((i + 1 : Nat) : Int)).toNat < (_ - (i : Int)).toNat; omega)
          · refine gB hC _ _ _ _ _ _ _ qX12_monthIncome_76 rfl ?_
            refine g_cV1i hC dX12_monthIncome_84 mX12_43 vX12_of (kX12_of hm7 (by omega) (by omega)) rfl hm7.1.1 (by decide) rfl (Nat.le_of_ble_eq_true rfl) (RR rfl rfl rfl rfl) (fun z i84 => ?_)
            refine g_i2l hC dX12_monthIncome_87 (by first | omega | exact bI_in _) ?_
            refine gB hC _ _ _ _ _ _ _ qX12_monthIncome_88 rfl ?_
            refine gB hC _ _ _ _ _ _ _ qX12_monthIncome_92 rfl ?_
            first
            | exact ih2 (i + 1, mm + sF N n (10 + i)) z ⟨by show ((i + 1 : Nat) : Int) ≤ _; omega, Or.inr (by omega), by show mm + sF N n (10 + i) = miT N month n + miI N month n (i + 1); rw [miI, if_pos (by omega)]; omega⟩ (by show (_ - ((i + 1 : Nat) : Int)).toNat < (_ - (i : Int)).toNat; omega)
            | exact ih2 (i + 1, mm + 0) z ⟨by show ((i + 1 : Nat) : Int) ≤ _; omega, Or.inr (by omega), by show mm + 0 = miT N month n + miI N month n (i + 1); rw [miI, if_neg (by omega)]; omega⟩ (by show (_ - ((i + 1 : Nat) : Int)).toNat < (_ - (i : Int)).toNat; omega)
  · have cF := bI_0.mp c10
    refine gB hC _ _ _ _ _ _ _ qX12_monthIncome_13 rfl ?_
    refine g_lreturn hC dX12_monthIncome_14 hr ⟨?_, rfl, ?_, ?_⟩ gs_rfl ⟨Nat.le_of_ble_eq_true rfl, Nat.le_of_ble_eq_true rfl⟩
    · rw [if_neg cF]; rfl
    · exact e7
    · rw [if_neg cF]; exact ⟨by decide, by decide⟩

theorem kX12_checksum {E l Sh V z} {b : Int} {N : gN0} (hm : gMd b N Sh V) (hI : INV N) : gM E l yX12_checksum (.code yX12_checksum cX12_checksum 3 (some .int)) (rmk 3 0 0 80) [(2, b)] Sh V z (gRi (wI (31 * ckZ N (N 5).toNat + dateZ (N 0))) Sh (up V b 3 0)) := by
  refine gM_at (L0 := [(2, b), (9, 0), (9, 0)]) rfl rfl rfl ?_
  intro p e s m args below meth c hC hr hex hnm hz
  have hsc := hI.1.1
  unfold iScal at hsc
  refine gB hC _ _ _ _ _ _ _ qX12_checksum_0 rfl ?_
  refine g_puti hC dX12_checksum_2 fX12_31 hm.1.1 (by decide) rfl (fun _ h => by cases h; rfl) 3 rfl (by first | omega | exact bI_in _) (fun V2 e2 => ?_)
  have hm2 := gMd_o hm e2 (Or.inr ⟨rfl, by decide⟩)
  refine gB hC _ _ _ _ _ _ _ qX12_checksum_5 rfl ?_
  refine g_loop (fun x : Nat => (x : Int) ≤ N 5) (fun x => (N 5 - (x : Int)).toNat) 10 (fun x => [(2, b), (0, ckZ N x), (0, (x : Int))]) (fun _ => V2) 0 (by show (0 : Int) ≤ N 5; omega) ?_
  rintro n z hn ih
  refine gB hC _ _ _ _ _ _ _ qX12_checksum_10 rfl ?_
  refine g_getr hC dX12_checksum_12 fX12_9 hm2.1.1 (by decide) rfl 0 rfl hm2.2.1.1 ?_
  refine gB hC _ _ _ _ _ _ _ qX12_checksum_15 rfl ?_
  refine g_iald hC dX12_checksum_16 hm2.1.2.1 (gMd_at hm2 _) (by omega) (by omega) (by decide) (fun i16 => ?_)
  refine g_icmp_ge hC 57 dX12_checksum_17 rfl (by first | omega | exact bI_in _) (by first | omega | exact bI_in _) (fun c17 => ?_) (fun c17 => ?_)
  · obtain rfl : n = (N 5).toNat := by omega
    refine gB hC _ _ _ _ _ _ _ qX12_checksum_57 rfl ?_
    refine g_getr hC dX12_checksum_62 fX12_9 hm2.1.1 (by decide) rfl 0 rfl hm2.2.1.1 ?_
    refine gB hC _ _ _ _ _ _ _ qX12_checksum_65 rfl ?_
    refine g_iald hC dX12_checksum_66 hm2.1.2.1 (gMd_at hm2 _) (by omega) (by omega) (by decide) (fun i66 => ?_)
    refine g_cS1i hC dX12_checksum_67 mX12_66 sX12_dateOf (kX12_dateOf (by omega) (by omega)) rfl rfl (Nat.le_of_ble_eq_true rfl) (RR rfl rfl rfl rfl) (fun z i67 => ?_)
    refine gB hC _ _ _ _ _ _ _ qX12_checksum_70 rfl ?_
    refine g_wrap1 ?_
    refine g_ireturn hC dX12_checksum_71 hr ⟨rfl, rfl, e2, i32_in _⟩ gs_rfl ⟨Nat.le_of_ble_eq_true rfl, Nat.le_of_ble_eq_true rfl⟩
  · have hsk := hI.1.2.2.2.1 n (by omega) (by omega)
    refine gB hC _ _ _ _ _ _ _ qX12_checksum_20 rfl ?_
    refine g_cV1i hC dX12_checksum_31 mX12_43 vX12_of (kX12_of hm2 (by omega) (by omega)) rfl hm2.1.1 (by decide) rfl (Nat.le_of_ble_eq_true rfl) (RR rfl rfl rfl rfl) (fun z i31 => ?_)
    refine gB hC _ _ _ _ _ _ _ qX12_checksum_34 rfl ?_
    refine g_cV1i hC dX12_checksum_38 mX12_146 vX12_price (kX12_price hm2 hsk (by omega) (by omega)) rfl hm2.1.1 (by decide) rfl (Nat.le_of_ble_eq_true rfl) (RR rfl rfl rfl rfl) (fun z i38 => ?_)
    refine gB hC _ _ _ _ _ _ _ qX12_checksum_41 rfl ?_
    refine g_cV1i hC dX12_checksum_46 mX12_43 vX12_of (kX12_of hm2 (by omega) (by omega)) rfl hm2.1.1 (by decide) rfl (Nat.le_of_ble_eq_true rfl) (RR rfl rfl rfl rfl) (fun z i46 => ?_)
    refine gB hC _ _ _ _ _ _ _ qX12_checksum_49 rfl ?_
    exact ih (n + 1) z (by show ((n + 1 : Nat) : Int) ≤ N 5; omega) (by show (N 5 - ((n + 1 : Nat) : Int)).toNat < (N 5 - (n : Int)).toNat; omega)
