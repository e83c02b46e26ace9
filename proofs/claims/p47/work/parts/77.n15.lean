/-! the class: its checks (rows laid by wip/whole/n77.py) -/
/-- a reference, or an exception -/
def gRo (Q : Prop) (r : Int) (X : String) (Sh : gSh) (V : gV) : gPo := fun o Sh' V' _ => ((Q ∧ o = .inl (some (2, r))) ∨ (¬ Q ∧ o = .inr X)) ∧ Sh' = Sh ∧ V' = V
section GCY
variable {E : gE} {own : String} {nL : Nat} {p : Program} {l : Launch} {e : Env} {R : Room} {s : State} {m : MethodId} {args : Array Value} {below : List Frame} {meth : Method} {c : Code} {Q : State → Prop} {pc k n : Nat} {L : List aV} {Sh : gSh} {V : gV} {z : Int} {cc : ByteArray} {rm : Room}
theorem g_chkY (hC : gC E own cc nL p l s m args meth c) {y : MethodName} {bytes : ByteArray} {maxL na idx : Nat} {ret : Option FieldType} {as rest : List aV} {st0 : List aV} {QQ : Prop} {x : Int} {X : String} (hd : decode cc pc = .ok (.invokestatic idx, 3)) (hl : Cond.methodLink own idx y ∈ gws) (hY : gYS y bytes maxL ret na)
    (hM : gM E l y (Cond.code y bytes maxL ret) rm as Sh V z (gRy QQ x X Sh V)) (hst : st0 = as.reverse ++ rest) (hna : as.length = na) (hW : catS rest ≤ 8) (hR : (rm.frames + 1 ≤ R.frames ∧ 8 + (maxL + 11) + rm.locals ≤ R.locals) ∧ (k + rm.cells ≤ R.cells ∧ n + rm.slots ≤ R.slots))
    (kk : ∀ z', QQ → inI x → gG E nL p l e R s m args below meth c Q (pc + 3) L ((0, x) :: rest) Sh V z' (k + rm.cells) (n + rm.slots)) (kx : ∀ z', ¬ QQ → gT E nL p l e R s m args below meth c Q X pc L rest Sh V z' (k + rm.cells) (n + rm.slots)) : gG E nL p l e R s m args below meth c Q pc L st0 Sh V z k n :=
  g_callS hC st0 hd hl hY hM hst hna hW hR (fun r0 Sh' V' z' h => by
    obtain ⟨h1, rfl, rfl⟩ := h
    rcases h1 with ⟨hq, ho, hi⟩ | ⟨_, ho⟩
    · cases ho; exact kk z' hq hi
    · cases ho) (fun X' Sh' V' z' h => by
    obtain ⟨h1, rfl, rfl⟩ := h
    rcases h1 with ⟨_, ho, _⟩ | ⟨hq, ho⟩
    · cases ho
    · cases ho; exact kx z' hq)
theorem g_chkVY (hC : gC E own cc nL p l s m args meth c) {y : MethodName} {bytes : ByteArray} {maxL na ci idx : Nat} {ret : Option FieldType} {a : Int} {as rest : List aV} {st0 : List aV} {QQ : Prop} {x : Int} {X : String} (hd : decode cc pc = .ok (.invokevirtual idx, 3)) (hl : Cond.methodLink own idx y ∈ gws) (hY : gYV y bytes maxL ret na ci)
    (hM : gM E l y (Cond.code y bytes maxL ret) rm ((2, a) :: as) Sh V z (gRy QQ x X Sh V)) (hst : st0 = as.reverse ++ (2, a) :: rest) (hsh : Sh a = some (ci, 0)) (hci : ci < 100) (hna : as.length = na) (hW : catS rest ≤ 8) (hR : (rm.frames + 1 ≤ R.frames ∧ 8 + (maxL + 11) + rm.locals ≤ R.locals) ∧ (k + rm.cells ≤ R.cells ∧ n + rm.slots ≤ R.slots))
    (kk : ∀ z', QQ → inI x → gG E nL p l e R s m args below meth c Q (pc + 3) L ((0, x) :: rest) Sh V z' (k + rm.cells) (n + rm.slots)) (kx : ∀ z', ¬ QQ → gT E nL p l e R s m args below meth c Q X pc L rest Sh V z' (k + rm.cells) (n + rm.slots)) : gG E nL p l e R s m args below meth c Q pc L st0 Sh V z k n :=
  g_callV hC st0 hd hl hY hM hst hsh hci hna hW hR (fun r0 Sh' V' z' h => by
    obtain ⟨h1, rfl, rfl⟩ := h
    rcases h1 with ⟨hq, ho, hi⟩ | ⟨_, ho⟩
    · cases ho; exact kk z' hq hi
    · cases ho) (fun X' Sh' V' z' h => by
    obtain ⟨h1, rfl, rfl⟩ := h
    rcases h1 with ⟨_, ho, _⟩ | ⟨hq, ho⟩
    · cases ho
    · cases ho; exact kx z' hq)
theorem g_chkVo (hC : gC E own cc nL p l s m args meth c) {y : MethodName} {bytes : ByteArray} {maxL na ci idx : Nat} {ret : Option FieldType} {a : Int} {as rest : List aV} {st0 : List aV} {QQ : Prop} {x : Int} {X : String} (hd : decode cc pc = .ok (.invokevirtual idx, 3)) (hl : Cond.methodLink own idx y ∈ gws) (hY : gYV y bytes maxL ret na ci)
    (hM : gM E l y (Cond.code y bytes maxL ret) rm ((2, a) :: as) Sh V z (gRo QQ x X Sh V)) (hst : st0 = as.reverse ++ (2, a) :: rest) (hsh : Sh a = some (ci, 0)) (hci : ci < 100) (hna : as.length = na) (hW : catS rest ≤ 8) (hR : (rm.frames + 1 ≤ R.frames ∧ 8 + (maxL + 11) + rm.locals ≤ R.locals) ∧ (k + rm.cells ≤ R.cells ∧ n + rm.slots ≤ R.slots))
    (kk : ∀ z', QQ → gG E nL p l e R s m args below meth c Q (pc + 3) L ((2, x) :: rest) Sh V z' (k + rm.cells) (n + rm.slots)) (kx : ∀ z', ¬ QQ → gT E nL p l e R s m args below meth c Q X pc L rest Sh V z' (k + rm.cells) (n + rm.slots)) : gG E nL p l e R s m args below meth c Q pc L st0 Sh V z k n :=
  g_callV hC st0 hd hl hY hM hst hsh hci hna hW hR (fun r0 Sh' V' z' h => by
    obtain ⟨h1, rfl, rfl⟩ := h
    rcases h1 with ⟨hq, ho⟩ | ⟨_, ho⟩
    · cases ho; exact kk z' hq
    · cases ho) (fun X' Sh' V' z' h => by
    obtain ⟨h1, rfl, rfl⟩ := h
    rcases h1 with ⟨_, ho⟩ | ⟨hq, ho⟩
    · cases ho
    · cases ho; exact kx z' hq)
end GCY
/-- a new wish, or an exception -/
def gRw (x : Int) (C : Int) (k f n a ch : Int) (Sh : gSh) (V : gV) : gPo := fun o Sh' V' _ => (C = 0 ∧ ∃ w : Int, o = .inl (some (2, w)) ∧ Sh' = shp Sh w (9, 0) ∧ Sh w = none ∧ x + 1141 ≤ w ∧ (V' w 0 = k ∧ V' w 1 = f ∧ V' w 2 = n ∧ V' w 3 = a ∧ V' w 4 = ch) ∧ ∀ b, b ≠ w → V' b = V b) ∨ (Sh' = Sh ∧ V' = V ∧ ((C = 1 ∧ o = .inr gxI) ∨ (C = 2 ∧ o = .inr gxA)))

theorem kX11_checkedStay {E l Sh V z} {x9 cc9 s9 : Int} {N : gN0} {P9 : Int → gN0} (hx : XR x9 N P9 cc9 Sh V) (hI0 : INV N) (h1 : inI s9) : gM E l yX11_checkedStay (.code yX11_checkedStay cX11_checkedStay 2 (some (.object "HotelNights$Stay"))) (rmk 8 1 6 160) [(2, x9), (0, s9)] Sh V z (gRo (0 ≤ s9 ∧ s9 < N 5) (x9 + 1 + 6 + 2 * s9) gxI Sh V) := by
  refine gM_at (L0 := [(2, x9), (0, s9)]) rfl rfl rfl ?_
  intro p e s m args below meth c hC hr hex hnm hz
  have hI := hI0.1
  have hsc := hI.1
  unfold iScal at hsc
  refine gB hC _ _ _ _ _ _ _ qX11_checkedStay_0 rfl ?_
  refine g_getr hC dX11_checkedStay_2 fX11_10 hx.sX (by decide) rfl 0 rfl hx.p0 ?_
  refine g_getr hC dX11_checkedStay_5 fX11_106 hx.1.2.1.sH (by decide) rfl 11 rfl hx.rh.2.1.p11 ?_
  refine g_getiv hC dX11_checkedStay_8 fX11_110 hx.1.2.1.sT (by decide) rfl 1 rfl hx.rh.tS (fun i8 => ?_)
  refine g_chkS hC dX11_checkedStay_11 mX11_51 sX11_checkIndex (kX11_checkIndex (by omega) (by omega)) rfl rfl (Nat.le_of_ble_eq_true rfl) (RR rfl rfl rfl rfl) (fun z q11 => ?_) (fun z q11 => ?_)
  rotate_left
  · exact g_out hC hex ⟨Or.inr ⟨by omega, rfl⟩, rfl, rfl⟩ gs_rfl ⟨Nat.le_of_ble_eq_true rfl, Nat.le_of_ble_eq_true rfl⟩
  refine gB hC _ _ _ _ _ _ _ qX11_checkedStay_14 rfl ?_
  refine g_getr hC dX11_checkedStay_15 fX11_10 hx.sX (by decide) rfl 0 rfl hx.p0 ?_
  refine g_getr hC dX11_checkedStay_18 fX11_106 hx.1.2.1.sH (by decide) rfl 11 rfl hx.rh.2.1.p11 ?_
  refine g_getr hC dX11_checkedStay_21 fX11_328 hx.1.2.1.sT (by decide) rfl 0 rfl hx.rh.2.1.pR ?_
  refine gB hC _ _ _ _ _ _ _ qX11_checkedStay_24 rfl ?_
  refine g_aald hC (j := 6) dX11_checkedStay_25 hx.1.2.1.sR (by decide) (hx.rh.2.1.ps (by omega) (by omega)) (by omega) (by omega) (by decide) ?_
  refine g_areturn hC dX11_checkedStay_26 hr (Or.inl ⟨_, rfl⟩) ⟨Or.inl ⟨by omega, rfl⟩, rfl, rfl⟩ gs_rfl ⟨Nat.le_of_ble_eq_true rfl, Nat.le_of_ble_eq_true rfl⟩

theorem kX11_checkedTill {E l Sh V z} {x9 cc9 t9 w9 f9 : Int} {N : gN0} {P9 : Int → gN0} (hx : XR x9 N P9 cc9 Sh V) (hI0 : INV N) (w1 : Sh w9 = some (9, 0)) (e1 : V w9 1 = f9) (h1 : inI t9) (h2 : inI f9) : gM E l yX11_checkedTill (.code yX11_checkedTill cX11_checkedTill 4 (some .int)) (rmk 8 4 24 180) [(2, x9), (0, t9), (2, w9)] Sh V z (gRy (dayZ t9 ≠ -1 ∧ N 0 ≤ dayZ t9 ∧ dayZ t9 ≤ f9) (dayZ t9) gxA Sh V) := by
  refine gM_at (L0 := [(2, x9), (0, t9), (2, w9), (9, 0)]) rfl rfl rfl ?_
  intro p e s m args below meth c hC hr hex hnm hz
  have hI := hI0.1
  have hsc := hI.1
  unfold iScal at hsc
  refine gB hC _ _ _ _ _ _ _ qX11_checkedTill_0 rfl ?_
  refine g_chkY hC dX11_checkedTill_1 mX11_55 sX11_checkedDay (kX11_checkedDay (by omega)) rfl rfl (Nat.le_of_ble_eq_true rfl) (RR rfl rfl rfl rfl) (fun z q1 i1 => ?_) (fun z q1 => ?_)
  rotate_left
  · exact g_out hC hex ⟨Or.inr ⟨by omega, rfl⟩, rfl, rfl⟩ gs_rfl ⟨Nat.le_of_ble_eq_true rfl, Nat.le_of_ble_eq_true rfl⟩
  have hdz1 := dayZ_in t9
  refine gB hC _ _ _ _ _ _ _ qX11_checkedTill_4 rfl ?_
  refine g_getr hC dX11_checkedTill_7 fX11_10 hx.sX (by decide) rfl 0 rfl hx.p0 ?_
  refine g_getiv hC dX11_checkedTill_10 fX11_155 hx.1.2.1.sH (by decide) rfl 0 rfl hx.rh.t0 (fun i10 => ?_)
  refine gB hC _ _ _ _ _ _ _ qX11_checkedTill_13 rfl ?_
  refine g_getiv hC dX11_checkedTill_14 fX11_337 w1 (by decide) rfl 1 rfl e1 (fun i14 => ?_)
  refine g_chkS hC dX11_checkedTill_17 mX11_34 sX11_checkWithin (kX11_checkWithin (by omega) (by omega) (by omega)) rfl rfl (Nat.le_of_ble_eq_true rfl) (RR rfl rfl rfl rfl) (fun z q17 => ?_) (fun z q17 => ?_)
  rotate_left
  · exact g_out hC hex ⟨Or.inr ⟨by omega, rfl⟩, rfl, rfl⟩ gs_rfl ⟨Nat.le_of_ble_eq_true rfl, Nat.le_of_ble_eq_true rfl⟩
  refine gB hC _ _ _ _ _ _ _ qX11_checkedTill_20 rfl ?_
  refine g_ireturn hC dX11_checkedTill_21 hr ⟨Or.inl ⟨by omega, rfl, by omega⟩, rfl, rfl⟩ gs_rfl ⟨Nat.le_of_ble_eq_true rfl, Nat.le_of_ble_eq_true rfl⟩

theorem kX11_checkedWish {E l Sh V z} {x9 cc9 k9 f9 n9 ad ch : Int} {N : gN0} {P9 : Int → gN0} (hx : XR x9 N P9 cc9 Sh V) (hI0 : INV N) (h1 : inI k9) (h2 : inI f9) (h3 : inI n9) (h4 : inI ad) (h5 : inI ch) : gM E l yX11_checkedWish (.code yX11_checkedWish cX11_checkedWish 7 (some (.object "HotelNights$Wish"))) (rmk 8 20 200 180) [(2, x9), (0, k9), (0, f9), (0, n9), (0, ad), (0, ch)] Sh V z (gRw x9 (fitC (bI (0 ≤ k9 ∧ k9 ≤ N 1 - 1)) (bI (askC N f9 n9 ad ch)) 1) k9 (dayZ f9) n9 ad ch Sh V) := by
  refine gM_at (L0 := [(2, x9), (0, k9), (0, f9), (0, n9), (0, ad), (0, ch), (9, 0)]) rfl rfl rfl ?_
  intro p e s m args below meth c hC hr hex hnm hz
  have hI := hI0.1
  have hsc := hI.1
  unfold iScal at hsc
  refine gB hC _ _ _ _ _ _ _ qX11_checkedWish_0 rfl ?_
  refine g_getr hC dX11_checkedWish_2 fX11_10 hx.sX (by decide) rfl 0 rfl hx.p0 ?_
  refine g_getiv hC dX11_checkedWish_5 fX11_39 hx.1.2.1.sH (by decide) rfl 2 rfl hx.rh.t2 (fun i5 => ?_)
  refine g_chkS hC dX11_checkedWish_8 mX11_51 sX11_checkIndex (kX11_checkIndex (by omega) (by omega)) rfl rfl (Nat.le_of_ble_eq_true rfl) (RR rfl rfl rfl rfl) (fun z q8 => ?_) (fun z q8 => ?_)
  rotate_left
  · exact g_out hC hex (Or.inr ⟨rfl, rfl, (by first | exact Or.inl ⟨fl1 (fun h => by omega), rfl⟩ | exact Or.inr ⟨fl2 (by omega) (fun h => by omega), rfl⟩)⟩) gs_rfl ⟨Nat.le_of_ble_eq_true rfl, Nat.le_of_ble_eq_true rfl⟩
  refine gB hC _ _ _ _ _ _ _ qX11_checkedWish_11 rfl ?_
  refine g_chkY hC dX11_checkedWish_12 mX11_55 sX11_checkedDay (kX11_checkedDay (by omega)) rfl rfl (Nat.le_of_ble_eq_true rfl) (RR rfl rfl rfl rfl) (fun z q12 i12 => ?_) (fun z q12 => ?_)
  rotate_left
  · exact g_out hC hex (Or.inr ⟨rfl, rfl, (by first | exact Or.inl ⟨fl1 (fun h => by omega), rfl⟩ | exact Or.inr ⟨fl2 (by omega) (fun h => by omega), rfl⟩)⟩) gs_rfl ⟨Nat.le_of_ble_eq_true rfl, Nat.le_of_ble_eq_true rfl⟩
  have hdz12 := dayZ_in f9
  refine gB hC _ _ _ _ _ _ _ qX11_checkedWish_15 rfl ?_
  refine g_chkS hC dX11_checkedWish_21 mX11_34 sX11_checkWithin (kX11_checkWithin (by omega) (by omega) (by omega)) rfl rfl (Nat.le_of_ble_eq_true rfl) (RR rfl rfl rfl rfl) (fun z q21 => ?_) (fun z q21 => ?_)
  rotate_left
  · exact g_out hC hex (Or.inr ⟨rfl, rfl, (by first | exact Or.inl ⟨fl1 (fun h => by omega), rfl⟩ | exact Or.inr ⟨fl2 (by omega) (fun h => by omega), rfl⟩)⟩) gs_rfl ⟨Nat.le_of_ble_eq_true rfl, Nat.le_of_ble_eq_true rfl⟩
  refine gB hC _ _ _ _ _ _ _ qX11_checkedWish_24 rfl ?_
  refine g_chkS hC dX11_checkedWish_28 mX11_34 sX11_checkWithin (kX11_checkWithin (by omega) (by omega) (by omega)) rfl rfl (Nat.le_of_ble_eq_true rfl) (RR rfl rfl rfl rfl) (fun z q28 => ?_) (fun z q28 => ?_)
  rotate_left
  · exact g_out hC hex (Or.inr ⟨rfl, rfl, (by first | exact Or.inl ⟨fl1 (fun h => by omega), rfl⟩ | exact Or.inr ⟨fl2 (by omega) (fun h => by omega), rfl⟩)⟩) gs_rfl ⟨Nat.le_of_ble_eq_true rfl, Nat.le_of_ble_eq_true rfl⟩
  refine gB hC _ _ _ _ _ _ _ qX11_checkedWish_31 rfl ?_
  refine g_chkS hC dX11_checkedWish_35 mX11_34 sX11_checkWithin (kX11_checkWithin (by omega) (by omega) (by omega)) rfl rfl (Nat.le_of_ble_eq_true rfl) (RR rfl rfl rfl rfl) (fun z q35 => ?_) (fun z q35 => ?_)
  rotate_left
  · exact g_out hC hex (Or.inr ⟨rfl, rfl, (by first | exact Or.inl ⟨fl1 (fun h => by omega), rfl⟩ | exact Or.inr ⟨fl2 (by omega) (fun h => by omega), rfl⟩)⟩) gs_rfl ⟨Nat.le_of_ble_eq_true rfl, Nat.le_of_ble_eq_true rfl⟩
  refine gB hC _ _ _ _ _ _ _ qX11_checkedWish_38 rfl ?_
  refine g_getr hC dX11_checkedWish_41 fX11_10 hx.sX (by decide) rfl 0 rfl hx.p0 ?_
  refine g_getiv hC dX11_checkedWish_44 fX11_155 hx.1.2.1.sH (by decide) rfl 0 rfl hx.rh.t0 (fun i44 => ?_)
  refine g_icmp_lt hC 70 dX11_checkedWish_47 rfl (by first | omega | exact cmpZ_in _ _ | exact bI_in _) (by first | omega | exact cmpZ_in _ _ | exact bI_in _) (fun c47 => ?_) (fun c47 => ?_)
  · refine gB hC _ _ _ _ _ _ _ qX11_checkedWish_70 rfl ?_
    refine g_chkS hC dX11_checkedWish_71 mX11_82 sX11_checkArgument (kX11_checkArgument (by first | omega | exact bI_in _)) rfl rfl (Nat.le_of_ble_eq_true rfl) (RR rfl rfl rfl rfl) (fun z q71 => ?_) (fun z q71 => ?_)
    rotate_left
    · exact g_out hC hex (Or.inr ⟨rfl, rfl, (by first | exact Or.inl ⟨fl1 (fun h => by omega), rfl⟩ | exact Or.inr ⟨fl2 (by omega) (fun h => by omega), rfl⟩)⟩) gs_rfl ⟨Nat.le_of_ble_eq_true rfl, Nat.le_of_ble_eq_true rfl⟩
    exact absurd rfl q71
  · refine gB hC _ _ _ _ _ _ _ qX11_checkedWish_50 rfl ?_
    refine g_getr hC dX11_checkedWish_51 fX11_10 hx.sX (by decide) rfl 0 rfl hx.p0 ?_
    refine gB hC _ _ _ _ _ _ _ qX11_checkedWish_54 rfl ?_
    refine g_cV1 hC dX11_checkedWish_60 mX11_167 vX2_isLastNightInReach (kX2_isLastNightInReach hx.rh (by omega) (by omega) (by omega)) rfl hx.1.2.1.sH (by decide) rfl (Nat.le_of_ble_eq_true rfl) (RR rfl rfl rfl rfl) (fun z => ?_)
    refine g_if_eq hC 70 dX11_checkedWish_63 rfl (by first | omega | exact cmpZ_in _ _ | exact bI_in _) (fun c63 => ?_) (fun c63 => ?_)
    · have c63 := bI_0.mp c63
      refine gB hC _ _ _ _ _ _ _ qX11_checkedWish_70 rfl ?_
      refine g_chkS hC dX11_checkedWish_71 mX11_82 sX11_checkArgument (kX11_checkArgument (by first | omega | exact bI_in _)) rfl rfl (Nat.le_of_ble_eq_true rfl) (RR rfl rfl rfl rfl) (fun z q71 => ?_) (fun z q71 => ?_)
      rotate_left
      · exact g_out hC hex (Or.inr ⟨rfl, rfl, (by first | exact Or.inl ⟨fl1 (fun h => by omega), rfl⟩ | exact Or.inr ⟨fl2 (by omega) (fun h => by omega), rfl⟩)⟩) gs_rfl ⟨Nat.le_of_ble_eq_true rfl, Nat.le_of_ble_eq_true rfl⟩
      exact absurd rfl q71
    · have c63 := bI_n0.mp c63
      refine gB hC _ _ _ _ _ _ _ qX11_checkedWish_66 rfl ?_
      refine g_chkS hC dX11_checkedWish_71 mX11_82 sX11_checkArgument (kX11_checkArgument (by first | omega | exact bI_in _)) rfl rfl (Nat.le_of_ble_eq_true rfl) (RR rfl rfl rfl rfl) (fun z q71 => ?_) (fun z q71 => ?_)
      rotate_left
      · exact g_out hC hex (Or.inr ⟨rfl, rfl, (by first | exact Or.inl ⟨fl1 (fun h => by omega), rfl⟩ | exact Or.inr ⟨fl2 (by omega) (fun h => by omega), rfl⟩)⟩) gs_rfl ⟨Nat.le_of_ble_eq_true rfl, Nat.le_of_ble_eq_true rfl⟩
      have ha9 : askC N f9 n9 ad ch := by omega
      refine g_lts (fun hlt => ?_)
      have hzl := (hlt _ _ hx.sL).2
      have hzx := (hlt _ _ hx.sX).1
      refine g_new (ci := 9) hC dX11_checkedWish_74 lX11_332 nX10 zX10 (by decide) ⟨_, rfl, rfl, rfl⟩ ⟨Nat.le_of_ble_eq_true rfl, Nat.le_of_ble_eq_true rfl⟩ (fun hz74 => ?_)
      refine gB hC _ _ _ _ _ _ _ qX11_checkedWish_77 rfl ?_
      refine g_cI0m hC dX11_checkedWish_86 mX11_334 iX10_init (kX10_init (shp_eq _ _ _) (by omega) (by omega) (by omega) (by omega) (by omega) (by omega)) rfl (by omega) rfl (Nat.le_of_ble_eq_true rfl) (RR rfl rfl rfl rfl) (fun z V86 e86 => ?_)
      refine g_areturn hC dX11_checkedWish_89 hr (Or.inl ⟨_, rfl⟩) (Or.inl ⟨fk2 (by omega) ha9, _, rfl, rfl, hz74, by omega, ?_, fun b hb => ?_⟩) gs_rfl ⟨Nat.le_of_ble_eq_true rfl, Nat.le_of_ble_eq_true rfl⟩
      · rw [e86]
        refine ⟨?_, ?_, ?_, ?_, ?_⟩ <;> (rw [rwV_at (by decide) (by decide)]; rfl)
      · rw [e86, rwV_ne hb, vn_ne _ _ hb]

