/-! the class: checks (rows laid by wip/whole/c2.py) -/
/-- nothing, or an exception -/
def gRx (Q : Prop) (X : String) (Sh : gSh) (V : gV) : gPo := fun o Sh' V' _ => ((Q ∧ o = .inl none) ∨ (¬ Q ∧ o = .inr X)) ∧ Sh' = Sh ∧ V' = V
section GCK
variable {E : gE} {own : String} {nL : Nat} {p : Program} {l : Launch} {e : Env} {R : Room} {s : State} {m : MethodId} {args : Array Value} {below : List Frame} {meth : Method} {c : Code} {Q : State → Prop} {pc k n : Nat} {L : List aV} {Sh : gSh} {V : gV} {z : Int} {cc : ByteArray} {rm : Room}
theorem g_chkS (hC : gC E own cc nL p l s m args meth c) {y : MethodName} {bytes : ByteArray} {maxL na idx : Nat} {ret : Option FieldType} {as rest : List aV} {st0 : List aV} {QQ : Prop} {X : String} (hd : decode cc pc = .ok (.invokestatic idx, 3)) (hl : Cond.methodLink own idx y ∈ gws) (hY : gYS y bytes maxL ret na)
    (hM : gM E l y (Cond.code y bytes maxL ret) rm as Sh V z (gRx QQ X Sh V)) (hst : st0 = as.reverse ++ rest) (hna : as.length = na) (hW : catS rest ≤ 8) (hR : (rm.frames + 1 ≤ R.frames ∧ 8 + (maxL + 11) + rm.locals ≤ R.locals) ∧ (k + rm.cells ≤ R.cells ∧ n + rm.slots ≤ R.slots))
    (kk : ∀ z', QQ → gG E nL p l e R s m args below meth c Q (pc + 3) L rest Sh V z' (k + rm.cells) (n + rm.slots)) (kx : ∀ z', ¬ QQ → gT E nL p l e R s m args below meth c Q X pc L rest Sh V z' (k + rm.cells) (n + rm.slots)) : gG E nL p l e R s m args below meth c Q pc L st0 Sh V z k n :=
  g_callS hC st0 hd hl hY hM hst hna hW hR (fun r0 Sh' V' z' h => by
    obtain ⟨h1, rfl, rfl⟩ := h
    rcases h1 with ⟨hq, ho⟩ | ⟨_, ho⟩
    · cases ho; exact kk z' hq
    · cases ho) (fun X' Sh' V' z' h => by
    obtain ⟨h1, rfl, rfl⟩ := h
    rcases h1 with ⟨_, ho⟩ | ⟨hq, ho⟩
    · cases ho
    · cases ho; exact kx z' hq)
end GCK
theorem kX11_checkIndex {E l Sh V z} {i0 n0 : Int} (h1 : inI i0) (h2 : inI n0) : gM E l yX11_checkIndex (.code yX11_checkIndex cX11_checkIndex 2 none) (rmk 6 1 6 110) [(0, i0), (0, n0)] Sh V z (gRx (0 ≤ i0 ∧ i0 < n0) gxI Sh V) := by
  refine gM_at (L0 := [(0, i0), (0, n0)]) rfl rfl rfl ?_
  intro p e s m args below meth c hC hr hex hnm hz
  refine gB hC _ _ _ _ _ _ _ qX11_checkIndex_0 rfl ?_
  refine g_if_lt hC 9 dX11_checkIndex_1 rfl (by first | omega | exact bI_in _) (fun c1 => ?_) (fun c1 => ?_)
  · refine g_thrI hC hex dX11_checkIndex_9 (by decide +kernel) (by decide +kernel) (by decide +kernel) (by decide +kernel) (fun _ => ?_) gs_rfl ⟨Nat.le_of_ble_eq_true rfl, Nat.le_of_ble_eq_true rfl, Nat.le_of_ble_eq_true rfl, Nat.le_of_ble_eq_true rfl⟩ ⟨Nat.le_of_ble_eq_true rfl, Nat.le_of_ble_eq_true rfl⟩
    exact ⟨Or.inr ⟨by omega, rfl⟩, rfl, rfl⟩
  · refine gB hC _ _ _ _ _ _ _ qX11_checkIndex_4 rfl ?_
    refine g_icmp_lt hC 20 dX11_checkIndex_6 rfl (by first | omega | exact bI_in _) (by first | omega | exact bI_in _) (fun c6 => ?_) (fun c6 => ?_)
    · refine g_return hC dX11_checkIndex_20 hr ⟨Or.inl ⟨by omega, rfl⟩, rfl, rfl⟩ gs_rfl ⟨Nat.le_of_ble_eq_true rfl, Nat.le_of_ble_eq_true rfl⟩
    · refine g_thrI hC hex dX11_checkIndex_9 (by decide +kernel) (by decide +kernel) (by decide +kernel) (by decide +kernel) (fun _ => ?_) gs_rfl ⟨Nat.le_of_ble_eq_true rfl, Nat.le_of_ble_eq_true rfl, Nat.le_of_ble_eq_true rfl, Nat.le_of_ble_eq_true rfl⟩ ⟨Nat.le_of_ble_eq_true rfl, Nat.le_of_ble_eq_true rfl⟩
      exact ⟨Or.inr ⟨by omega, rfl⟩, rfl, rfl⟩

theorem kX11_checkArgument {E l Sh V z} {x : Int} (h1 : inI x) : gM E l yX11_checkArgument (.code yX11_checkArgument cX11_checkArgument 1 none) (rmk 6 1 6 110) [(0, x)] Sh V z (gRx (x ≠ 0) gxA Sh V) := by
  refine gM_at (L0 := [(0, x)]) rfl rfl rfl ?_
  intro p e s m args below meth c hC hr hex hnm hz
  refine gB hC _ _ _ _ _ _ _ qX11_checkArgument_0 rfl ?_
  refine g_if_ne hC 15 dX11_checkArgument_1 rfl (by first | omega | exact bI_in _) (fun c1 => ?_) (fun c1 => ?_)
  · refine g_return hC dX11_checkArgument_15 hr ⟨Or.inl ⟨by omega, rfl⟩, rfl, rfl⟩ gs_rfl ⟨Nat.le_of_ble_eq_true rfl, Nat.le_of_ble_eq_true rfl⟩
  · refine g_thrA hC hex dX11_checkArgument_4 (by decide +kernel) (by decide +kernel) (by decide +kernel) (by decide +kernel) (fun _ => ?_) gs_rfl ⟨Nat.le_of_ble_eq_true rfl, Nat.le_of_ble_eq_true rfl, Nat.le_of_ble_eq_true rfl, Nat.le_of_ble_eq_true rfl⟩ ⟨Nat.le_of_ble_eq_true rfl, Nat.le_of_ble_eq_true rfl⟩
    exact ⟨Or.inr ⟨by omega, rfl⟩, rfl, rfl⟩

theorem kX11_checkState {E l Sh V z} {x : Int} (h1 : inI x) : gM E l yX11_checkState (.code yX11_checkState cX11_checkState 1 none) (rmk 6 1 6 110) [(0, x)] Sh V z (gRx (x ≠ 0) gxS Sh V) := by
  refine gM_at (L0 := [(0, x)]) rfl rfl rfl ?_
  intro p e s m args below meth c hC hr hex hnm hz
  refine gB hC _ _ _ _ _ _ _ qX11_checkState_0 rfl ?_
  refine g_if_ne hC 15 dX11_checkState_1 rfl (by first | omega | exact bI_in _) (fun c1 => ?_) (fun c1 => ?_)
  · refine g_return hC dX11_checkState_15 hr ⟨Or.inl ⟨by omega, rfl⟩, rfl, rfl⟩ gs_rfl ⟨Nat.le_of_ble_eq_true rfl, Nat.le_of_ble_eq_true rfl⟩
  · refine g_thrS hC hex dX11_checkState_4 (by decide +kernel) (by decide +kernel) (by decide +kernel) (by decide +kernel) (fun _ => ?_) gs_rfl ⟨Nat.le_of_ble_eq_true rfl, Nat.le_of_ble_eq_true rfl, Nat.le_of_ble_eq_true rfl, Nat.le_of_ble_eq_true rfl⟩ ⟨Nat.le_of_ble_eq_true rfl, Nat.le_of_ble_eq_true rfl⟩
    exact ⟨Or.inr ⟨by omega, rfl⟩, rfl, rfl⟩

theorem kX11_checkWithin {E l Sh V z} {x lo hi : Int} (h1 : inI x) (h2 : inI lo) (h3 : inI hi) : gM E l yX11_checkWithin (.code yX11_checkWithin cX11_checkWithin 3 none) (rmk 7 1 6 140) [(0, x), (0, lo), (0, hi)] Sh V z (gRx (lo ≤ x ∧ x ≤ hi) gxA Sh V) := by
  refine gM_at (L0 := [(0, x), (0, lo), (0, hi)]) rfl rfl rfl ?_
  intro p e s m args below meth c hC hr hex hnm hz
  refine gB hC _ _ _ _ _ _ _ qX11_checkWithin_0 rfl ?_
  refine g_icmp_gt hC 14 dX11_checkWithin_2 rfl (by first | omega | exact bI_in _) (by first | omega | exact bI_in _) (fun c2 => ?_) (fun c2 => ?_)
  · refine gB hC _ _ _ _ _ _ _ qX11_checkWithin_14 rfl ?_
    refine g_chkS hC dX11_checkWithin_15 mX11_82 sX11_checkArgument (kX11_checkArgument (by omega)) rfl rfl (Nat.le_of_ble_eq_true rfl) (RR rfl rfl rfl rfl) (fun z q15 => ?_) (fun z q15 => g_out hC hex ⟨Or.inr ⟨by omega, rfl⟩, rfl, rfl⟩ gs_rfl ⟨Nat.le_of_ble_eq_true rfl, Nat.le_of_ble_eq_true rfl⟩)
    refine g_return hC dX11_checkWithin_18 hr ⟨Or.inl ⟨by omega, rfl⟩, rfl, rfl⟩ gs_rfl ⟨Nat.le_of_ble_eq_true rfl, Nat.le_of_ble_eq_true rfl⟩
  · refine gB hC _ _ _ _ _ _ _ qX11_checkWithin_5 rfl ?_
    refine g_icmp_gt hC 14 dX11_checkWithin_7 rfl (by first | omega | exact bI_in _) (by first | omega | exact bI_in _) (fun c7 => ?_) (fun c7 => ?_)
    · refine gB hC _ _ _ _ _ _ _ qX11_checkWithin_14 rfl ?_
      refine g_chkS hC dX11_checkWithin_15 mX11_82 sX11_checkArgument (kX11_checkArgument (by omega)) rfl rfl (Nat.le_of_ble_eq_true rfl) (RR rfl rfl rfl rfl) (fun z q15 => ?_) (fun z q15 => g_out hC hex ⟨Or.inr ⟨by omega, rfl⟩, rfl, rfl⟩ gs_rfl ⟨Nat.le_of_ble_eq_true rfl, Nat.le_of_ble_eq_true rfl⟩)
      refine g_return hC dX11_checkWithin_18 hr ⟨Or.inl ⟨by omega, rfl⟩, rfl, rfl⟩ gs_rfl ⟨Nat.le_of_ble_eq_true rfl, Nat.le_of_ble_eq_true rfl⟩
    · refine gB hC _ _ _ _ _ _ _ qX11_checkWithin_10 rfl ?_
      refine g_chkS hC dX11_checkWithin_15 mX11_82 sX11_checkArgument (kX11_checkArgument (by omega)) rfl rfl (Nat.le_of_ble_eq_true rfl) (RR rfl rfl rfl rfl) (fun z q15 => ?_) (fun z q15 => g_out hC hex ⟨Or.inr ⟨by omega, rfl⟩, rfl, rfl⟩ gs_rfl ⟨Nat.le_of_ble_eq_true rfl, Nat.le_of_ble_eq_true rfl⟩)
      refine g_return hC dX11_checkWithin_18 hr ⟨Or.inl ⟨by omega, rfl⟩, rfl, rfl⟩ gs_rfl ⟨Nat.le_of_ble_eq_true rfl, Nat.le_of_ble_eq_true rfl⟩

