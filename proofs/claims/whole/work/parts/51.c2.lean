/-! the class: checks (rows laid by wip/whole/c2.py) -/
/-- nothing, or an exception -/
def gRx (Q : Prop) (X : String) (Sh : gSh) (V : gV) : gPo := fun o Sh' V' _ => ((Q ∧ o = .inl none) ∨ (¬ Q ∧ o = .inr X)) ∧ Sh' = Sh ∧ V' = V

theorem kX11_checkIndex {E l Sh V z} {i0 n0 : Int} (h1 : inI i0) (h2 : inI n0) : gM E l yX11_checkIndex (.code yX11_checkIndex cX11_checkIndex 2 none) (rmk 6 1 6 110) [(0, i0), (0, n0)] Sh V z (gRx (0 ≤ i0 ∧ i0 < n0) gxI Sh V) := by
  refine gM_at (L0 := [(0, i0), (0, n0)]) rfl rfl rfl ?_
  intro p e s m args below meth c hC hr hex hnm hz
  refine gB hC _ _ _ _ _ _ _ qX11_checkIndex_0 rfl ?_
  refine g_if_lt hC 9 dX11_checkIndex_1 rfl (by first | omega | exact bI_in _) (fun c1 => ?_) (fun c1 => ?_)
  · refine g_thrI hC hex dX11_checkIndex_9 (by decide +kernel) (by decide +kernel) (by decide +kernel) (by decide +kernel) (fun _ => ?_) gs_rfl ⟨Nat.le_of_ble_eq_true rfl, Nat.le_of_ble_eq_true rfl, Nat.le_of_ble_eq_true rfl, Nat.le_of_ble_eq_true rfl⟩ ⟨Nat.le_of_ble_eq_true rfl, Nat.le_of_ble_eq_true rfl⟩
    exact ⟨Or.inr ⟨by omega, rfl⟩, rfl, rfl⟩
  · refine gB hC _ _ _ _ _ _ _ qX11_checkIndex_4 rfl ?_
    refine g_icmp_lt hC 20 dX11_checkIndex_6 rfl (by first | omega | exact bI_in _) (by first | omega | exact bI_in _) (fun c6 => ?_) (fun c6 => ?_)
    · refine g_return hC dX11_checkIndex_20 hr ⟨Or.inl ⟨by omega, rfl⟩, rfl, rfl⟩ gs_rfl ⟨Nat.le_of_ble_eq_true rfl, Nat.le_of_ble_eq_true rfl⟩
    · refine g_thrI hC hex dX11_checkIndex_9 (by decide +kernel) (by decide +kernel) (by decide +kernel) (by decide +kernel) (fun _ => ?_) gs_rfl ⟨Nat.le_of_ble_eq_true rfl, Nat.le_of_ble_eq_true rfl, Nat.le_of_ble_eq_true rfl, Nat.le_of_ble_eq_true rfl⟩ ⟨Nat.le_of_ble_eq_true rfl, Nat.le_of_ble_eq_true rfl⟩
      exact ⟨Or.inr ⟨by omega, rfl⟩, rfl, rfl⟩

theorem kX11_checkArgument {E l Sh V z} {x : Int} (h1 : inI x) : gM E l yX11_checkArgument (.code yX11_checkArgument cX11_checkArgument 1 none) (rmk 6 1 6 110) [(0, x)] Sh V z (gRx (x ≠ 0) gxA Sh V) := by
  refine gM_at (L0 := [(0, x)]) rfl rfl rfl ?_
  intro p e s m args below meth c hC hr hex hnm hz
  refine gB hC _ _ _ _ _ _ _ qX11_checkArgument_0 rfl ?_
  refine g_if_ne hC 15 dX11_checkArgument_1 rfl (by first | omega | exact bI_in _) (fun c1 => ?_) (fun c1 => ?_)
  · refine g_return hC dX11_checkArgument_15 hr ⟨Or.inl ⟨by omega, rfl⟩, rfl, rfl⟩ gs_rfl ⟨Nat.le_of_ble_eq_true rfl, Nat.le_of_ble_eq_true rfl⟩
  · refine g_thrA hC hex dX11_checkArgument_4 (by decide +kernel) (by decide +kernel) (by decide +kernel) (by decide +kernel) (fun _ => ?_) gs_rfl ⟨Nat.le_of_ble_eq_true rfl, Nat.le_of_ble_eq_true rfl, Nat.le_of_ble_eq_true rfl, Nat.le_of_ble_eq_true rfl⟩ ⟨Nat.le_of_ble_eq_true rfl, Nat.le_of_ble_eq_true rfl⟩
    exact ⟨Or.inr ⟨by omega, rfl⟩, rfl, rfl⟩

theorem kX11_checkState {E l Sh V z} {x : Int} (h1 : inI x) : gM E l yX11_checkState (.code yX11_checkState cX11_checkState 1 none) (rmk 6 1 6 110) [(0, x)] Sh V z (gRx (x ≠ 0) gxS Sh V) := by
  refine gM_at (L0 := [(0, x)]) rfl rfl rfl ?_
  intro p e s m args below meth c hC hr hex hnm hz
  refine gB hC _ _ _ _ _ _ _ qX11_checkState_0 rfl ?_
  refine g_if_ne hC 15 dX11_checkState_1 rfl (by first | omega | exact bI_in _) (fun c1 => ?_) (fun c1 => ?_)
  · refine g_return hC dX11_checkState_15 hr ⟨Or.inl ⟨by omega, rfl⟩, rfl, rfl⟩ gs_rfl ⟨Nat.le_of_ble_eq_true rfl, Nat.le_of_ble_eq_true rfl⟩
  · refine g_thrS hC hex dX11_checkState_4 (by decide +kernel) (by decide +kernel) (by decide +kernel) (by decide +kernel) (fun _ => ?_) gs_rfl ⟨Nat.le_of_ble_eq_true rfl, Nat.le_of_ble_eq_true rfl, Nat.le_of_ble_eq_true rfl, Nat.le_of_ble_eq_true rfl⟩ ⟨Nat.le_of_ble_eq_true rfl, Nat.le_of_ble_eq_true rfl⟩
    exact ⟨Or.inr ⟨by omega, rfl⟩, rfl, rfl⟩
