section GLW
variable {E : gE} {own : String} {nL : Nat} {p : Program} {l : Launch} {e : Env} {R : Room} {s : State} {m : MethodId} {args : Array Value} {below : List Frame} {meth : Method} {c : Code} {Q : State → Prop} {pc k n : Nat} {L st : List aV} {Sh : gSh} {V : gV} {z : Int} {cc : ByteArray}
theorem g_ldcw (hC : gC E own cc nL p l s m args meth c) {v : Int32} {index : Nat} (x : Int) (hw : Cond.constant own index v ∈ gws) (hv : v = Int32.ofInt x) (hd : decode cc pc = .ok (.ldc_w index, 3)) (kk : gG E nL p l e R s m args below meth c Q (pc + 3) L ((0, x) :: st) Sh V z k n) : gG E nL p l e R s m args below meth c Q pc L st Sh V z k n := by
  subst hv
  intro H locs ls h1 h2 h3 h4 h5
  exact lv_ldcw hC.1 hC.2.1 hC.2.2.2.1 (hC.2.2.2.2.1 _ hw) hd (kk H locs ls h1 h2 h3 h4 h5)
end GLW
/-- an int, or an exception -/
def gRy (Q : Prop) (r : Int) (X : String) (Sh : gSh) (V : gV) : gPo := fun o Sh' V' _ => ((Q ∧ o = .inl (some (0, r)) ∧ inI r) ∨ (¬ Q ∧ o = .inr X)) ∧ Sh' = Sh ∧ V' = V

theorem kX11_checkedDay {E l Sh V z} {d : Int} (h1 : inI d) : gM E l yX11_checkedDay (.code yX11_checkedDay cX11_checkedDay 2 (some .int)) (rmk 7 1 6 140) [(0, d)] Sh V z (gRy (dayZ d ≠ -1) (dayZ d) gxA Sh V) := by
  refine gM_at (L0 := [(0, d), (9, 0)]) rfl rfl rfl ?_
  intro p e s m args below meth c hC hr hex hnm hz
  have hdz := dayZ_in d
  refine gB hC _ _ _ _ _ _ _ qX11_checkedDay_0 rfl ?_
  refine g_cS1i hC dX11_checkedDay_1 mX11_325 sX0_of (kX0_of (by omega)) rfl rfl (Nat.le_of_ble_eq_true rfl) (RR rfl rfl rfl rfl) (fun z i1 => ?_)
  refine gB hC _ _ _ _ _ _ _ qX11_checkedDay_4 rfl ?_
  refine g_icmp_eq hC 14 dX11_checkedDay_7 rfl (by first | omega | exact bI_in _) (by first | omega | exact bI_in _) (fun c7 => ?_) (fun c7 => ?_)
  · refine gB hC _ _ _ _ _ _ _ qX11_checkedDay_14 rfl ?_
    refine g_chkS hC dX11_checkedDay_15 mX11_82 sX11_checkArgument (kX11_checkArgument (by omega)) rfl rfl (Nat.le_of_ble_eq_true rfl) (RR rfl rfl rfl rfl) (fun z q15 => ?_) (fun z q15 => g_out hC hex ⟨Or.inr ⟨by omega, rfl⟩, rfl, rfl⟩ gs_rfl ⟨Nat.le_of_ble_eq_true rfl, Nat.le_of_ble_eq_true rfl⟩)
    refine gB hC _ _ _ _ _ _ _ qX11_checkedDay_18 rfl ?_
    refine g_ireturn hC dX11_checkedDay_19 hr ⟨Or.inl ⟨by omega, rfl, by omega⟩, rfl, rfl⟩ gs_rfl ⟨Nat.le_of_ble_eq_true rfl, Nat.le_of_ble_eq_true rfl⟩
  · refine gB hC _ _ _ _ _ _ _ qX11_checkedDay_10 rfl ?_
    refine g_chkS hC dX11_checkedDay_15 mX11_82 sX11_checkArgument (kX11_checkArgument (by omega)) rfl rfl (Nat.le_of_ble_eq_true rfl) (RR rfl rfl rfl rfl) (fun z q15 => ?_) (fun z q15 => g_out hC hex ⟨Or.inr ⟨by omega, rfl⟩, rfl, rfl⟩ gs_rfl ⟨Nat.le_of_ble_eq_true rfl, Nat.le_of_ble_eq_true rfl⟩)
    refine gB hC _ _ _ _ _ _ _ qX11_checkedDay_18 rfl ?_
    refine g_ireturn hC dX11_checkedDay_19 hr ⟨Or.inl ⟨by omega, rfl, by omega⟩, rfl, rfl⟩ gs_rfl ⟨Nat.le_of_ble_eq_true rfl, Nat.le_of_ble_eq_true rfl⟩

theorem kX11_halfOf {E l Sh V z} {x : Int} (h1 : 0 ≤ x) (h2 : x ≤ 2000000000) : gM E l yX11_halfOf (.code yX11_halfOf cX11_halfOf 1 (some .int)) (rmk 0 0 0 0) [(0, x)] Sh V z (gRi ((x + 1) / 2) Sh V) := by
  refine gM_at (L0 := [(0, x)]) rfl rfl rfl ?_
  intro p e s m args below meth c hC hr hex hnm hz
  refine gB hC _ _ _ _ _ _ _ qX11_halfOf_0 rfl ?_
  refine g_idiv hC dX11_halfOf_4 (by first | omega | exact bI_in _) (by first | omega | exact bI_in _) (by omega) (by omega) ?_
  refine g_ireturn hC dX11_halfOf_5 hr ⟨rfl, rfl, rfl, by omega⟩ gs_rfl ⟨Nat.le_of_ble_eq_true rfl, Nat.le_of_ble_eq_true rfl⟩

theorem kX11_percentOf {E l Sh V z} {a9 q9 : Int} (h0 : 0 ≤ a9) (h1 : a9 ≤ 100000000) (h2 : 0 ≤ q9) (h3 : q9 ≤ 4000) (h4 : (a9 * q9 + 50) / 100 ≤ 2147483647) : gM E l yX11_percentOf (.code yX11_percentOf cX11_percentOf 2 (some .int)) (rmk 0 0 0 0) [(0, a9), (0, q9)] Sh V z (gRi ((a9 * q9 + 50) / 100) Sh V) := by
  refine gM_at (L0 := [(0, a9), (0, q9)]) rfl rfl rfl ?_
  intro p e s m args below meth c hC hr hex hnm hz
  have hml := mul_in (a := a9) (b := q9) (A := 100000000) (B := 4000) h0 h1 h2 h3
  refine gB hC _ _ _ _ _ _ _ qX11_percentOf_0 rfl ?_
  refine g_i2l hC dX11_percentOf_1 (by first | omega | exact bI_in _) ?_
  refine gB hC _ _ _ _ _ _ _ qX11_percentOf_2 rfl ?_
  refine g_i2l hC dX11_percentOf_3 (by first | omega | exact bI_in _) ?_
  refine gB hC _ _ _ _ _ _ _ qX11_percentOf_4 rfl ?_
  refine g_ldc2 hC 50 kX11_362 rfl dX11_percentOf_5 ?_
  refine gB hC _ _ _ _ _ _ _ qX11_percentOf_8 rfl ?_
  refine g_ldc2 hC 100 kX11_364 rfl dX11_percentOf_9 ?_
  refine g_ldiv hC dX11_percentOf_12 (by first | omega | exact bI_in _) (by first | omega | exact bI_in _) (by omega) (by omega) ?_
  refine gB hC _ _ _ _ _ _ _ qX11_percentOf_13 rfl ?_
  refine g_ireturn hC dX11_percentOf_14 hr ⟨rfl, rfl, rfl, by omega⟩ gs_rfl ⟨Nat.le_of_ble_eq_true rfl, Nat.le_of_ble_eq_true rfl⟩

