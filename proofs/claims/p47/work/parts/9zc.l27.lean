/-! the law: its dice out of the script (rows laid by wip/p47/l27.py) -/
def gDi (a z : Int) (Sh : gSh) (V : gV) : gPo := fun o Sh' V' z' => o = .inl none ∧ Sh' = Sh ∧ (∀ b, b ≠ a → V' b = V b) ∧ z' = z

theorem kX12_init {E l Sh V z} {a9 : Int} (hs9 : Sh a9 = some (11, 0)) (h0 : 0 ≤ a9) : gM E l yX12_init (.code yX12_init cX12_init 6 none) (rmk 1 0 0 30) [(2, a9), (2, ((E.2.2 20 : Nat) : Int))] Sh V z (gDi a9 z Sh V) := by
  refine gM_at (L0 := [(2, a9), (2, ((E.2.2 20 : Nat) : Int)), (9, 0), (9, 0), (9, 0), (9, 0)]) rfl rfl rfl ?_
  intro p e s m args below meth c hC hr hex hnm hz
  obtain ⟨Ln, xs, ⟨hLn, hxi⟩, hts0⟩ := hC.2.2.2.2.2.2.2.2.1.2.2.2.2.2
  have hts9 : gTs E s Ln xs := hts0
  refine gB hC _ _ _ _ _ _ _ qX12_init_0 rfl ?_
  refine g_objInit hC dX12_init_1 mX12_1 gObjI gObjC (by omega) ⟨by decide, by decide⟩ ?_
  refine gB hC _ _ _ _ _ _ _ qX12_init_4 rfl ?_
  refine g_ldc2 hC 73 kX12_7 rfl dX12_init_5 ?_
  refine g_putl hC dX12_init_8 fX12_9 hs9 (by decide) rfl (fun _ h => by cases h; rfl) 0 rfl (by first | omega | exact hxi9 | exact cmpZ_in _ _ | exact bI_in _) (fun V8 e8 => ?_)
  refine gB hC _ _ _ _ _ _ _ qX12_init_11 rfl ?_
  refine g_slen hC dX12_init_14 hts9 ?_
  refine gB hC _ _ _ _ _ _ _ qX12_init_15 rfl ?_
  refine g_loopA (fun x : gV × Nat × aV => (∀ b, b ≠ a9 → x.1 b = V b) ∧ x.2.1 ≤ Ln) (fun x => Ln - x.2.1) 19 (fun x => [(2, a9), (2, ((E.2.2 20 : Nat) : Int)), (2, ((E.2.2 20 : Nat) : Int)), (0, (Ln : Int)), (0, (x.2.1 : Int)), x.2.2]) (fun _ => Sh) (fun x => x.1) (fun _ => z) (fun _ => 0) (fun _ => 0) (V8, 0, (9, 0)) ⟨fun b hb => by show V8 b = V b; rw [e8]; exact up_row _ _ _ hb, by show (0 : Nat) ≤ Ln; omega⟩ ?_
  rintro ⟨V1, i, a5⟩ ⟨hv1, hi⟩ ih
  dsimp only at hv1 hi ih ⊢
  refine gB hC _ _ _ _ _ _ _ qX12_init_19 rfl ?_
  refine g_icmp_ge hC 55 dX12_init_22 rfl (by first | omega | exact hxi9 | exact cmpZ_in _ _ | exact bI_in _) (by first | omega | exact hxi9 | exact cmpZ_in _ _ | exact bI_in _) (fun c22 => ?_) (fun c22 => ?_)
  · refine g_return hC dX12_init_55 hr ⟨rfl, rfl, ?_, rfl⟩ gs_rfl ⟨Nat.le_of_ble_eq_true rfl, Nat.le_of_ble_eq_true rfl⟩
    exact hv1
  · refine gB hC _ _ _ _ _ _ _ qX12_init_25 rfl ?_
    refine g_sald hC dX12_init_28 hts9 (by omega) (by omega) ?_
    refine gB hC _ _ _ _ _ _ _ qX12_init_29 rfl ?_
    refine g_getl hC dX12_init_33 fX12_9 hs9 (by decide) rfl 0 rfl (fun i33 => ?_)
    refine gB hC _ _ _ _ _ _ _ qX12_init_36 rfl ?_
    have hxi9 := hxi i
    refine g_i2l hC dX12_init_38 (by first | omega | exact hxi9 | exact cmpZ_in _ _ | exact bI_in _) ?_
    refine g_lxor hC dX12_init_39 (Int64.ofInt_toInt _).symm ?_
    refine g_ldc2 hC 1099511628211 kX12_15 rfl dX12_init_40 ?_
    refine gB hC _ _ _ _ _ _ _ qX12_init_43 rfl ?_
    refine g_wrapL (fun v46 hv46 _ => ?_)
    refine g_putl hC dX12_init_46 fX12_9 hs9 (by decide) rfl (fun _ h => by cases h; rfl) 0 rfl (hv46) (fun V46 e46 => ?_)
    refine gB hC _ _ _ _ _ _ _ qX12_init_49 rfl ?_
    exact ih (V46, i + 1, _) ⟨fun b hb => by show V46 b = V b; rw [e46, up_row _ _ _ hb]; exact hv1 b hb, by show i + 1 ≤ Ln; omega⟩ (by show Ln - (i + 1) < Ln - i; omega)

/-- all that lies behind is new -/
theorem XR_up {x z c : Int} {N : gN0} {P : Int → gN0} {Sh Sh' : gSh} {V V' : gV} (H : XR x N P c Sh V) (hI : INV N) (hl : x + 1141 ≤ z) (ne : ∀ a, x ≤ a → a < z → Sh' a = Sh a) (e : ∀ a, x ≤ a → a < z → V' a = V a) : XR x N P c Sh' V' := by
  have hX : XR x N P c Sh V' := XR_ag H hI (fun a a0 a1 => e a a0 (by omega))
  refine XR_sh (Sh' := Sh) hX ?_
  obtain ⟨⟨s1, s2, s3, s4, s5, s6, s7⟩, -⟩ := hX
  have nh : ∀ h, x ≤ h → h + 162 ≤ z → shH h Sh → shH h Sh' := fun h h0 h1 H j j0 j1 => (ne _ (by omega) (by omega)).trans (H j j0 j1)
  exact ⟨(ne _ (by omega) (by omega)).trans s1, nh _ (by omega) (by omega) s2, ⟨(ne _ (by omega) (by omega)).trans s3.1, (ne _ (by omega) (by omega)).trans s3.2.1, fun i i0 i1 => nh _ (by omega) (by omega) (s3.2.2 i i0 i1)⟩, (ne _ (by omega) (by omega)).trans s4, (ne _ (by omega) (by omega)).trans s5, (ne _ (by omega) (by omega)).trans s6, (ne _ (by omega) (by omega)).trans s7⟩
