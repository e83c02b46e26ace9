/-! share: its wrapper, and what stands behind its calls (laid by wip/whole/gen9h.py) -/
theorem wL_share_of {E l Sh V z} {x d a0 a1 C : Int} {xv : UInt32} {FS FF : gV → Prop} (hx : Sh x = some (10, 0)) (hd : Sh d = some (102, 1)) (hn : C = 0 → vf_n32 xv) (h3 : C ≠ 3) (hM : ∀ z, gM E l yX11_share (.code yX11_share cX11_share 5 (some .float)) (rmk 11 60 600 420) [(2, x), (0, a0), (0, a1)] Sh V z (gRk C gxI gxA "" (3, fb xv) FS FF Sh)) :
    gM E l yL_share (.codeWith yL_share cL_share 5 (some .int) [(0, 10, 13, 21), (0, 10, 17, 13)]) (rmk 12 60 600 460) [(2, x), (0, a0), (0, a1), (2, d)] Sh V z (gWk C (db (FP.f2d xv)) d FS FF Sh) := by
  refine gM_atW (L0 := [(2, x), (0, a0), (0, a1), (2, d), (9, 0)]) rfl rfl rfl ?_
  intro p e s m args below meth c hC hr hex hz
  refine gB hC _ _ _ _ _ _ _ qL_share_0 rfl ?_
  refine g_callV hC _ dL_share_5 mL_129 vX11_share (hM _) rfl hx (by decide) rfl (Nat.le_of_ble_eq_true rfl) (RR rfl rfl rfl rfl) (fun r0 S1 V1 z1 h => ?_) (fun X S1 V1 z1 h => ?_)
  · obtain ⟨rfl, ⟨h0, h1, h2⟩ | ⟨_, h3⟩⟩ := h
    · cases h1
      refine g_f2d hC dL_share_8 (f2d_n (hn h0)) ?_
      refine g_dast hC dL_share_9 hd (by decide) (by decide) (by decide) (fun V9 e9 => ?_)
      refine gB hC _ _ _ _ _ _ _ qL_share_10 rfl ?_
      refine gB hC _ _ _ _ _ _ _ qL_share_21 rfl ?_
      refine g_ireturn hC dL_share_22 hr ⟨by rw [h0], rfl, Or.inl ⟨h0, V1, h2, e9⟩⟩ gs_rfl ⟨Nat.le_of_ble_eq_true rfl, Nat.le_of_ble_eq_true rfl⟩
    · rcases h3 with h | h | h <;> exact nomatch h.2
  · obtain ⟨rfl, ⟨_, h1, _⟩ | ⟨hF, h3⟩⟩ := h
    · cases h1
    · rcases h3 with ⟨hc, he⟩ | ⟨hc, he⟩ | ⟨hc, he⟩
      · cases he
        refine g_catch hC (X := gxI) [] ⟨0, 10, 13, 21⟩ [⟨0, 10, 17, 13⟩] (hex.trans rfl) (fun w hw => ?_) rfl (by decide) lL_21 List.mem_cons_self (fun q hq => ?_)
        · cases hw
        refine gB hC _ _ _ _ _ _ _ (show decB cL_share 13 [.astore 4, .iconst 1] 16 = true by decide +kernel) rfl ?_
        refine g_ireturn hC dL_share_16 hr ⟨by rw [hc], rfl, Or.inr ⟨by omega, hF⟩⟩ gs_rfl ⟨Nat.le_of_ble_eq_true rfl, Nat.le_of_ble_eq_true rfl⟩
      · cases he
        refine g_catch hC (X := gxA) [⟨0, 10, 13, 21⟩] ⟨0, 10, 17, 13⟩ [] (hex.trans rfl) (fun w hw => ?_) rfl (by decide) lL_13 (List.mem_cons_of_mem _ List.mem_cons_self) (fun q hq => ?_)
        · obtain rfl := List.mem_singleton.mp hw
          exact Or.inr ⟨by decide, gxI, lL_21, (List.mem_cons_of_mem _ List.mem_cons_self), List.mem_cons_self, by decide⟩
        refine gB hC _ _ _ _ _ _ _ (show decB cL_share 17 [.astore 4, .iconst 2] 20 = true by decide +kernel) rfl ?_
        refine g_ireturn hC dL_share_20 hr ⟨by rw [hc], rfl, Or.inr ⟨by omega, hF⟩⟩ gs_rfl ⟨Nat.le_of_ble_eq_true rfl, Nat.le_of_ble_eq_true rfl⟩
      · exact absurd hc h3
section GSH
variable {E : gE} {p : Program} {l : Launch} {e : Env} {s : State} {m : MethodId} {args : Array Value} {below : List Frame} {meth : Method} {c : Code} {Q : State → Prop} {pc k n : Nat} {Sh : gSh} {V : gV} {z : Int}
variable {b0 x b o d i C : Int} {N2 : gN0} {P2 : Int → gN0} {c2 : Int} {xv yv : UInt32}
theorem g_tailS (hC : gC E RL cL_law 10 p l s m args meth c) (H : LI x b o d Sh V N2 P2 c2) (hCi : inI C) (h3 : V b 3 = C) (h0 : C = 0 → V d 0 = db (FP.f2d xv)) (hr : C = 0 → yv = xv) (hv : C = 0 → vf_n32 xv) (hk : k ≤ 601024) (hn : n ≤ 7293033)
    (K : ∀ z', gG E 10 p l e room_1 s m args below meth c Q 2865 [(2, b0), (2, x), (2, b), (2, o), (2, d), (0, i), (9, 0), (9, 0), (9, 0), (9, 0)] [] Sh V z' k n) : gG E 10 p l e room_1 s m args below meth c Q 2785 [(2, b0), (2, x), (2, b), (2, o), (2, d), (0, i), (0, C), (9, 0), (9, 0), (9, 0)] [(3, fb yv)] Sh V z k n := by
  refine g_fstore hC dL_law_2785 rfl ?_
  refine gB hC _ _ _ _ _ _ _ qL_law_2787 rfl ?_
  refine g_cV1i hC dL_law_2788 mL_143 vX12_thrown (kX12_thrown H.md) rfl H.sb (by decide) rfl (Nat.le_of_ble_eq_true rfl) ⟨⟨Nat.le_of_ble_eq_true rfl, Nat.le_of_ble_eq_true rfl⟩, hk, hn⟩ (fun z1 i1 => ?_)
  refine g_widen (k' := k) (n' := n) (Nat.le_refl _) (Nat.le_refl _) ?_
  refine gB hC _ _ _ _ _ _ _ qL_law_2791 rfl ?_
  refine g_icmp_eq hC 2798 dL_law_2793 rfl i1 hCi (fun _ => ?_) (fun q => absurd h3 q)
  refine gB hC _ _ _ _ _ _ _ qL_law_2798 rfl ?_
  refine g_if_ne hC 2836 dL_law_2800 rfl hCi (fun _ => ?_) (fun hc => ?_)
  · refine gB hC _ _ _ _ _ _ _ qL_law_2836 rfl ?_
    exact g_fgt4 (K _)
  · have e := hr hc
    subst e
    refine gB hC _ _ _ _ _ _ _ qL_law_2803 rfl ?_
    refine g_dald hC dL_law_2806 H.sd (h0 hc) (by decide) (by decide) (by decide) ?_
    refine g_fload hC (i := 7) (x := yv) dL_law_2807 rfl ?_
    refine g_f2d hC dL_law_2809 (f2d_n (hv hc)) ?_
    refine g_dcmpS hC dL_law_2810 (f2d_n (hv hc)) ?_
    refine g_if_eq hC 2836 dL_law_2811 rfl (by decide) (fun _ => ?_) (fun q => absurd rfl q)
    refine gB hC _ _ _ _ _ _ _ qL_law_2836 rfl ?_
    exact g_fgt4 (K _)
end GSH
