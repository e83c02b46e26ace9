/-! the law's wrappers (laid by wip/whole/gen98.py) -/
/-- a wrapper's answer: its code, what was told lies in the row o -/
def gWk (C r o : Int) (FS FF : gV → Prop) (Sh : gSh) : gPo := fun res Sh' V' _ => res = .inl (some (0, C)) ∧ Sh' = Sh ∧ ((C = 0 ∧ ∃ V1, FS V1 ∧ V' = up V1 o 0 r) ∨ (C ≠ 0 ∧ FF V'))
theorem wI_in (x : Int) : inI (wI x) := i32_in _
theorem wI_L (x : Int) : inL (wI x) := by have := wI_in x; omega
theorem wL_addDays_of {E l Sh V z} {x o a0 a1 C r : Int} {FS FF : gV → Prop} (hx : Sh x = some (10, 0)) (ho : Sh o = some (101, 1)) (h2 : C ≠ 2) (h3 : C ≠ 3) (hM : ∀ z, gM E l yX11_addDays (.code yX11_addDays cX11_addDays 4 (some .int)) (rmk 11 60 600 420) [(2, x), (0, a0), (0, a1)] Sh V z (gRk C gxA "" "" (0, r) FS FF Sh)) :
    gM E l yL_addDays (.codeWith yL_addDays cL_addDays 5 (some .int) [(0, 10, 13, 13)]) (rmk 12 60 600 460) [(2, x), (0, a0), (0, a1), (2, o)] Sh V z (gWk C (wI r) o FS FF Sh) := by
  refine gM_atW (L0 := [(2, x), (0, a0), (0, a1), (2, o), (9, 0)]) rfl rfl rfl ?_
  intro p e s m args below meth c hC hr hex hz
  refine gB hC _ _ _ _ _ _ _ qL_addDays_0 rfl ?_
  refine g_callV hC _ dL_addDays_5 mL_76 vX11_addDays (hM _) rfl hx (by decide) rfl (Nat.le_of_ble_eq_true rfl) (RR rfl rfl rfl rfl) (fun r0 S1 V1 z1 h => ?_) (fun X S1 V1 z1 h => ?_)
  · obtain ⟨rfl, ⟨h0, h1, h2⟩ | ⟨_, h3⟩⟩ := h
    · cases h1
      refine g_wrap1 ?_
      refine g_i2l hC dL_addDays_8 (wI_in _) ?_
      refine g_lst hC dL_addDays_9 ho (by decide) (by decide) (by decide) (wI_L _) (fun V9 e9 => ?_)
      refine gB hC _ _ _ _ _ _ _ qL_addDays_10 rfl ?_
      refine gB hC _ _ _ _ _ _ _ qL_addDays_17 rfl ?_
      refine g_ireturn hC dL_addDays_18 hr ⟨by rw [h0], rfl, Or.inl ⟨h0, V1, h2, e9⟩⟩ gs_rfl ⟨Nat.le_of_ble_eq_true rfl, Nat.le_of_ble_eq_true rfl⟩
    · rcases h3 with h | h | h <;> exact nomatch h.2
  · obtain ⟨rfl, ⟨_, h1, _⟩ | ⟨hF, h3⟩⟩ := h
    · cases h1
    · rcases h3 with ⟨hc, he⟩ | ⟨hc, he⟩ | ⟨hc, he⟩
      · cases he
        refine g_catch hC (X := gxA) [] ⟨0, 10, 13, 13⟩ [] (hex.trans rfl) (fun w hw => ?_) rfl (by decide) lL_13 (List.mem_cons_of_mem _ List.mem_cons_self) (fun q hq => ?_)
        · cases hw
        refine gB hC _ _ _ _ _ _ _ (show decB cL_addDays 13 [.astore 4, .iconst 1] 16 = true by decide +kernel) rfl ?_
        refine g_ireturn hC dL_addDays_16 hr ⟨by rw [hc], rfl, Or.inr ⟨by omega, hF⟩⟩ gs_rfl ⟨Nat.le_of_ble_eq_true rfl, Nat.le_of_ble_eq_true rfl⟩
      · exact absurd hc h2
      · exact absurd hc h3
theorem wL_addKind_of {E l Sh V z} {x o a0 a1 C r : Int} {FS FF : gV → Prop} (hx : Sh x = some (10, 0)) (ho : Sh o = some (101, 1)) (h3 : C ≠ 3) (hM : ∀ z, gM E l yX11_addKind (.code yX11_addKind cX11_addKind 3 (some .int)) (rmk 11 60 600 420) [(2, x), (0, a0), (0, a1)] Sh V z (gRk C gxA gxS "" (0, r) FS FF Sh)) :
    gM E l yL_addKind (.codeWith yL_addKind cL_addKind 5 (some .int) [(0, 10, 13, 13), (0, 10, 17, 15)]) (rmk 12 60 600 460) [(2, x), (0, a0), (0, a1), (2, o)] Sh V z (gWk C (wI r) o FS FF Sh) := by
  refine gM_atW (L0 := [(2, x), (0, a0), (0, a1), (2, o), (9, 0)]) rfl rfl rfl ?_
  intro p e s m args below meth c hC hr hex hz
  refine gB hC _ _ _ _ _ _ _ qL_addKind_0 rfl ?_
  refine g_callV hC _ dL_addKind_5 mL_7 vX11_addKind (hM _) rfl hx (by decide) rfl (Nat.le_of_ble_eq_true rfl) (RR rfl rfl rfl rfl) (fun r0 S1 V1 z1 h => ?_) (fun X S1 V1 z1 h => ?_)
  · obtain ⟨rfl, ⟨h0, h1, h2⟩ | ⟨_, h3⟩⟩ := h
    · cases h1
      refine g_wrap1 ?_
      refine g_i2l hC dL_addKind_8 (wI_in _) ?_
      refine g_lst hC dL_addKind_9 ho (by decide) (by decide) (by decide) (wI_L _) (fun V9 e9 => ?_)
      refine gB hC _ _ _ _ _ _ _ qL_addKind_10 rfl ?_
      refine gB hC _ _ _ _ _ _ _ qL_addKind_21 rfl ?_
      refine g_ireturn hC dL_addKind_22 hr ⟨by rw [h0], rfl, Or.inl ⟨h0, V1, h2, e9⟩⟩ gs_rfl ⟨Nat.le_of_ble_eq_true rfl, Nat.le_of_ble_eq_true rfl⟩
    · rcases h3 with h | h | h <;> exact nomatch h.2
  · obtain ⟨rfl, ⟨_, h1, _⟩ | ⟨hF, h3⟩⟩ := h
    · cases h1
    · rcases h3 with ⟨hc, he⟩ | ⟨hc, he⟩ | ⟨hc, he⟩
      · cases he
        refine g_catch hC (X := gxA) [] ⟨0, 10, 13, 13⟩ [⟨0, 10, 17, 15⟩] (hex.trans rfl) (fun w hw => ?_) rfl (by decide) lL_13 (List.mem_cons_of_mem _ List.mem_cons_self) (fun q hq => ?_)
        · cases hw
        refine gB hC _ _ _ _ _ _ _ (show decB cL_addKind 13 [.astore 4, .iconst 1] 16 = true by decide +kernel) rfl ?_
        refine g_ireturn hC dL_addKind_16 hr ⟨by rw [hc], rfl, Or.inr ⟨by omega, hF⟩⟩ gs_rfl ⟨Nat.le_of_ble_eq_true rfl, Nat.le_of_ble_eq_true rfl⟩
      · cases he
        refine g_catch hC (X := gxS) [⟨0, 10, 13, 13⟩] ⟨0, 10, 17, 15⟩ [] (hex.trans rfl) (fun w hw => ?_) rfl (by decide) lL_15 (List.mem_cons_of_mem _ (List.mem_cons_of_mem _ List.mem_cons_self)) (fun q hq => ?_)
        · obtain rfl := List.mem_singleton.mp hw
          exact Or.inr ⟨by decide, gxA, lL_13, (List.mem_cons_of_mem _ (List.mem_cons_of_mem _ List.mem_cons_self)), (List.mem_cons_of_mem _ List.mem_cons_self), by decide⟩
        refine gB hC _ _ _ _ _ _ _ (show decB cL_addKind 17 [.astore 4, .iconst 2] 20 = true by decide +kernel) rfl ?_
        refine g_ireturn hC dL_addKind_20 hr ⟨by rw [hc], rfl, Or.inr ⟨by omega, hF⟩⟩ gs_rfl ⟨Nat.le_of_ble_eq_true rfl, Nat.le_of_ble_eq_true rfl⟩
      · exact absurd hc h3
theorem wL_addSeason_of {E l Sh V z} {x o a0 a1 a2 a3 C r : Int} {FS FF : gV → Prop} (hx : Sh x = some (10, 0)) (ho : Sh o = some (101, 1)) (h3 : C ≠ 3) (hM : ∀ z, gM E l yX11_addSeason (.code yX11_addSeason cX11_addSeason 5 (some .int)) (rmk 11 60 600 420) [(2, x), (0, a0), (0, a1), (0, a2), (0, a3)] Sh V z (gRk C gxA gxS "" (0, r) FS FF Sh)) :
    gM E l yL_addSeason (.codeWith yL_addSeason cL_addSeason 7 (some .int) [(0, 14, 17, 13), (0, 14, 21, 15)]) (rmk 12 60 600 460) [(2, x), (0, a0), (0, a1), (0, a2), (0, a3), (2, o)] Sh V z (gWk C (wI r) o FS FF Sh) := by
  refine gM_atW (L0 := [(2, x), (0, a0), (0, a1), (0, a2), (0, a3), (2, o), (9, 0)]) rfl rfl rfl ?_
  intro p e s m args below meth c hC hr hex hz
  refine gB hC _ _ _ _ _ _ _ qL_addSeason_0 rfl ?_
  refine g_callV hC _ dL_addSeason_9 mL_26 vX11_addSeason (hM _) rfl hx (by decide) rfl (Nat.le_of_ble_eq_true rfl) (RR rfl rfl rfl rfl) (fun r0 S1 V1 z1 h => ?_) (fun X S1 V1 z1 h => ?_)
  · obtain ⟨rfl, ⟨h0, h1, h2⟩ | ⟨_, h3⟩⟩ := h
    · cases h1
      refine g_wrap1 ?_
      refine g_i2l hC dL_addSeason_12 (wI_in _) ?_
      refine g_lst hC dL_addSeason_13 ho (by decide) (by decide) (by decide) (wI_L _) (fun V9 e9 => ?_)
      refine gB hC _ _ _ _ _ _ _ qL_addSeason_14 rfl ?_
      refine gB hC _ _ _ _ _ _ _ qL_addSeason_25 rfl ?_
      refine g_ireturn hC dL_addSeason_26 hr ⟨by rw [h0], rfl, Or.inl ⟨h0, V1, h2, e9⟩⟩ gs_rfl ⟨Nat.le_of_ble_eq_true rfl, Nat.le_of_ble_eq_true rfl⟩
    · rcases h3 with h | h | h <;> exact nomatch h.2
  · obtain ⟨rfl, ⟨_, h1, _⟩ | ⟨hF, h3⟩⟩ := h
    · cases h1
    · rcases h3 with ⟨hc, he⟩ | ⟨hc, he⟩ | ⟨hc, he⟩
      · cases he
        refine g_catch hC (X := gxA) [] ⟨0, 14, 17, 13⟩ [⟨0, 14, 21, 15⟩] (hex.trans rfl) (fun w hw => ?_) rfl (by decide) lL_13 (List.mem_cons_of_mem _ List.mem_cons_self) (fun q hq => ?_)
        · cases hw
        refine gB hC _ _ _ _ _ _ _ (show decB cL_addSeason 17 [.astore 6, .iconst 1] 20 = true by decide +kernel) rfl ?_
        refine g_ireturn hC dL_addSeason_20 hr ⟨by rw [hc], rfl, Or.inr ⟨by omega, hF⟩⟩ gs_rfl ⟨Nat.le_of_ble_eq_true rfl, Nat.le_of_ble_eq_true rfl⟩
      · cases he
        refine g_catch hC (X := gxS) [⟨0, 14, 17, 13⟩] ⟨0, 14, 21, 15⟩ [] (hex.trans rfl) (fun w hw => ?_) rfl (by decide) lL_15 (List.mem_cons_of_mem _ (List.mem_cons_of_mem _ List.mem_cons_self)) (fun q hq => ?_)
        · obtain rfl := List.mem_singleton.mp hw
          exact Or.inr ⟨by decide, gxA, lL_13, (List.mem_cons_of_mem _ (List.mem_cons_of_mem _ List.mem_cons_self)), (List.mem_cons_of_mem _ List.mem_cons_self), by decide⟩
        refine gB hC _ _ _ _ _ _ _ (show decB cL_addSeason 21 [.astore 6, .iconst 2] 24 = true by decide +kernel) rfl ?_
        refine g_ireturn hC dL_addSeason_24 hr ⟨by rw [hc], rfl, Or.inr ⟨by omega, hF⟩⟩ gs_rfl ⟨Nat.le_of_ble_eq_true rfl, Nat.le_of_ble_eq_true rfl⟩
      · exact absurd hc h3
theorem wL_ask_of {E l Sh V z} {x o a0 a1 a2 a3 a4 a5 C r : Int} {FS FF : gV → Prop} (hx : Sh x = some (10, 0)) (ho : Sh o = some (101, 1))  (hM : ∀ z, gM E l yX11_ask (.code yX11_ask cX11_ask 9 (some .int)) (rmk 11 60 600 420) [(2, x), (0, a0), (0, a1), (0, a2), (0, a3), (0, a4), (0, a5)] Sh V z (gRk C gxI gxA gxS (0, r) FS FF Sh)) :
    gM E l yL_ask (.codeWith yL_ask cL_ask 9 (some .int) [(0, 18, 21, 21), (0, 18, 25, 13), (0, 18, 29, 15)]) (rmk 12 60 600 460) [(2, x), (0, a0), (0, a1), (0, a2), (0, a3), (0, a4), (0, a5), (2, o)] Sh V z (gWk C (wI r) o FS FF Sh) := by
  refine gM_atW (L0 := [(2, x), (0, a0), (0, a1), (0, a2), (0, a3), (0, a4), (0, a5), (2, o), (9, 0)]) rfl rfl rfl ?_
  intro p e s m args below meth c hC hr hex hz
  refine gB hC _ _ _ _ _ _ _ qL_ask_0 rfl ?_
  refine g_callV hC _ dL_ask_13 mL_33 vX11_ask (hM _) rfl hx (by decide) rfl (Nat.le_of_ble_eq_true rfl) (RR rfl rfl rfl rfl) (fun r0 S1 V1 z1 h => ?_) (fun X S1 V1 z1 h => ?_)
  · obtain ⟨rfl, ⟨h0, h1, h2⟩ | ⟨_, h3⟩⟩ := h
    · cases h1
      refine g_wrap1 ?_
      refine g_i2l hC dL_ask_16 (wI_in _) ?_
      refine g_lst hC dL_ask_17 ho (by decide) (by decide) (by decide) (wI_L _) (fun V9 e9 => ?_)
      refine gB hC _ _ _ _ _ _ _ qL_ask_18 rfl ?_
      refine gB hC _ _ _ _ _ _ _ qL_ask_33 rfl ?_
      refine g_ireturn hC dL_ask_34 hr ⟨by rw [h0], rfl, Or.inl ⟨h0, V1, h2, e9⟩⟩ gs_rfl ⟨Nat.le_of_ble_eq_true rfl, Nat.le_of_ble_eq_true rfl⟩
    · rcases h3 with h | h | h <;> exact nomatch h.2
  · obtain ⟨rfl, ⟨_, h1, _⟩ | ⟨hF, h3⟩⟩ := h
    · cases h1
    · rcases h3 with ⟨hc, he⟩ | ⟨hc, he⟩ | ⟨hc, he⟩
      · cases he
        refine g_catch hC (X := gxI) [] ⟨0, 18, 21, 21⟩ [⟨0, 18, 25, 13⟩, ⟨0, 18, 29, 15⟩] (hex.trans rfl) (fun w hw => ?_) rfl (by decide) lL_21 List.mem_cons_self (fun q hq => ?_)
        · cases hw
        refine gB hC _ _ _ _ _ _ _ (show decB cL_ask 21 [.astore 8, .iconst 1] 24 = true by decide +kernel) rfl ?_
        refine g_ireturn hC dL_ask_24 hr ⟨by rw [hc], rfl, Or.inr ⟨by omega, hF⟩⟩ gs_rfl ⟨Nat.le_of_ble_eq_true rfl, Nat.le_of_ble_eq_true rfl⟩
      · cases he
        refine g_catch hC (X := gxA) [⟨0, 18, 21, 21⟩] ⟨0, 18, 25, 13⟩ [⟨0, 18, 29, 15⟩] (hex.trans rfl) (fun w hw => ?_) rfl (by decide) lL_13 (List.mem_cons_of_mem _ List.mem_cons_self) (fun q hq => ?_)
        · obtain rfl := List.mem_singleton.mp hw
          exact Or.inr ⟨by decide, gxI, lL_21, (List.mem_cons_of_mem _ List.mem_cons_self), List.mem_cons_self, by decide⟩
        refine gB hC _ _ _ _ _ _ _ (show decB cL_ask 25 [.astore 8, .iconst 2] 28 = true by decide +kernel) rfl ?_
        refine g_ireturn hC dL_ask_28 hr ⟨by rw [hc], rfl, Or.inr ⟨by omega, hF⟩⟩ gs_rfl ⟨Nat.le_of_ble_eq_true rfl, Nat.le_of_ble_eq_true rfl⟩
      · cases he
        refine g_catch hC (X := gxS) [⟨0, 18, 21, 21⟩, ⟨0, 18, 25, 13⟩] ⟨0, 18, 29, 15⟩ [] (hex.trans rfl) (fun w hw => ?_) rfl (by decide) lL_15 (List.mem_cons_of_mem _ (List.mem_cons_of_mem _ List.mem_cons_self)) (fun q hq => ?_)
        · rcases List.mem_cons.mp hw with rfl | hw
          · exact Or.inr ⟨by decide, gxI, lL_21, (List.mem_cons_of_mem _ (List.mem_cons_of_mem _ List.mem_cons_self)), List.mem_cons_self, by decide⟩
          · obtain rfl := List.mem_singleton.mp hw
            exact Or.inr ⟨by decide, gxA, lL_13, (List.mem_cons_of_mem _ (List.mem_cons_of_mem _ List.mem_cons_self)), (List.mem_cons_of_mem _ List.mem_cons_self), by decide⟩
        refine gB hC _ _ _ _ _ _ _ (show decB cL_ask 29 [.astore 8, .iconst 3] 32 = true by decide +kernel) rfl ?_
        refine g_ireturn hC dL_ask_32 hr ⟨by rw [hc], rfl, Or.inr ⟨by omega, hF⟩⟩ gs_rfl ⟨Nat.le_of_ble_eq_true rfl, Nat.le_of_ble_eq_true rfl⟩
theorem wL_awaited_of {E l Sh V z} {x o a0 a1 C r : Int} {FS FF : gV → Prop} (hx : Sh x = some (10, 0)) (ho : Sh o = some (101, 1)) (hrl : C = 0 → inL r) (h2 : C ≠ 2) (h3 : C ≠ 3) (hM : ∀ z, gM E l yX11_awaited (.code yX11_awaited cX11_awaited 3 (some .long)) (rmk 11 60 600 420) [(2, x), (0, a0), (0, a1)] Sh V z (gRk C gxA "" "" (1, r) FS FF Sh)) :
    gM E l yL_awaited (.codeWith yL_awaited cL_awaited 5 (some .int) [(0, 9, 12, 13)]) (rmk 12 60 600 460) [(2, x), (0, a0), (0, a1), (2, o)] Sh V z (gWk C (r) o FS FF Sh) := by
  refine gM_atW (L0 := [(2, x), (0, a0), (0, a1), (2, o), (9, 0)]) rfl rfl rfl ?_
  intro p e s m args below meth c hC hr hex hz
  refine gB hC _ _ _ _ _ _ _ qL_awaited_0 rfl ?_
  refine g_callV hC _ dL_awaited_5 mL_104 vX11_awaited (hM _) rfl hx (by decide) rfl (Nat.le_of_ble_eq_true rfl) (RR rfl rfl rfl rfl) (fun r0 S1 V1 z1 h => ?_) (fun X S1 V1 z1 h => ?_)
  · obtain ⟨rfl, ⟨h0, h1, h2⟩ | ⟨_, h3⟩⟩ := h
    · cases h1
      refine g_lst hC dL_awaited_8 ho (by decide) (by decide) (by decide) (hrl h0) (fun V9 e9 => ?_)
      refine gB hC _ _ _ _ _ _ _ qL_awaited_9 rfl ?_
      refine gB hC _ _ _ _ _ _ _ qL_awaited_16 rfl ?_
      refine g_ireturn hC dL_awaited_17 hr ⟨by rw [h0], rfl, Or.inl ⟨h0, V1, h2, e9⟩⟩ gs_rfl ⟨Nat.le_of_ble_eq_true rfl, Nat.le_of_ble_eq_true rfl⟩
    · rcases h3 with h | h | h <;> exact nomatch h.2
  · obtain ⟨rfl, ⟨_, h1, _⟩ | ⟨hF, h3⟩⟩ := h
    · cases h1
    · rcases h3 with ⟨hc, he⟩ | ⟨hc, he⟩ | ⟨hc, he⟩
      · cases he
        refine g_catch hC (X := gxA) [] ⟨0, 9, 12, 13⟩ [] (hex.trans rfl) (fun w hw => ?_) rfl (by decide) lL_13 (List.mem_cons_of_mem _ List.mem_cons_self) (fun q hq => ?_)
        · cases hw
        refine gB hC _ _ _ _ _ _ _ (show decB cL_awaited 12 [.astore 4, .iconst 1] 15 = true by decide +kernel) rfl ?_
        refine g_ireturn hC dL_awaited_15 hr ⟨by rw [hc], rfl, Or.inr ⟨by omega, hF⟩⟩ gs_rfl ⟨Nat.le_of_ble_eq_true rfl, Nat.le_of_ble_eq_true rfl⟩
      · exact absurd hc h2
      · exact absurd hc h3
theorem wL_book_of {E l Sh V z} {x o a0 C r : Int} {FS FF : gV → Prop} (hx : Sh x = some (10, 0)) (ho : Sh o = some (101, 1)) (hrl : C = 0 → inL r) (h2 : C ≠ 2) (h3 : C ≠ 3) (hM : ∀ z, gM E l yX11_book (.code yX11_book cX11_book 2 (some .long)) (rmk 11 60 600 420) [(2, x), (0, a0)] Sh V z (gRk C gxI "" "" (1, r) FS FF Sh)) :
    gM E l yL_book (.codeWith yL_book cL_book 4 (some .int) [(0, 8, 11, 21)]) (rmk 12 60 600 460) [(2, x), (0, a0), (2, o)] Sh V z (gWk C (r) o FS FF Sh) := by
  refine gM_atW (L0 := [(2, x), (0, a0), (2, o), (9, 0)]) rfl rfl rfl ?_
  intro p e s m args below meth c hC hr hex hz
  refine gB hC _ _ _ _ _ _ _ qL_book_0 rfl ?_
  refine g_callV hC _ dL_book_4 mL_100 vX11_book (hM _) rfl hx (by decide) rfl (Nat.le_of_ble_eq_true rfl) (RR rfl rfl rfl rfl) (fun r0 S1 V1 z1 h => ?_) (fun X S1 V1 z1 h => ?_)
  · obtain ⟨rfl, ⟨h0, h1, h2⟩ | ⟨_, h3⟩⟩ := h
    · cases h1
      refine g_lst hC dL_book_7 ho (by decide) (by decide) (by decide) (hrl h0) (fun V9 e9 => ?_)
      refine gB hC _ _ _ _ _ _ _ qL_book_8 rfl ?_
      refine gB hC _ _ _ _ _ _ _ qL_book_14 rfl ?_
      refine g_ireturn hC dL_book_15 hr ⟨by rw [h0], rfl, Or.inl ⟨h0, V1, h2, e9⟩⟩ gs_rfl ⟨Nat.le_of_ble_eq_true rfl, Nat.le_of_ble_eq_true rfl⟩
    · rcases h3 with h | h | h <;> exact nomatch h.2
  · obtain ⟨rfl, ⟨_, h1, _⟩ | ⟨hF, h3⟩⟩ := h
    · cases h1
    · rcases h3 with ⟨hc, he⟩ | ⟨hc, he⟩ | ⟨hc, he⟩
      · cases he
        refine g_catch hC (X := gxI) [] ⟨0, 8, 11, 21⟩ [] (hex.trans rfl) (fun w hw => ?_) rfl (by decide) lL_21 List.mem_cons_self (fun q hq => ?_)
        · cases hw
        refine gB hC _ _ _ _ _ _ _ (show decB cL_book 11 [.astore_n 3, .iconst 1] 13 = true by decide +kernel) rfl ?_
        refine g_ireturn hC dL_book_13 hr ⟨by rw [hc], rfl, Or.inr ⟨by omega, hF⟩⟩ gs_rfl ⟨Nat.le_of_ble_eq_true rfl, Nat.le_of_ble_eq_true rfl⟩
      · exact absurd hc h2
      · exact absurd hc h3
theorem wL_cancel_of {E l Sh V z} {x o a0 C r : Int} {FS FF : gV → Prop} (hx : Sh x = some (10, 0)) (ho : Sh o = some (101, 1)) (h3 : C ≠ 3) (hM : ∀ z, gM E l yX11_cancel (.code yX11_cancel cX11_cancel 4 (some .int)) (rmk 11 60 600 420) [(2, x), (0, a0)] Sh V z (gRk C gxI gxS "" (0, r) FS FF Sh)) :
    gM E l yL_cancel (.codeWith yL_cancel cL_cancel 4 (some .int) [(0, 9, 12, 21), (0, 9, 15, 15)]) (rmk 12 60 600 460) [(2, x), (0, a0), (2, o)] Sh V z (gWk C (wI r) o FS FF Sh) := by
  refine gM_atW (L0 := [(2, x), (0, a0), (2, o), (9, 0)]) rfl rfl rfl ?_
  intro p e s m args below meth c hC hr hex hz
  refine gB hC _ _ _ _ _ _ _ qL_cancel_0 rfl ?_
  refine g_callV hC _ dL_cancel_4 mL_51 vX11_cancel (hM _) rfl hx (by decide) rfl (Nat.le_of_ble_eq_true rfl) (RR rfl rfl rfl rfl) (fun r0 S1 V1 z1 h => ?_) (fun X S1 V1 z1 h => ?_)
  · obtain ⟨rfl, ⟨h0, h1, h2⟩ | ⟨_, h3⟩⟩ := h
    · cases h1
      refine g_wrap1 ?_
      refine g_i2l hC dL_cancel_7 (wI_in _) ?_
      refine g_lst hC dL_cancel_8 ho (by decide) (by decide) (by decide) (wI_L _) (fun V9 e9 => ?_)
      refine gB hC _ _ _ _ _ _ _ qL_cancel_9 rfl ?_
      refine gB hC _ _ _ _ _ _ _ qL_cancel_18 rfl ?_
      refine g_ireturn hC dL_cancel_19 hr ⟨by rw [h0], rfl, Or.inl ⟨h0, V1, h2, e9⟩⟩ gs_rfl ⟨Nat.le_of_ble_eq_true rfl, Nat.le_of_ble_eq_true rfl⟩
    · rcases h3 with h | h | h <;> exact nomatch h.2
  · obtain ⟨rfl, ⟨_, h1, _⟩ | ⟨hF, h3⟩⟩ := h
    · cases h1
    · rcases h3 with ⟨hc, he⟩ | ⟨hc, he⟩ | ⟨hc, he⟩
      · cases he
        refine g_catch hC (X := gxI) [] ⟨0, 9, 12, 21⟩ [⟨0, 9, 15, 15⟩] (hex.trans rfl) (fun w hw => ?_) rfl (by decide) lL_21 List.mem_cons_self (fun q hq => ?_)
        · cases hw
        refine gB hC _ _ _ _ _ _ _ (show decB cL_cancel 12 [.astore_n 3, .iconst 1] 14 = true by decide +kernel) rfl ?_
        refine g_ireturn hC dL_cancel_14 hr ⟨by rw [hc], rfl, Or.inr ⟨by omega, hF⟩⟩ gs_rfl ⟨Nat.le_of_ble_eq_true rfl, Nat.le_of_ble_eq_true rfl⟩
      · cases he
        refine g_catch hC (X := gxS) [⟨0, 9, 12, 21⟩] ⟨0, 9, 15, 15⟩ [] (hex.trans rfl) (fun w hw => ?_) rfl (by decide) lL_15 (List.mem_cons_of_mem _ (List.mem_cons_of_mem _ List.mem_cons_self)) (fun q hq => ?_)
        · obtain rfl := List.mem_singleton.mp hw
          exact Or.inr ⟨by decide, gxI, lL_21, (List.mem_cons_of_mem _ (List.mem_cons_of_mem _ List.mem_cons_self)), List.mem_cons_self, by decide⟩
        refine gB hC _ _ _ _ _ _ _ (show decB cL_cancel 15 [.astore_n 3, .iconst 2] 17 = true by decide +kernel) rfl ?_
        refine g_ireturn hC dL_cancel_17 hr ⟨by rw [hc], rfl, Or.inr ⟨by omega, hF⟩⟩ gs_rfl ⟨Nat.le_of_ble_eq_true rfl, Nat.le_of_ble_eq_true rfl⟩
      · exact absurd hc h3
theorem wL_closeNight_of {E l Sh V z} {x o a0 a1 a2 C r : Int} {FS FF : gV → Prop} (hx : Sh x = some (10, 0)) (ho : Sh o = some (101, 1)) (h3 : C ≠ 3) (hM : ∀ z, gM E l yX11_closeNight (.code yX11_closeNight cX11_closeNight 5 (some .int)) (rmk 11 60 600 420) [(2, x), (0, a0), (0, a1), (0, a2)] Sh V z (gRk C gxI gxA "" (0, r) FS FF Sh)) :
    gM E l yL_closeNight (.codeWith yL_closeNight cL_closeNight 6 (some .int) [(0, 12, 15, 21), (0, 12, 19, 13)]) (rmk 12 60 600 460) [(2, x), (0, a0), (0, a1), (0, a2), (2, o)] Sh V z (gWk C (wI r) o FS FF Sh) := by
  refine gM_atW (L0 := [(2, x), (0, a0), (0, a1), (0, a2), (2, o), (9, 0)]) rfl rfl rfl ?_
  intro p e s m args below meth c hC hr hex hz
  refine gB hC _ _ _ _ _ _ _ qL_closeNight_0 rfl ?_
  refine g_callV hC _ dL_closeNight_7 mL_17 vX11_closeNight (hM _) rfl hx (by decide) rfl (Nat.le_of_ble_eq_true rfl) (RR rfl rfl rfl rfl) (fun r0 S1 V1 z1 h => ?_) (fun X S1 V1 z1 h => ?_)
  · obtain ⟨rfl, ⟨h0, h1, h2⟩ | ⟨_, h3⟩⟩ := h
    · cases h1
      refine g_wrap1 ?_
      refine g_i2l hC dL_closeNight_10 (wI_in _) ?_
      refine g_lst hC dL_closeNight_11 ho (by decide) (by decide) (by decide) (wI_L _) (fun V9 e9 => ?_)
      refine gB hC _ _ _ _ _ _ _ qL_closeNight_12 rfl ?_
      refine gB hC _ _ _ _ _ _ _ qL_closeNight_23 rfl ?_
      refine g_ireturn hC dL_closeNight_24 hr ⟨by rw [h0], rfl, Or.inl ⟨h0, V1, h2, e9⟩⟩ gs_rfl ⟨Nat.le_of_ble_eq_true rfl, Nat.le_of_ble_eq_true rfl⟩
    · rcases h3 with h | h | h <;> exact nomatch h.2
  · obtain ⟨rfl, ⟨_, h1, _⟩ | ⟨hF, h3⟩⟩ := h
    · cases h1
    · rcases h3 with ⟨hc, he⟩ | ⟨hc, he⟩ | ⟨hc, he⟩
      · cases he
        refine g_catch hC (X := gxI) [] ⟨0, 12, 15, 21⟩ [⟨0, 12, 19, 13⟩] (hex.trans rfl) (fun w hw => ?_) rfl (by decide) lL_21 List.mem_cons_self (fun q hq => ?_)
        · cases hw
        refine gB hC _ _ _ _ _ _ _ (show decB cL_closeNight 15 [.astore 5, .iconst 1] 18 = true by decide +kernel) rfl ?_
        refine g_ireturn hC dL_closeNight_18 hr ⟨by rw [hc], rfl, Or.inr ⟨by omega, hF⟩⟩ gs_rfl ⟨Nat.le_of_ble_eq_true rfl, Nat.le_of_ble_eq_true rfl⟩
      · cases he
        refine g_catch hC (X := gxA) [⟨0, 12, 15, 21⟩] ⟨0, 12, 19, 13⟩ [] (hex.trans rfl) (fun w hw => ?_) rfl (by decide) lL_13 (List.mem_cons_of_mem _ List.mem_cons_self) (fun q hq => ?_)
        · obtain rfl := List.mem_singleton.mp hw
          exact Or.inr ⟨by decide, gxI, lL_21, (List.mem_cons_of_mem _ List.mem_cons_self), List.mem_cons_self, by decide⟩
        refine gB hC _ _ _ _ _ _ _ (show decB cL_closeNight 19 [.astore 5, .iconst 2] 22 = true by decide +kernel) rfl ?_
        refine g_ireturn hC dL_closeNight_22 hr ⟨by rw [hc], rfl, Or.inr ⟨by omega, hF⟩⟩ gs_rfl ⟨Nat.le_of_ble_eq_true rfl, Nat.le_of_ble_eq_true rfl⟩
      · exact absurd hc h3
theorem wL_count_of {E l Sh V z} {x o a0 a1 C r : Int} {FS FF : gV → Prop} (hx : Sh x = some (10, 0)) (ho : Sh o = some (101, 1)) (h3 : C ≠ 3) (hM : ∀ z, gM E l yX11_count (.code yX11_count cX11_count 3 (some .int)) (rmk 11 60 600 420) [(2, x), (0, a0), (0, a1)] Sh V z (gRk C gxI gxA "" (0, r) FS FF Sh)) :
    gM E l yL_count (.codeWith yL_count cL_count 5 (some .int) [(0, 10, 13, 21), (0, 10, 17, 13)]) (rmk 12 60 600 460) [(2, x), (0, a0), (0, a1), (2, o)] Sh V z (gWk C (wI r) o FS FF Sh) := by
  refine gM_atW (L0 := [(2, x), (0, a0), (0, a1), (2, o), (9, 0)]) rfl rfl rfl ?_
  intro p e s m args below meth c hC hr hex hz
  refine gB hC _ _ _ _ _ _ _ qL_count_0 rfl ?_
  refine g_callV hC _ dL_count_5 mL_79 vX11_count (hM _) rfl hx (by decide) rfl (Nat.le_of_ble_eq_true rfl) (RR rfl rfl rfl rfl) (fun r0 S1 V1 z1 h => ?_) (fun X S1 V1 z1 h => ?_)
  · obtain ⟨rfl, ⟨h0, h1, h2⟩ | ⟨_, h3⟩⟩ := h
    · cases h1
      refine g_wrap1 ?_
      refine g_i2l hC dL_count_8 (wI_in _) ?_
      refine g_lst hC dL_count_9 ho (by decide) (by decide) (by decide) (wI_L _) (fun V9 e9 => ?_)
      refine gB hC _ _ _ _ _ _ _ qL_count_10 rfl ?_
      refine gB hC _ _ _ _ _ _ _ qL_count_21 rfl ?_
      refine g_ireturn hC dL_count_22 hr ⟨by rw [h0], rfl, Or.inl ⟨h0, V1, h2, e9⟩⟩ gs_rfl ⟨Nat.le_of_ble_eq_true rfl, Nat.le_of_ble_eq_true rfl⟩
    · rcases h3 with h | h | h <;> exact nomatch h.2
  · obtain ⟨rfl, ⟨_, h1, _⟩ | ⟨hF, h3⟩⟩ := h
    · cases h1
    · rcases h3 with ⟨hc, he⟩ | ⟨hc, he⟩ | ⟨hc, he⟩
      · cases he
        refine g_catch hC (X := gxI) [] ⟨0, 10, 13, 21⟩ [⟨0, 10, 17, 13⟩] (hex.trans rfl) (fun w hw => ?_) rfl (by decide) lL_21 List.mem_cons_self (fun q hq => ?_)
        · cases hw
        refine gB hC _ _ _ _ _ _ _ (show decB cL_count 13 [.astore 4, .iconst 1] 16 = true by decide +kernel) rfl ?_
        refine g_ireturn hC dL_count_16 hr ⟨by rw [hc], rfl, Or.inr ⟨by omega, hF⟩⟩ gs_rfl ⟨Nat.le_of_ble_eq_true rfl, Nat.le_of_ble_eq_true rfl⟩
      · cases he
        refine g_catch hC (X := gxA) [⟨0, 10, 13, 21⟩] ⟨0, 10, 17, 13⟩ [] (hex.trans rfl) (fun w hw => ?_) rfl (by decide) lL_13 (List.mem_cons_of_mem _ List.mem_cons_self) (fun q hq => ?_)
        · obtain rfl := List.mem_singleton.mp hw
          exact Or.inr ⟨by decide, gxI, lL_21, (List.mem_cons_of_mem _ List.mem_cons_self), List.mem_cons_self, by decide⟩
        refine gB hC _ _ _ _ _ _ _ (show decB cL_count 17 [.astore 4, .iconst 2] 20 = true by decide +kernel) rfl ?_
        refine g_ireturn hC dL_count_20 hr ⟨by rw [hc], rfl, Or.inr ⟨by omega, hF⟩⟩ gs_rfl ⟨Nat.le_of_ble_eq_true rfl, Nat.le_of_ble_eq_true rfl⟩
      · exact absurd hc h3
theorem wL_dayOfWeek_of {E l Sh V z} {x o a0 C r : Int} {FS FF : gV → Prop} (hx : Sh x = some (10, 0)) (ho : Sh o = some (101, 1)) (h2 : C ≠ 2) (h3 : C ≠ 3) (hM : ∀ z, gM E l yX11_dayOfWeek (.code yX11_dayOfWeek cX11_dayOfWeek 2 (some .int)) (rmk 11 60 600 420) [(2, x), (0, a0)] Sh V z (gRk C gxA "" "" (0, r) FS FF Sh)) :
    gM E l yL_dayOfWeek (.codeWith yL_dayOfWeek cL_dayOfWeek 4 (some .int) [(0, 9, 12, 13)]) (rmk 12 60 600 460) [(2, x), (0, a0), (2, o)] Sh V z (gWk C (wI r) o FS FF Sh) := by
  refine gM_atW (L0 := [(2, x), (0, a0), (2, o), (9, 0)]) rfl rfl rfl ?_
  intro p e s m args below meth c hC hr hex hz
  refine gB hC _ _ _ _ _ _ _ qL_dayOfWeek_0 rfl ?_
  refine g_callV hC _ dL_dayOfWeek_4 mL_73 vX11_dayOfWeek (hM _) rfl hx (by decide) rfl (Nat.le_of_ble_eq_true rfl) (RR rfl rfl rfl rfl) (fun r0 S1 V1 z1 h => ?_) (fun X S1 V1 z1 h => ?_)
  · obtain ⟨rfl, ⟨h0, h1, h2⟩ | ⟨_, h3⟩⟩ := h
    · cases h1
      refine g_wrap1 ?_
      refine g_i2l hC dL_dayOfWeek_7 (wI_in _) ?_
      refine g_lst hC dL_dayOfWeek_8 ho (by decide) (by decide) (by decide) (wI_L _) (fun V9 e9 => ?_)
      refine gB hC _ _ _ _ _ _ _ qL_dayOfWeek_9 rfl ?_
      refine gB hC _ _ _ _ _ _ _ qL_dayOfWeek_15 rfl ?_
      refine g_ireturn hC dL_dayOfWeek_16 hr ⟨by rw [h0], rfl, Or.inl ⟨h0, V1, h2, e9⟩⟩ gs_rfl ⟨Nat.le_of_ble_eq_true rfl, Nat.le_of_ble_eq_true rfl⟩
    · rcases h3 with h | h | h <;> exact nomatch h.2
  · obtain ⟨rfl, ⟨_, h1, _⟩ | ⟨hF, h3⟩⟩ := h
    · cases h1
    · rcases h3 with ⟨hc, he⟩ | ⟨hc, he⟩ | ⟨hc, he⟩
      · cases he
        refine g_catch hC (X := gxA) [] ⟨0, 9, 12, 13⟩ [] (hex.trans rfl) (fun w hw => ?_) rfl (by decide) lL_13 (List.mem_cons_of_mem _ List.mem_cons_self) (fun q hq => ?_)
        · cases hw
        refine gB hC _ _ _ _ _ _ _ (show decB cL_dayOfWeek 12 [.astore_n 3, .iconst 1] 14 = true by decide +kernel) rfl ?_
        refine g_ireturn hC dL_dayOfWeek_14 hr ⟨by rw [hc], rfl, Or.inr ⟨by omega, hF⟩⟩ gs_rfl ⟨Nat.le_of_ble_eq_true rfl, Nat.le_of_ble_eq_true rfl⟩
      · exact absurd hc h2
      · exact absurd hc h3
theorem wL_greatest_of {E l Sh V z} {x o a0 a1 a2 C r : Int} {FS FF : gV → Prop} (hx : Sh x = some (10, 0)) (ho : Sh o = some (101, 1)) (h3 : C ≠ 3) (hM : ∀ z, gM E l yX11_greatest (.code yX11_greatest cX11_greatest 6 (some .int)) (rmk 11 60 600 420) [(2, x), (0, a0), (0, a1), (0, a2)] Sh V z (gRk C gxI gxA "" (0, r) FS FF Sh)) :
    gM E l yL_greatest (.codeWith yL_greatest cL_greatest 6 (some .int) [(0, 12, 15, 21), (0, 12, 19, 13)]) (rmk 12 60 600 460) [(2, x), (0, a0), (0, a1), (0, a2), (2, o)] Sh V z (gWk C (wI r) o FS FF Sh) := by
  refine gM_atW (L0 := [(2, x), (0, a0), (0, a1), (0, a2), (2, o), (9, 0)]) rfl rfl rfl ?_
  intro p e s m args below meth c hC hr hex hz
  refine gB hC _ _ _ _ _ _ _ qL_greatest_0 rfl ?_
  refine g_callV hC _ dL_greatest_7 mL_82 vX11_greatest (hM _) rfl hx (by decide) rfl (Nat.le_of_ble_eq_true rfl) (RR rfl rfl rfl rfl) (fun r0 S1 V1 z1 h => ?_) (fun X S1 V1 z1 h => ?_)
  · obtain ⟨rfl, ⟨h0, h1, h2⟩ | ⟨_, h3⟩⟩ := h
    · cases h1
      refine g_wrap1 ?_
      refine g_i2l hC dL_greatest_10 (wI_in _) ?_
      refine g_lst hC dL_greatest_11 ho (by decide) (by decide) (by decide) (wI_L _) (fun V9 e9 => ?_)
      refine gB hC _ _ _ _ _ _ _ qL_greatest_12 rfl ?_
      refine gB hC _ _ _ _ _ _ _ qL_greatest_23 rfl ?_
      refine g_ireturn hC dL_greatest_24 hr ⟨by rw [h0], rfl, Or.inl ⟨h0, V1, h2, e9⟩⟩ gs_rfl ⟨Nat.le_of_ble_eq_true rfl, Nat.le_of_ble_eq_true rfl⟩
    · rcases h3 with h | h | h <;> exact nomatch h.2
  · obtain ⟨rfl, ⟨_, h1, _⟩ | ⟨hF, h3⟩⟩ := h
    · cases h1
    · rcases h3 with ⟨hc, he⟩ | ⟨hc, he⟩ | ⟨hc, he⟩
      · cases he
        refine g_catch hC (X := gxI) [] ⟨0, 12, 15, 21⟩ [⟨0, 12, 19, 13⟩] (hex.trans rfl) (fun w hw => ?_) rfl (by decide) lL_21 List.mem_cons_self (fun q hq => ?_)
        · cases hw
        refine gB hC _ _ _ _ _ _ _ (show decB cL_greatest 15 [.astore 5, .iconst 1] 18 = true by decide +kernel) rfl ?_
        refine g_ireturn hC dL_greatest_18 hr ⟨by rw [hc], rfl, Or.inr ⟨by omega, hF⟩⟩ gs_rfl ⟨Nat.le_of_ble_eq_true rfl, Nat.le_of_ble_eq_true rfl⟩
      · cases he
        refine g_catch hC (X := gxA) [⟨0, 12, 15, 21⟩] ⟨0, 12, 19, 13⟩ [] (hex.trans rfl) (fun w hw => ?_) rfl (by decide) lL_13 (List.mem_cons_of_mem _ List.mem_cons_self) (fun q hq => ?_)
        · obtain rfl := List.mem_singleton.mp hw
          exact Or.inr ⟨by decide, gxI, lL_21, (List.mem_cons_of_mem _ List.mem_cons_self), List.mem_cons_self, by decide⟩
        refine gB hC _ _ _ _ _ _ _ (show decB cL_greatest 19 [.astore 5, .iconst 2] 22 = true by decide +kernel) rfl ?_
        refine g_ireturn hC dL_greatest_22 hr ⟨by rw [hc], rfl, Or.inr ⟨by omega, hF⟩⟩ gs_rfl ⟨Nat.le_of_ble_eq_true rfl, Nat.le_of_ble_eq_true rfl⟩
      · exact absurd hc h3
theorem wL_group_of {E l Sh V z} {x o a0 a1 a2 a3 a4 C r : Int} {FS FF : gV → Prop} (hx : Sh x = some (10, 0)) (ho : Sh o = some (101, 1))  (hM : ∀ z, gM E l yX11_group (.code yX11_group cX11_group 8 (some .int)) (rmk 11 60 600 420) [(2, x), (0, a0), (0, a1), (0, a2), (0, a3), (0, a4)] Sh V z (gRk C gxI gxA gxS (0, r) FS FF Sh)) :
    gM E l yL_group (.codeWith yL_group cL_group 8 (some .int) [(0, 16, 19, 21), (0, 16, 23, 13), (0, 16, 27, 15)]) (rmk 12 60 600 460) [(2, x), (0, a0), (0, a1), (0, a2), (0, a3), (0, a4), (2, o)] Sh V z (gWk C (wI r) o FS FF Sh) := by
  refine gM_atW (L0 := [(2, x), (0, a0), (0, a1), (0, a2), (0, a3), (0, a4), (2, o), (9, 0)]) rfl rfl rfl ?_
  intro p e s m args below meth c hC hr hex hz
  refine gB hC _ _ _ _ _ _ _ qL_group_0 rfl ?_
  refine g_callV hC _ dL_group_11 mL_37 vX11_group (hM _) rfl hx (by decide) rfl (Nat.le_of_ble_eq_true rfl) (RR rfl rfl rfl rfl) (fun r0 S1 V1 z1 h => ?_) (fun X S1 V1 z1 h => ?_)
  · obtain ⟨rfl, ⟨h0, h1, h2⟩ | ⟨_, h3⟩⟩ := h
    · cases h1
      refine g_wrap1 ?_
      refine g_i2l hC dL_group_14 (wI_in _) ?_
      refine g_lst hC dL_group_15 ho (by decide) (by decide) (by decide) (wI_L _) (fun V9 e9 => ?_)
      refine gB hC _ _ _ _ _ _ _ qL_group_16 rfl ?_
      refine gB hC _ _ _ _ _ _ _ qL_group_31 rfl ?_
      refine g_ireturn hC dL_group_32 hr ⟨by rw [h0], rfl, Or.inl ⟨h0, V1, h2, e9⟩⟩ gs_rfl ⟨Nat.le_of_ble_eq_true rfl, Nat.le_of_ble_eq_true rfl⟩
    · rcases h3 with h | h | h <;> exact nomatch h.2
  · obtain ⟨rfl, ⟨_, h1, _⟩ | ⟨hF, h3⟩⟩ := h
    · cases h1
    · rcases h3 with ⟨hc, he⟩ | ⟨hc, he⟩ | ⟨hc, he⟩
      · cases he
        refine g_catch hC (X := gxI) [] ⟨0, 16, 19, 21⟩ [⟨0, 16, 23, 13⟩, ⟨0, 16, 27, 15⟩] (hex.trans rfl) (fun w hw => ?_) rfl (by decide) lL_21 List.mem_cons_self (fun q hq => ?_)
        · cases hw
        refine gB hC _ _ _ _ _ _ _ (show decB cL_group 19 [.astore 7, .iconst 1] 22 = true by decide +kernel) rfl ?_
        refine g_ireturn hC dL_group_22 hr ⟨by rw [hc], rfl, Or.inr ⟨by omega, hF⟩⟩ gs_rfl ⟨Nat.le_of_ble_eq_true rfl, Nat.le_of_ble_eq_true rfl⟩
      · cases he
        refine g_catch hC (X := gxA) [⟨0, 16, 19, 21⟩] ⟨0, 16, 23, 13⟩ [⟨0, 16, 27, 15⟩] (hex.trans rfl) (fun w hw => ?_) rfl (by decide) lL_13 (List.mem_cons_of_mem _ List.mem_cons_self) (fun q hq => ?_)
        · obtain rfl := List.mem_singleton.mp hw
          exact Or.inr ⟨by decide, gxI, lL_21, (List.mem_cons_of_mem _ List.mem_cons_self), List.mem_cons_self, by decide⟩
        refine gB hC _ _ _ _ _ _ _ (show decB cL_group 23 [.astore 7, .iconst 2] 26 = true by decide +kernel) rfl ?_
        refine g_ireturn hC dL_group_26 hr ⟨by rw [hc], rfl, Or.inr ⟨by omega, hF⟩⟩ gs_rfl ⟨Nat.le_of_ble_eq_true rfl, Nat.le_of_ble_eq_true rfl⟩
      · cases he
        refine g_catch hC (X := gxS) [⟨0, 16, 19, 21⟩, ⟨0, 16, 23, 13⟩] ⟨0, 16, 27, 15⟩ [] (hex.trans rfl) (fun w hw => ?_) rfl (by decide) lL_15 (List.mem_cons_of_mem _ (List.mem_cons_of_mem _ List.mem_cons_self)) (fun q hq => ?_)
        · rcases List.mem_cons.mp hw with rfl | hw
          · exact Or.inr ⟨by decide, gxI, lL_21, (List.mem_cons_of_mem _ (List.mem_cons_of_mem _ List.mem_cons_self)), List.mem_cons_self, by decide⟩
          · obtain rfl := List.mem_singleton.mp hw
            exact Or.inr ⟨by decide, gxA, lL_13, (List.mem_cons_of_mem _ (List.mem_cons_of_mem _ List.mem_cons_self)), (List.mem_cons_of_mem _ List.mem_cons_self), by decide⟩
        refine gB hC _ _ _ _ _ _ _ (show decB cL_group 27 [.astore 7, .iconst 3] 30 = true by decide +kernel) rfl ?_
        refine g_ireturn hC dL_group_30 hr ⟨by rw [hc], rfl, Or.inr ⟨by omega, hF⟩⟩ gs_rfl ⟨Nat.le_of_ble_eq_true rfl, Nat.le_of_ble_eq_true rfl⟩
theorem wL_letGo_of {E l Sh V z} {x o a0 C r : Int} {FS FF : gV → Prop} (hx : Sh x = some (10, 0)) (ho : Sh o = some (101, 1)) (h2 : C ≠ 2) (h3 : C ≠ 3) (hM : ∀ z, gM E l yX11_letGo (.code yX11_letGo cX11_letGo 3 (some .int)) (rmk 11 60 600 420) [(2, x), (0, a0)] Sh V z (gRk C gxI "" "" (0, r) FS FF Sh)) :
    gM E l yL_letGo (.codeWith yL_letGo cL_letGo 4 (some .int) [(0, 9, 12, 21)]) (rmk 12 60 600 460) [(2, x), (0, a0), (2, o)] Sh V z (gWk C (wI r) o FS FF Sh) := by
  refine gM_atW (L0 := [(2, x), (0, a0), (2, o), (9, 0)]) rfl rfl rfl ?_
  intro p e s m args below meth c hC hr hex hz
  refine gB hC _ _ _ _ _ _ _ qL_letGo_0 rfl ?_
  refine g_callV hC _ dL_letGo_4 mL_41 vX11_letGo (hM _) rfl hx (by decide) rfl (Nat.le_of_ble_eq_true rfl) (RR rfl rfl rfl rfl) (fun r0 S1 V1 z1 h => ?_) (fun X S1 V1 z1 h => ?_)
  · obtain ⟨rfl, ⟨h0, h1, h2⟩ | ⟨_, h3⟩⟩ := h
    · cases h1
      refine g_wrap1 ?_
      refine g_i2l hC dL_letGo_7 (wI_in _) ?_
      refine g_lst hC dL_letGo_8 ho (by decide) (by decide) (by decide) (wI_L _) (fun V9 e9 => ?_)
      refine gB hC _ _ _ _ _ _ _ qL_letGo_9 rfl ?_
      refine gB hC _ _ _ _ _ _ _ qL_letGo_15 rfl ?_
      refine g_ireturn hC dL_letGo_16 hr ⟨by rw [h0], rfl, Or.inl ⟨h0, V1, h2, e9⟩⟩ gs_rfl ⟨Nat.le_of_ble_eq_true rfl, Nat.le_of_ble_eq_true rfl⟩
    · rcases h3 with h | h | h <;> exact nomatch h.2
  · obtain ⟨rfl, ⟨_, h1, _⟩ | ⟨hF, h3⟩⟩ := h
    · cases h1
    · rcases h3 with ⟨hc, he⟩ | ⟨hc, he⟩ | ⟨hc, he⟩
      · cases he
        refine g_catch hC (X := gxI) [] ⟨0, 9, 12, 21⟩ [] (hex.trans rfl) (fun w hw => ?_) rfl (by decide) lL_21 List.mem_cons_self (fun q hq => ?_)
        · cases hw
        refine gB hC _ _ _ _ _ _ _ (show decB cL_letGo 12 [.astore_n 3, .iconst 1] 14 = true by decide +kernel) rfl ?_
        refine g_ireturn hC dL_letGo_14 hr ⟨by rw [hc], rfl, Or.inr ⟨by omega, hF⟩⟩ gs_rfl ⟨Nat.le_of_ble_eq_true rfl, Nat.le_of_ble_eq_true rfl⟩
      · exact absurd hc h2
      · exact absurd hc h3
theorem wL_limit_of {E l Sh V z} {x o a0 a1 C r : Int} {FS FF : gV → Prop} (hx : Sh x = some (10, 0)) (ho : Sh o = some (101, 1)) (h2 : C ≠ 2) (h3 : C ≠ 3) (hM : ∀ z, gM E l yX11_limit (.code yX11_limit cX11_limit 3 (some .int)) (rmk 11 60 600 420) [(2, x), (0, a0), (0, a1)] Sh V z (gRk C gxA "" "" (0, r) FS FF Sh)) :
    gM E l yL_limit (.codeWith yL_limit cL_limit 5 (some .int) [(0, 10, 13, 13)]) (rmk 12 60 600 460) [(2, x), (0, a0), (0, a1), (2, o)] Sh V z (gWk C (wI r) o FS FF Sh) := by
  refine gM_atW (L0 := [(2, x), (0, a0), (0, a1), (2, o), (9, 0)]) rfl rfl rfl ?_
  intro p e s m args below meth c hC hr hex hz
  refine gB hC _ _ _ _ _ _ _ qL_limit_0 rfl ?_
  refine g_callV hC _ dL_limit_5 mL_108 vX11_limit (hM _) rfl hx (by decide) rfl (Nat.le_of_ble_eq_true rfl) (RR rfl rfl rfl rfl) (fun r0 S1 V1 z1 h => ?_) (fun X S1 V1 z1 h => ?_)
  · obtain ⟨rfl, ⟨h0, h1, h2⟩ | ⟨_, h3⟩⟩ := h
    · cases h1
      refine g_wrap1 ?_
      refine g_i2l hC dL_limit_8 (wI_in _) ?_
      refine g_lst hC dL_limit_9 ho (by decide) (by decide) (by decide) (wI_L _) (fun V9 e9 => ?_)
      refine gB hC _ _ _ _ _ _ _ qL_limit_10 rfl ?_
      refine gB hC _ _ _ _ _ _ _ qL_limit_17 rfl ?_
      refine g_ireturn hC dL_limit_18 hr ⟨by rw [h0], rfl, Or.inl ⟨h0, V1, h2, e9⟩⟩ gs_rfl ⟨Nat.le_of_ble_eq_true rfl, Nat.le_of_ble_eq_true rfl⟩
    · rcases h3 with h | h | h <;> exact nomatch h.2
  · obtain ⟨rfl, ⟨_, h1, _⟩ | ⟨hF, h3⟩⟩ := h
    · cases h1
    · rcases h3 with ⟨hc, he⟩ | ⟨hc, he⟩ | ⟨hc, he⟩
      · cases he
        refine g_catch hC (X := gxA) [] ⟨0, 10, 13, 13⟩ [] (hex.trans rfl) (fun w hw => ?_) rfl (by decide) lL_13 (List.mem_cons_of_mem _ List.mem_cons_self) (fun q hq => ?_)
        · cases hw
        refine gB hC _ _ _ _ _ _ _ (show decB cL_limit 13 [.astore 4, .iconst 1] 16 = true by decide +kernel) rfl ?_
        refine g_ireturn hC dL_limit_16 hr ⟨by rw [hc], rfl, Or.inr ⟨by omega, hF⟩⟩ gs_rfl ⟨Nat.le_of_ble_eq_true rfl, Nat.le_of_ble_eq_true rfl⟩
      · exact absurd hc h2
      · exact absurd hc h3
theorem wL_longer_of {E l Sh V z} {x o a0 a1 C r : Int} {FS FF : gV → Prop} (hx : Sh x = some (10, 0)) (ho : Sh o = some (101, 1))  (hM : ∀ z, gM E l yX11_longer (.code yX11_longer cX11_longer 4 (some .int)) (rmk 11 60 600 420) [(2, x), (0, a0), (0, a1)] Sh V z (gRk C gxI gxA gxS (0, r) FS FF Sh)) :
    gM E l yL_longer (.codeWith yL_longer cL_longer 5 (some .int) [(0, 10, 13, 21), (0, 10, 17, 13), (0, 10, 21, 15)]) (rmk 12 60 600 460) [(2, x), (0, a0), (0, a1), (2, o)] Sh V z (gWk C (wI r) o FS FF Sh) := by
  refine gM_atW (L0 := [(2, x), (0, a0), (0, a1), (2, o), (9, 0)]) rfl rfl rfl ?_
  intro p e s m args below meth c hC hr hex hz
  refine gB hC _ _ _ _ _ _ _ qL_longer_0 rfl ?_
  refine g_callV hC _ dL_longer_5 mL_54 vX11_longer (hM _) rfl hx (by decide) rfl (Nat.le_of_ble_eq_true rfl) (RR rfl rfl rfl rfl) (fun r0 S1 V1 z1 h => ?_) (fun X S1 V1 z1 h => ?_)
  · obtain ⟨rfl, ⟨h0, h1, h2⟩ | ⟨_, h3⟩⟩ := h
    · cases h1
      refine g_wrap1 ?_
      refine g_i2l hC dL_longer_8 (wI_in _) ?_
      refine g_lst hC dL_longer_9 ho (by decide) (by decide) (by decide) (wI_L _) (fun V9 e9 => ?_)
      refine gB hC _ _ _ _ _ _ _ qL_longer_10 rfl ?_
      refine gB hC _ _ _ _ _ _ _ qL_longer_25 rfl ?_
      refine g_ireturn hC dL_longer_26 hr ⟨by rw [h0], rfl, Or.inl ⟨h0, V1, h2, e9⟩⟩ gs_rfl ⟨Nat.le_of_ble_eq_true rfl, Nat.le_of_ble_eq_true rfl⟩
    · rcases h3 with h | h | h <;> exact nomatch h.2
  · obtain ⟨rfl, ⟨_, h1, _⟩ | ⟨hF, h3⟩⟩ := h
    · cases h1
    · rcases h3 with ⟨hc, he⟩ | ⟨hc, he⟩ | ⟨hc, he⟩
      · cases he
        refine g_catch hC (X := gxI) [] ⟨0, 10, 13, 21⟩ [⟨0, 10, 17, 13⟩, ⟨0, 10, 21, 15⟩] (hex.trans rfl) (fun w hw => ?_) rfl (by decide) lL_21 List.mem_cons_self (fun q hq => ?_)
        · cases hw
        refine gB hC _ _ _ _ _ _ _ (show decB cL_longer 13 [.astore 4, .iconst 1] 16 = true by decide +kernel) rfl ?_
        refine g_ireturn hC dL_longer_16 hr ⟨by rw [hc], rfl, Or.inr ⟨by omega, hF⟩⟩ gs_rfl ⟨Nat.le_of_ble_eq_true rfl, Nat.le_of_ble_eq_true rfl⟩
      · cases he
        refine g_catch hC (X := gxA) [⟨0, 10, 13, 21⟩] ⟨0, 10, 17, 13⟩ [⟨0, 10, 21, 15⟩] (hex.trans rfl) (fun w hw => ?_) rfl (by decide) lL_13 (List.mem_cons_of_mem _ List.mem_cons_self) (fun q hq => ?_)
        · obtain rfl := List.mem_singleton.mp hw
          exact Or.inr ⟨by decide, gxI, lL_21, (List.mem_cons_of_mem _ List.mem_cons_self), List.mem_cons_self, by decide⟩
        refine gB hC _ _ _ _ _ _ _ (show decB cL_longer 17 [.astore 4, .iconst 2] 20 = true by decide +kernel) rfl ?_
        refine g_ireturn hC dL_longer_20 hr ⟨by rw [hc], rfl, Or.inr ⟨by omega, hF⟩⟩ gs_rfl ⟨Nat.le_of_ble_eq_true rfl, Nat.le_of_ble_eq_true rfl⟩
      · cases he
        refine g_catch hC (X := gxS) [⟨0, 10, 13, 21⟩, ⟨0, 10, 17, 13⟩] ⟨0, 10, 21, 15⟩ [] (hex.trans rfl) (fun w hw => ?_) rfl (by decide) lL_15 (List.mem_cons_of_mem _ (List.mem_cons_of_mem _ List.mem_cons_self)) (fun q hq => ?_)
        · rcases List.mem_cons.mp hw with rfl | hw
          · exact Or.inr ⟨by decide, gxI, lL_21, (List.mem_cons_of_mem _ (List.mem_cons_of_mem _ List.mem_cons_self)), List.mem_cons_self, by decide⟩
          · obtain rfl := List.mem_singleton.mp hw
            exact Or.inr ⟨by decide, gxA, lL_13, (List.mem_cons_of_mem _ (List.mem_cons_of_mem _ List.mem_cons_self)), (List.mem_cons_of_mem _ List.mem_cons_self), by decide⟩
        refine gB hC _ _ _ _ _ _ _ (show decB cL_longer 21 [.astore 4, .iconst 3] 24 = true by decide +kernel) rfl ?_
        refine g_ireturn hC dL_longer_24 hr ⟨by rw [hc], rfl, Or.inr ⟨by omega, hF⟩⟩ gs_rfl ⟨Nat.le_of_ble_eq_true rfl, Nat.le_of_ble_eq_true rfl⟩
theorem wL_minutes_of {E l Sh V z} {x o a0 C r : Int} {FS FF : gV → Prop} (hx : Sh x = some (10, 0)) (ho : Sh o = some (101, 1)) (h2 : C ≠ 2) (h3 : C ≠ 3) (hM : ∀ z, gM E l yX11_minutes (.code yX11_minutes cX11_minutes 3 (some .int)) (rmk 11 60 600 420) [(2, x), (0, a0)] Sh V z (gRk C gxA "" "" (0, r) FS FF Sh)) :
    gM E l yL_minutes (.codeWith yL_minutes cL_minutes 4 (some .int) [(0, 9, 12, 13)]) (rmk 12 60 600 460) [(2, x), (0, a0), (2, o)] Sh V z (gWk C (wI r) o FS FF Sh) := by
  refine gM_atW (L0 := [(2, x), (0, a0), (2, o), (9, 0)]) rfl rfl rfl ?_
  intro p e s m args below meth c hC hr hex hz
  refine gB hC _ _ _ _ _ _ _ qL_minutes_0 rfl ?_
  refine g_callV hC _ dL_minutes_4 mL_117 vX11_minutes (hM _) rfl hx (by decide) rfl (Nat.le_of_ble_eq_true rfl) (RR rfl rfl rfl rfl) (fun r0 S1 V1 z1 h => ?_) (fun X S1 V1 z1 h => ?_)
  · obtain ⟨rfl, ⟨h0, h1, h2⟩ | ⟨_, h3⟩⟩ := h
    · cases h1
      refine g_wrap1 ?_
      refine g_i2l hC dL_minutes_7 (wI_in _) ?_
      refine g_lst hC dL_minutes_8 ho (by decide) (by decide) (by decide) (wI_L _) (fun V9 e9 => ?_)
      refine gB hC _ _ _ _ _ _ _ qL_minutes_9 rfl ?_
      refine gB hC _ _ _ _ _ _ _ qL_minutes_15 rfl ?_
      refine g_ireturn hC dL_minutes_16 hr ⟨by rw [h0], rfl, Or.inl ⟨h0, V1, h2, e9⟩⟩ gs_rfl ⟨Nat.le_of_ble_eq_true rfl, Nat.le_of_ble_eq_true rfl⟩
    · rcases h3 with h | h | h <;> exact nomatch h.2
  · obtain ⟨rfl, ⟨_, h1, _⟩ | ⟨hF, h3⟩⟩ := h
    · cases h1
    · rcases h3 with ⟨hc, he⟩ | ⟨hc, he⟩ | ⟨hc, he⟩
      · cases he
        refine g_catch hC (X := gxA) [] ⟨0, 9, 12, 13⟩ [] (hex.trans rfl) (fun w hw => ?_) rfl (by decide) lL_13 (List.mem_cons_of_mem _ List.mem_cons_self) (fun q hq => ?_)
        · cases hw
        refine gB hC _ _ _ _ _ _ _ (show decB cL_minutes 12 [.astore_n 3, .iconst 1] 14 = true by decide +kernel) rfl ?_
        refine g_ireturn hC dL_minutes_14 hr ⟨by rw [hc], rfl, Or.inr ⟨by omega, hF⟩⟩ gs_rfl ⟨Nat.le_of_ble_eq_true rfl, Nat.le_of_ble_eq_true rfl⟩
      · exact absurd hc h2
      · exact absurd hc h3
theorem wL_monthIncome_of {E l Sh V z} {x o a0 C r : Int} {FS FF : gV → Prop} (hx : Sh x = some (10, 0)) (ho : Sh o = some (101, 1)) (hrl : C = 0 → inL r) (h2 : C ≠ 2) (h3 : C ≠ 3) (hM : ∀ z, gM E l yX11_monthIncome (.code yX11_monthIncome cX11_monthIncome 3 (some .long)) (rmk 11 60 600 420) [(2, x), (0, a0)] Sh V z (gRk C gxA "" "" (1, r) FS FF Sh)) :
    gM E l yL_monthIncome (.codeWith yL_monthIncome cL_monthIncome 4 (some .int) [(0, 8, 11, 13)]) (rmk 12 60 600 460) [(2, x), (0, a0), (2, o)] Sh V z (gWk C (r) o FS FF Sh) := by
  refine gM_atW (L0 := [(2, x), (0, a0), (2, o), (9, 0)]) rfl rfl rfl ?_
  intro p e s m args below meth c hC hr hex hz
  refine gB hC _ _ _ _ _ _ _ qL_monthIncome_0 rfl ?_
  refine g_callV hC _ dL_monthIncome_4 mL_126 vX11_monthIncome (hM _) rfl hx (by decide) rfl (Nat.le_of_ble_eq_true rfl) (RR rfl rfl rfl rfl) (fun r0 S1 V1 z1 h => ?_) (fun X S1 V1 z1 h => ?_)
  · obtain ⟨rfl, ⟨h0, h1, h2⟩ | ⟨_, h3⟩⟩ := h
    · cases h1
      refine g_lst hC dL_monthIncome_7 ho (by decide) (by decide) (by decide) (hrl h0) (fun V9 e9 => ?_)
      refine gB hC _ _ _ _ _ _ _ qL_monthIncome_8 rfl ?_
      refine gB hC _ _ _ _ _ _ _ qL_monthIncome_14 rfl ?_
      refine g_ireturn hC dL_monthIncome_15 hr ⟨by rw [h0], rfl, Or.inl ⟨h0, V1, h2, e9⟩⟩ gs_rfl ⟨Nat.le_of_ble_eq_true rfl, Nat.le_of_ble_eq_true rfl⟩
    · rcases h3 with h | h | h <;> exact nomatch h.2
  · obtain ⟨rfl, ⟨_, h1, _⟩ | ⟨hF, h3⟩⟩ := h
    · cases h1
    · rcases h3 with ⟨hc, he⟩ | ⟨hc, he⟩ | ⟨hc, he⟩
      · cases he
        refine g_catch hC (X := gxA) [] ⟨0, 8, 11, 13⟩ [] (hex.trans rfl) (fun w hw => ?_) rfl (by decide) lL_13 (List.mem_cons_of_mem _ List.mem_cons_self) (fun q hq => ?_)
        · cases hw
        refine gB hC _ _ _ _ _ _ _ (show decB cL_monthIncome 11 [.astore_n 3, .iconst 1] 13 = true by decide +kernel) rfl ?_
        refine g_ireturn hC dL_monthIncome_13 hr ⟨by rw [hc], rfl, Or.inr ⟨by omega, hF⟩⟩ gs_rfl ⟨Nat.le_of_ble_eq_true rfl, Nat.le_of_ble_eq_true rfl⟩
      · exact absurd hc h2
      · exact absurd hc h3
theorem wL_monthNights_of {E l Sh V z} {x o a0 C r : Int} {FS FF : gV → Prop} (hx : Sh x = some (10, 0)) (ho : Sh o = some (101, 1)) (h2 : C ≠ 2) (h3 : C ≠ 3) (hM : ∀ z, gM E l yX11_monthNights (.code yX11_monthNights cX11_monthNights 3 (some .int)) (rmk 11 60 600 420) [(2, x), (0, a0)] Sh V z (gRk C gxA "" "" (0, r) FS FF Sh)) :
    gM E l yL_monthNights (.codeWith yL_monthNights cL_monthNights 4 (some .int) [(0, 9, 12, 13)]) (rmk 12 60 600 460) [(2, x), (0, a0), (2, o)] Sh V z (gWk C (wI r) o FS FF Sh) := by
  refine gM_atW (L0 := [(2, x), (0, a0), (2, o), (9, 0)]) rfl rfl rfl ?_
  intro p e s m args below meth c hC hr hex hz
  refine gB hC _ _ _ _ _ _ _ qL_monthNights_0 rfl ?_
  refine g_callV hC _ dL_monthNights_4 mL_123 vX11_monthNights (hM _) rfl hx (by decide) rfl (Nat.le_of_ble_eq_true rfl) (RR rfl rfl rfl rfl) (fun r0 S1 V1 z1 h => ?_) (fun X S1 V1 z1 h => ?_)
  · obtain ⟨rfl, ⟨h0, h1, h2⟩ | ⟨_, h3⟩⟩ := h
    · cases h1
      refine g_wrap1 ?_
      refine g_i2l hC dL_monthNights_7 (wI_in _) ?_
      refine g_lst hC dL_monthNights_8 ho (by decide) (by decide) (by decide) (wI_L _) (fun V9 e9 => ?_)
      refine gB hC _ _ _ _ _ _ _ qL_monthNights_9 rfl ?_
      refine gB hC _ _ _ _ _ _ _ qL_monthNights_15 rfl ?_
      refine g_ireturn hC dL_monthNights_16 hr ⟨by rw [h0], rfl, Or.inl ⟨h0, V1, h2, e9⟩⟩ gs_rfl ⟨Nat.le_of_ble_eq_true rfl, Nat.le_of_ble_eq_true rfl⟩
    · rcases h3 with h | h | h <;> exact nomatch h.2
  · obtain ⟨rfl, ⟨_, h1, _⟩ | ⟨hF, h3⟩⟩ := h
    · cases h1
    · rcases h3 with ⟨hc, he⟩ | ⟨hc, he⟩ | ⟨hc, he⟩
      · cases he
        refine g_catch hC (X := gxA) [] ⟨0, 9, 12, 13⟩ [] (hex.trans rfl) (fun w hw => ?_) rfl (by decide) lL_13 (List.mem_cons_of_mem _ List.mem_cons_self) (fun q hq => ?_)
        · cases hw
        refine gB hC _ _ _ _ _ _ _ (show decB cL_monthNights 12 [.astore_n 3, .iconst 1] 14 = true by decide +kernel) rfl ?_
        refine g_ireturn hC dL_monthNights_14 hr ⟨by rw [hc], rfl, Or.inr ⟨by omega, hF⟩⟩ gs_rfl ⟨Nat.le_of_ble_eq_true rfl, Nat.le_of_ble_eq_true rfl⟩
      · exact absurd hc h2
      · exact absurd hc h3
theorem wL_moreToSell_of {E l Sh V z} {x o a0 a1 a2 C r : Int} {FS FF : gV → Prop} (hx : Sh x = some (10, 0)) (ho : Sh o = some (101, 1)) (h3 : C ≠ 3) (hM : ∀ z, gM E l yX11_moreToSell (.code yX11_moreToSell cX11_moreToSell 6 (some .int)) (rmk 11 60 600 420) [(2, x), (0, a0), (0, a1), (0, a2)] Sh V z (gRk C gxI gxA "" (0, r) FS FF Sh)) :
    gM E l yL_moreToSell (.codeWith yL_moreToSell cL_moreToSell 6 (some .int) [(0, 12, 15, 21), (0, 12, 19, 13)]) (rmk 12 60 600 460) [(2, x), (0, a0), (0, a1), (0, a2), (2, o)] Sh V z (gWk C (wI r) o FS FF Sh) := by
  refine gM_atW (L0 := [(2, x), (0, a0), (0, a1), (0, a2), (2, o), (9, 0)]) rfl rfl rfl ?_
  intro p e s m args below meth c hC hr hex hz
  refine gB hC _ _ _ _ _ _ _ qL_moreToSell_0 rfl ?_
  refine g_callV hC _ dL_moreToSell_7 mL_114 vX11_moreToSell (hM _) rfl hx (by decide) rfl (Nat.le_of_ble_eq_true rfl) (RR rfl rfl rfl rfl) (fun r0 S1 V1 z1 h => ?_) (fun X S1 V1 z1 h => ?_)
  · obtain ⟨rfl, ⟨h0, h1, h2⟩ | ⟨_, h3⟩⟩ := h
    · cases h1
      refine g_wrap1 ?_
      refine g_i2l hC dL_moreToSell_10 (wI_in _) ?_
      refine g_lst hC dL_moreToSell_11 ho (by decide) (by decide) (by decide) (wI_L _) (fun V9 e9 => ?_)
      refine gB hC _ _ _ _ _ _ _ qL_moreToSell_12 rfl ?_
      refine gB hC _ _ _ _ _ _ _ qL_moreToSell_23 rfl ?_
      refine g_ireturn hC dL_moreToSell_24 hr ⟨by rw [h0], rfl, Or.inl ⟨h0, V1, h2, e9⟩⟩ gs_rfl ⟨Nat.le_of_ble_eq_true rfl, Nat.le_of_ble_eq_true rfl⟩
    · rcases h3 with h | h | h <;> exact nomatch h.2
  · obtain ⟨rfl, ⟨_, h1, _⟩ | ⟨hF, h3⟩⟩ := h
    · cases h1
    · rcases h3 with ⟨hc, he⟩ | ⟨hc, he⟩ | ⟨hc, he⟩
      · cases he
        refine g_catch hC (X := gxI) [] ⟨0, 12, 15, 21⟩ [⟨0, 12, 19, 13⟩] (hex.trans rfl) (fun w hw => ?_) rfl (by decide) lL_21 List.mem_cons_self (fun q hq => ?_)
        · cases hw
        refine gB hC _ _ _ _ _ _ _ (show decB cL_moreToSell 15 [.astore 5, .iconst 1] 18 = true by decide +kernel) rfl ?_
        refine g_ireturn hC dL_moreToSell_18 hr ⟨by rw [hc], rfl, Or.inr ⟨by omega, hF⟩⟩ gs_rfl ⟨Nat.le_of_ble_eq_true rfl, Nat.le_of_ble_eq_true rfl⟩
      · cases he
        refine g_catch hC (X := gxA) [⟨0, 12, 15, 21⟩] ⟨0, 12, 19, 13⟩ [] (hex.trans rfl) (fun w hw => ?_) rfl (by decide) lL_13 (List.mem_cons_of_mem _ List.mem_cons_self) (fun q hq => ?_)
        · obtain rfl := List.mem_singleton.mp hw
          exact Or.inr ⟨by decide, gxI, lL_21, (List.mem_cons_of_mem _ List.mem_cons_self), List.mem_cons_self, by decide⟩
        refine gB hC _ _ _ _ _ _ _ (show decB cL_moreToSell 19 [.astore 5, .iconst 2] 22 = true by decide +kernel) rfl ?_
        refine g_ireturn hC dL_moreToSell_22 hr ⟨by rw [hc], rfl, Or.inr ⟨by omega, hF⟩⟩ gs_rfl ⟨Nat.le_of_ble_eq_true rfl, Nat.le_of_ble_eq_true rfl⟩
      · exact absurd hc h3
theorem wL_needed_of {E l Sh V z} {x o a0 C r : Int} {FS FF : gV → Prop} (hx : Sh x = some (10, 0)) (ho : Sh o = some (101, 1)) (h2 : C ≠ 2) (h3 : C ≠ 3) (hM : ∀ z, gM E l yX11_needed (.code yX11_needed cX11_needed 2 (some .int)) (rmk 11 60 600 420) [(2, x), (0, a0)] Sh V z (gRk C gxI "" "" (0, r) FS FF Sh)) :
    gM E l yL_needed (.codeWith yL_needed cL_needed 4 (some .int) [(0, 9, 12, 21)]) (rmk 12 60 600 460) [(2, x), (0, a0), (2, o)] Sh V z (gWk C (wI r) o FS FF Sh) := by
  refine gM_atW (L0 := [(2, x), (0, a0), (2, o), (9, 0)]) rfl rfl rfl ?_
  intro p e s m args below meth c hC hr hex hz
  refine gB hC _ _ _ _ _ _ _ qL_needed_0 rfl ?_
  refine g_callV hC _ dL_needed_4 mL_85 vX11_needed (hM _) rfl hx (by decide) rfl (Nat.le_of_ble_eq_true rfl) (RR rfl rfl rfl rfl) (fun r0 S1 V1 z1 h => ?_) (fun X S1 V1 z1 h => ?_)
  · obtain ⟨rfl, ⟨h0, h1, h2⟩ | ⟨_, h3⟩⟩ := h
    · cases h1
      refine g_wrap1 ?_
      refine g_i2l hC dL_needed_7 (wI_in _) ?_
      refine g_lst hC dL_needed_8 ho (by decide) (by decide) (by decide) (wI_L _) (fun V9 e9 => ?_)
      refine gB hC _ _ _ _ _ _ _ qL_needed_9 rfl ?_
      refine gB hC _ _ _ _ _ _ _ qL_needed_15 rfl ?_
      refine g_ireturn hC dL_needed_16 hr ⟨by rw [h0], rfl, Or.inl ⟨h0, V1, h2, e9⟩⟩ gs_rfl ⟨Nat.le_of_ble_eq_true rfl, Nat.le_of_ble_eq_true rfl⟩
    · rcases h3 with h | h | h <;> exact nomatch h.2
  · obtain ⟨rfl, ⟨_, h1, _⟩ | ⟨hF, h3⟩⟩ := h
    · cases h1
    · rcases h3 with ⟨hc, he⟩ | ⟨hc, he⟩ | ⟨hc, he⟩
      · cases he
        refine g_catch hC (X := gxI) [] ⟨0, 9, 12, 21⟩ [] (hex.trans rfl) (fun w hw => ?_) rfl (by decide) lL_21 List.mem_cons_self (fun q hq => ?_)
        · cases hw
        refine gB hC _ _ _ _ _ _ _ (show decB cL_needed 12 [.astore_n 3, .iconst 1] 14 = true by decide +kernel) rfl ?_
        refine g_ireturn hC dL_needed_14 hr ⟨by rw [hc], rfl, Or.inr ⟨by omega, hF⟩⟩ gs_rfl ⟨Nat.le_of_ble_eq_true rfl, Nat.le_of_ble_eq_true rfl⟩
      · exact absurd hc h2
      · exact absurd hc h3
theorem wL_offer_of {E l Sh V z} {x o a0 C r : Int} {FS FF : gV → Prop} (hx : Sh x = some (10, 0)) (ho : Sh o = some (101, 1)) (h3 : C ≠ 3) (hM : ∀ z, gM E l yX11_offer (.code yX11_offer cX11_offer 2 (some .int)) (rmk 11 60 600 420) [(2, x), (0, a0)] Sh V z (gRk C gxA gxS "" (0, r) FS FF Sh)) :
    gM E l yL_offer (.codeWith yL_offer cL_offer 4 (some .int) [(0, 9, 12, 13), (0, 9, 15, 15)]) (rmk 12 60 600 460) [(2, x), (0, a0), (2, o)] Sh V z (gWk C (wI r) o FS FF Sh) := by
  refine gM_atW (L0 := [(2, x), (0, a0), (2, o), (9, 0)]) rfl rfl rfl ?_
  intro p e s m args below meth c hC hr hex hz
  refine gB hC _ _ _ _ _ _ _ qL_offer_0 rfl ?_
  refine g_callV hC _ dL_offer_4 mL_70 vX11_offer (hM _) rfl hx (by decide) rfl (Nat.le_of_ble_eq_true rfl) (RR rfl rfl rfl rfl) (fun r0 S1 V1 z1 h => ?_) (fun X S1 V1 z1 h => ?_)
  · obtain ⟨rfl, ⟨h0, h1, h2⟩ | ⟨_, h3⟩⟩ := h
    · cases h1
      refine g_wrap1 ?_
      refine g_i2l hC dL_offer_7 (wI_in _) ?_
      refine g_lst hC dL_offer_8 ho (by decide) (by decide) (by decide) (wI_L _) (fun V9 e9 => ?_)
      refine gB hC _ _ _ _ _ _ _ qL_offer_9 rfl ?_
      refine gB hC _ _ _ _ _ _ _ qL_offer_18 rfl ?_
      refine g_ireturn hC dL_offer_19 hr ⟨by rw [h0], rfl, Or.inl ⟨h0, V1, h2, e9⟩⟩ gs_rfl ⟨Nat.le_of_ble_eq_true rfl, Nat.le_of_ble_eq_true rfl⟩
    · rcases h3 with h | h | h <;> exact nomatch h.2
  · obtain ⟨rfl, ⟨_, h1, _⟩ | ⟨hF, h3⟩⟩ := h
    · cases h1
    · rcases h3 with ⟨hc, he⟩ | ⟨hc, he⟩ | ⟨hc, he⟩
      · cases he
        refine g_catch hC (X := gxA) [] ⟨0, 9, 12, 13⟩ [⟨0, 9, 15, 15⟩] (hex.trans rfl) (fun w hw => ?_) rfl (by decide) lL_13 (List.mem_cons_of_mem _ List.mem_cons_self) (fun q hq => ?_)
        · cases hw
        refine gB hC _ _ _ _ _ _ _ (show decB cL_offer 12 [.astore_n 3, .iconst 1] 14 = true by decide +kernel) rfl ?_
        refine g_ireturn hC dL_offer_14 hr ⟨by rw [hc], rfl, Or.inr ⟨by omega, hF⟩⟩ gs_rfl ⟨Nat.le_of_ble_eq_true rfl, Nat.le_of_ble_eq_true rfl⟩
      · cases he
        refine g_catch hC (X := gxS) [⟨0, 9, 12, 13⟩] ⟨0, 9, 15, 15⟩ [] (hex.trans rfl) (fun w hw => ?_) rfl (by decide) lL_15 (List.mem_cons_of_mem _ (List.mem_cons_of_mem _ List.mem_cons_self)) (fun q hq => ?_)
        · obtain rfl := List.mem_singleton.mp hw
          exact Or.inr ⟨by decide, gxA, lL_13, (List.mem_cons_of_mem _ (List.mem_cons_of_mem _ List.mem_cons_self)), (List.mem_cons_of_mem _ List.mem_cons_self), by decide⟩
        refine gB hC _ _ _ _ _ _ _ (show decB cL_offer 15 [.astore_n 3, .iconst 2] 17 = true by decide +kernel) rfl ?_
        refine g_ireturn hC dL_offer_17 hr ⟨by rw [hc], rfl, Or.inr ⟨by omega, hF⟩⟩ gs_rfl ⟨Nat.le_of_ble_eq_true rfl, Nat.le_of_ble_eq_true rfl⟩
      · exact absurd hc h3
theorem wL_passes_of {E l Sh V z} {x o a0 C r : Int} {FS FF : gV → Prop} (hx : Sh x = some (10, 0)) (ho : Sh o = some (101, 1)) (h2 : C ≠ 2) (h3 : C ≠ 3) (hM : ∀ z, gM E l yX11_passes (.code yX11_passes cX11_passes 3 (some .int)) (rmk 11 60 600 420) [(2, x), (0, a0)] Sh V z (gRk C gxA "" "" (0, r) FS FF Sh)) :
    gM E l yL_passes (.codeWith yL_passes cL_passes 4 (some .int) [(0, 9, 12, 13)]) (rmk 12 60 600 460) [(2, x), (0, a0), (2, o)] Sh V z (gWk C (wI r) o FS FF Sh) := by
  refine gM_atW (L0 := [(2, x), (0, a0), (2, o), (9, 0)]) rfl rfl rfl ?_
  intro p e s m args below meth c hC hr hex hz
  refine gB hC _ _ _ _ _ _ _ qL_passes_0 rfl ?_
  refine g_callV hC _ dL_passes_4 mL_60 vX11_passes (hM _) rfl hx (by decide) rfl (Nat.le_of_ble_eq_true rfl) (RR rfl rfl rfl rfl) (fun r0 S1 V1 z1 h => ?_) (fun X S1 V1 z1 h => ?_)
  · obtain ⟨rfl, ⟨h0, h1, h2⟩ | ⟨_, h3⟩⟩ := h
    · cases h1
      refine g_wrap1 ?_
      refine g_i2l hC dL_passes_7 (wI_in _) ?_
      refine g_lst hC dL_passes_8 ho (by decide) (by decide) (by decide) (wI_L _) (fun V9 e9 => ?_)
      refine gB hC _ _ _ _ _ _ _ qL_passes_9 rfl ?_
      refine gB hC _ _ _ _ _ _ _ qL_passes_15 rfl ?_
      refine g_ireturn hC dL_passes_16 hr ⟨by rw [h0], rfl, Or.inl ⟨h0, V1, h2, e9⟩⟩ gs_rfl ⟨Nat.le_of_ble_eq_true rfl, Nat.le_of_ble_eq_true rfl⟩
    · rcases h3 with h | h | h <;> exact nomatch h.2
  · obtain ⟨rfl, ⟨_, h1, _⟩ | ⟨hF, h3⟩⟩ := h
    · cases h1
    · rcases h3 with ⟨hc, he⟩ | ⟨hc, he⟩ | ⟨hc, he⟩
      · cases he
        refine g_catch hC (X := gxA) [] ⟨0, 9, 12, 13⟩ [] (hex.trans rfl) (fun w hw => ?_) rfl (by decide) lL_13 (List.mem_cons_of_mem _ List.mem_cons_self) (fun q hq => ?_)
        · cases hw
        refine gB hC _ _ _ _ _ _ _ (show decB cL_passes 12 [.astore_n 3, .iconst 1] 14 = true by decide +kernel) rfl ?_
        refine g_ireturn hC dL_passes_14 hr ⟨by rw [hc], rfl, Or.inr ⟨by omega, hF⟩⟩ gs_rfl ⟨Nat.le_of_ble_eq_true rfl, Nat.le_of_ble_eq_true rfl⟩
      · exact absurd hc h2
      · exact absurd hc h3
theorem wL_pay_of {E l Sh V z} {x o a0 C r : Int} {FS FF : gV → Prop} (hx : Sh x = some (10, 0)) (ho : Sh o = some (101, 1)) (h3 : C ≠ 3) (hM : ∀ z, gM E l yX11_pay (.code yX11_pay cX11_pay 3 (some .int)) (rmk 11 60 600 420) [(2, x), (0, a0)] Sh V z (gRk C gxI gxS "" (0, r) FS FF Sh)) :
    gM E l yL_pay (.codeWith yL_pay cL_pay 4 (some .int) [(0, 9, 12, 21), (0, 9, 15, 15)]) (rmk 12 60 600 460) [(2, x), (0, a0), (2, o)] Sh V z (gWk C (wI r) o FS FF Sh) := by
  refine gM_atW (L0 := [(2, x), (0, a0), (2, o), (9, 0)]) rfl rfl rfl ?_
  intro p e s m args below meth c hC hr hex hz
  refine gB hC _ _ _ _ _ _ _ qL_pay_0 rfl ?_
  refine g_callV hC _ dL_pay_4 mL_48 vX11_pay (hM _) rfl hx (by decide) rfl (Nat.le_of_ble_eq_true rfl) (RR rfl rfl rfl rfl) (fun r0 S1 V1 z1 h => ?_) (fun X S1 V1 z1 h => ?_)
  · obtain ⟨rfl, ⟨h0, h1, h2⟩ | ⟨_, h3⟩⟩ := h
    · cases h1
      refine g_wrap1 ?_
      refine g_i2l hC dL_pay_7 (wI_in _) ?_
      refine g_lst hC dL_pay_8 ho (by decide) (by decide) (by decide) (wI_L _) (fun V9 e9 => ?_)
      refine gB hC _ _ _ _ _ _ _ qL_pay_9 rfl ?_
      refine gB hC _ _ _ _ _ _ _ qL_pay_18 rfl ?_
      refine g_ireturn hC dL_pay_19 hr ⟨by rw [h0], rfl, Or.inl ⟨h0, V1, h2, e9⟩⟩ gs_rfl ⟨Nat.le_of_ble_eq_true rfl, Nat.le_of_ble_eq_true rfl⟩
    · rcases h3 with h | h | h <;> exact nomatch h.2
  · obtain ⟨rfl, ⟨_, h1, _⟩ | ⟨hF, h3⟩⟩ := h
    · cases h1
    · rcases h3 with ⟨hc, he⟩ | ⟨hc, he⟩ | ⟨hc, he⟩
      · cases he
        refine g_catch hC (X := gxI) [] ⟨0, 9, 12, 21⟩ [⟨0, 9, 15, 15⟩] (hex.trans rfl) (fun w hw => ?_) rfl (by decide) lL_21 List.mem_cons_self (fun q hq => ?_)
        · cases hw
        refine gB hC _ _ _ _ _ _ _ (show decB cL_pay 12 [.astore_n 3, .iconst 1] 14 = true by decide +kernel) rfl ?_
        refine g_ireturn hC dL_pay_14 hr ⟨by rw [hc], rfl, Or.inr ⟨by omega, hF⟩⟩ gs_rfl ⟨Nat.le_of_ble_eq_true rfl, Nat.le_of_ble_eq_true rfl⟩
      · cases he
        refine g_catch hC (X := gxS) [⟨0, 9, 12, 21⟩] ⟨0, 9, 15, 15⟩ [] (hex.trans rfl) (fun w hw => ?_) rfl (by decide) lL_15 (List.mem_cons_of_mem _ (List.mem_cons_of_mem _ List.mem_cons_self)) (fun q hq => ?_)
        · obtain rfl := List.mem_singleton.mp hw
          exact Or.inr ⟨by decide, gxI, lL_21, (List.mem_cons_of_mem _ (List.mem_cons_of_mem _ List.mem_cons_self)), List.mem_cons_self, by decide⟩
        refine gB hC _ _ _ _ _ _ _ (show decB cL_pay 15 [.astore_n 3, .iconst 2] 17 = true by decide +kernel) rfl ?_
        refine g_ireturn hC dL_pay_17 hr ⟨by rw [hc], rfl, Or.inr ⟨by omega, hF⟩⟩ gs_rfl ⟨Nat.le_of_ble_eq_true rfl, Nat.le_of_ble_eq_true rfl⟩
      · exact absurd hc h3
theorem wL_priceOf_of {E l Sh V z} {x o a0 a1 C r : Int} {FS FF : gV → Prop} (hx : Sh x = some (10, 0)) (ho : Sh o = some (101, 1)) (h3 : C ≠ 3) (hM : ∀ z, gM E l yX11_priceOf (.code yX11_priceOf cX11_priceOf 3 (some .int)) (rmk 11 60 600 420) [(2, x), (0, a0), (0, a1)] Sh V z (gRk C gxI gxA "" (0, r) FS FF Sh)) :
    gM E l yL_priceOf (.codeWith yL_priceOf cL_priceOf 5 (some .int) [(0, 10, 13, 21), (0, 10, 17, 13)]) (rmk 12 60 600 460) [(2, x), (0, a0), (0, a1), (2, o)] Sh V z (gWk C (wI r) o FS FF Sh) := by
  refine gM_atW (L0 := [(2, x), (0, a0), (0, a1), (2, o), (9, 0)]) rfl rfl rfl ?_
  intro p e s m args below meth c hC hr hex hz
  refine gB hC _ _ _ _ _ _ _ qL_priceOf_0 rfl ?_
  refine g_callV hC _ dL_priceOf_5 mL_94 vX11_priceOf (hM _) rfl hx (by decide) rfl (Nat.le_of_ble_eq_true rfl) (RR rfl rfl rfl rfl) (fun r0 S1 V1 z1 h => ?_) (fun X S1 V1 z1 h => ?_)
  · obtain ⟨rfl, ⟨h0, h1, h2⟩ | ⟨_, h3⟩⟩ := h
    · cases h1
      refine g_wrap1 ?_
      refine g_i2l hC dL_priceOf_8 (wI_in _) ?_
      refine g_lst hC dL_priceOf_9 ho (by decide) (by decide) (by decide) (wI_L _) (fun V9 e9 => ?_)
      refine gB hC _ _ _ _ _ _ _ qL_priceOf_10 rfl ?_
      refine gB hC _ _ _ _ _ _ _ qL_priceOf_21 rfl ?_
      refine g_ireturn hC dL_priceOf_22 hr ⟨by rw [h0], rfl, Or.inl ⟨h0, V1, h2, e9⟩⟩ gs_rfl ⟨Nat.le_of_ble_eq_true rfl, Nat.le_of_ble_eq_true rfl⟩
    · rcases h3 with h | h | h <;> exact nomatch h.2
  · obtain ⟨rfl, ⟨_, h1, _⟩ | ⟨hF, h3⟩⟩ := h
    · cases h1
    · rcases h3 with ⟨hc, he⟩ | ⟨hc, he⟩ | ⟨hc, he⟩
      · cases he
        refine g_catch hC (X := gxI) [] ⟨0, 10, 13, 21⟩ [⟨0, 10, 17, 13⟩] (hex.trans rfl) (fun w hw => ?_) rfl (by decide) lL_21 List.mem_cons_self (fun q hq => ?_)
        · cases hw
        refine gB hC _ _ _ _ _ _ _ (show decB cL_priceOf 13 [.astore 4, .iconst 1] 16 = true by decide +kernel) rfl ?_
        refine g_ireturn hC dL_priceOf_16 hr ⟨by rw [hc], rfl, Or.inr ⟨by omega, hF⟩⟩ gs_rfl ⟨Nat.le_of_ble_eq_true rfl, Nat.le_of_ble_eq_true rfl⟩
      · cases he
        refine g_catch hC (X := gxA) [⟨0, 10, 13, 21⟩] ⟨0, 10, 17, 13⟩ [] (hex.trans rfl) (fun w hw => ?_) rfl (by decide) lL_13 (List.mem_cons_of_mem _ List.mem_cons_self) (fun q hq => ?_)
        · obtain rfl := List.mem_singleton.mp hw
          exact Or.inr ⟨by decide, gxI, lL_21, (List.mem_cons_of_mem _ List.mem_cons_self), List.mem_cons_self, by decide⟩
        refine gB hC _ _ _ _ _ _ _ (show decB cL_priceOf 17 [.astore 4, .iconst 2] 20 = true by decide +kernel) rfl ?_
        refine g_ireturn hC dL_priceOf_20 hr ⟨by rw [hc], rfl, Or.inr ⟨by omega, hF⟩⟩ gs_rfl ⟨Nat.le_of_ble_eq_true rfl, Nat.le_of_ble_eq_true rfl⟩
      · exact absurd hc h3
theorem wL_refund_of {E l Sh V z} {x o a0 C r : Int} {FS FF : gV → Prop} (hx : Sh x = some (10, 0)) (ho : Sh o = some (101, 1)) (h2 : C ≠ 2) (h3 : C ≠ 3) (hM : ∀ z, gM E l yX11_refund (.code yX11_refund cX11_refund 2 (some .int)) (rmk 11 60 600 420) [(2, x), (0, a0)] Sh V z (gRk C gxI "" "" (0, r) FS FF Sh)) :
    gM E l yL_refund (.codeWith yL_refund cL_refund 4 (some .int) [(0, 9, 12, 21)]) (rmk 12 60 600 460) [(2, x), (0, a0), (2, o)] Sh V z (gWk C (wI r) o FS FF Sh) := by
  refine gM_atW (L0 := [(2, x), (0, a0), (2, o), (9, 0)]) rfl rfl rfl ?_
  intro p e s m args below meth c hC hr hex hz
  refine gB hC _ _ _ _ _ _ _ qL_refund_0 rfl ?_
  refine g_callV hC _ dL_refund_4 mL_97 vX11_refund (hM _) rfl hx (by decide) rfl (Nat.le_of_ble_eq_true rfl) (RR rfl rfl rfl rfl) (fun r0 S1 V1 z1 h => ?_) (fun X S1 V1 z1 h => ?_)
  · obtain ⟨rfl, ⟨h0, h1, h2⟩ | ⟨_, h3⟩⟩ := h
    · cases h1
      refine g_wrap1 ?_
      refine g_i2l hC dL_refund_7 (wI_in _) ?_
      refine g_lst hC dL_refund_8 ho (by decide) (by decide) (by decide) (wI_L _) (fun V9 e9 => ?_)
      refine gB hC _ _ _ _ _ _ _ qL_refund_9 rfl ?_
      refine gB hC _ _ _ _ _ _ _ qL_refund_15 rfl ?_
      refine g_ireturn hC dL_refund_16 hr ⟨by rw [h0], rfl, Or.inl ⟨h0, V1, h2, e9⟩⟩ gs_rfl ⟨Nat.le_of_ble_eq_true rfl, Nat.le_of_ble_eq_true rfl⟩
    · rcases h3 with h | h | h <;> exact nomatch h.2
  · obtain ⟨rfl, ⟨_, h1, _⟩ | ⟨hF, h3⟩⟩ := h
    · cases h1
    · rcases h3 with ⟨hc, he⟩ | ⟨hc, he⟩ | ⟨hc, he⟩
      · cases he
        refine g_catch hC (X := gxI) [] ⟨0, 9, 12, 21⟩ [] (hex.trans rfl) (fun w hw => ?_) rfl (by decide) lL_21 List.mem_cons_self (fun q hq => ?_)
        · cases hw
        refine gB hC _ _ _ _ _ _ _ (show decB cL_refund 12 [.astore_n 3, .iconst 1] 14 = true by decide +kernel) rfl ?_
        refine g_ireturn hC dL_refund_14 hr ⟨by rw [hc], rfl, Or.inr ⟨by omega, hF⟩⟩ gs_rfl ⟨Nat.le_of_ble_eq_true rfl, Nat.le_of_ble_eq_true rfl⟩
      · exact absurd hc h2
      · exact absurd hc h3
theorem wL_roomOf_of {E l Sh V z} {x o a0 C r : Int} {FS FF : gV → Prop} (hx : Sh x = some (10, 0)) (ho : Sh o = some (101, 1)) (h3 : C ≠ 3) (hM : ∀ z, gM E l yX11_roomOf (.code yX11_roomOf cX11_roomOf 3 (some .int)) (rmk 11 60 600 420) [(2, x), (0, a0)] Sh V z (gRk C gxI gxS "" (0, r) FS FF Sh)) :
    gM E l yL_roomOf (.codeWith yL_roomOf cL_roomOf 4 (some .int) [(0, 9, 12, 21), (0, 9, 15, 15)]) (rmk 12 60 600 460) [(2, x), (0, a0), (2, o)] Sh V z (gWk C (wI r) o FS FF Sh) := by
  refine gM_atW (L0 := [(2, x), (0, a0), (2, o), (9, 0)]) rfl rfl rfl ?_
  intro p e s m args below meth c hC hr hex hz
  refine gB hC _ _ _ _ _ _ _ qL_roomOf_0 rfl ?_
  refine g_callV hC _ dL_roomOf_4 mL_91 vX11_roomOf (hM _) rfl hx (by decide) rfl (Nat.le_of_ble_eq_true rfl) (RR rfl rfl rfl rfl) (fun r0 S1 V1 z1 h => ?_) (fun X S1 V1 z1 h => ?_)
  · obtain ⟨rfl, ⟨h0, h1, h2⟩ | ⟨_, h3⟩⟩ := h
    · cases h1
      refine g_wrap1 ?_
      refine g_i2l hC dL_roomOf_7 (wI_in _) ?_
      refine g_lst hC dL_roomOf_8 ho (by decide) (by decide) (by decide) (wI_L _) (fun V9 e9 => ?_)
      refine gB hC _ _ _ _ _ _ _ qL_roomOf_9 rfl ?_
      refine gB hC _ _ _ _ _ _ _ qL_roomOf_18 rfl ?_
      refine g_ireturn hC dL_roomOf_19 hr ⟨by rw [h0], rfl, Or.inl ⟨h0, V1, h2, e9⟩⟩ gs_rfl ⟨Nat.le_of_ble_eq_true rfl, Nat.le_of_ble_eq_true rfl⟩
    · rcases h3 with h | h | h <;> exact nomatch h.2
  · obtain ⟨rfl, ⟨_, h1, _⟩ | ⟨hF, h3⟩⟩ := h
    · cases h1
    · rcases h3 with ⟨hc, he⟩ | ⟨hc, he⟩ | ⟨hc, he⟩
      · cases he
        refine g_catch hC (X := gxI) [] ⟨0, 9, 12, 21⟩ [⟨0, 9, 15, 15⟩] (hex.trans rfl) (fun w hw => ?_) rfl (by decide) lL_21 List.mem_cons_self (fun q hq => ?_)
        · cases hw
        refine gB hC _ _ _ _ _ _ _ (show decB cL_roomOf 12 [.astore_n 3, .iconst 1] 14 = true by decide +kernel) rfl ?_
        refine g_ireturn hC dL_roomOf_14 hr ⟨by rw [hc], rfl, Or.inr ⟨by omega, hF⟩⟩ gs_rfl ⟨Nat.le_of_ble_eq_true rfl, Nat.le_of_ble_eq_true rfl⟩
      · cases he
        refine g_catch hC (X := gxS) [⟨0, 9, 12, 21⟩] ⟨0, 9, 15, 15⟩ [] (hex.trans rfl) (fun w hw => ?_) rfl (by decide) lL_15 (List.mem_cons_of_mem _ (List.mem_cons_of_mem _ List.mem_cons_self)) (fun q hq => ?_)
        · obtain rfl := List.mem_singleton.mp hw
          exact Or.inr ⟨by decide, gxI, lL_21, (List.mem_cons_of_mem _ (List.mem_cons_of_mem _ List.mem_cons_self)), List.mem_cons_self, by decide⟩
        refine gB hC _ _ _ _ _ _ _ (show decB cL_roomOf 15 [.astore_n 3, .iconst 2] 17 = true by decide +kernel) rfl ?_
        refine g_ireturn hC dL_roomOf_17 hr ⟨by rw [hc], rfl, Or.inr ⟨by omega, hF⟩⟩ gs_rfl ⟨Nat.le_of_ble_eq_true rfl, Nat.le_of_ble_eq_true rfl⟩
      · exact absurd hc h3
theorem wL_rounds_of {E l Sh V z} {x o a0 C r : Int} {FS FF : gV → Prop} (hx : Sh x = some (10, 0)) (ho : Sh o = some (101, 1)) (h2 : C ≠ 2) (h3 : C ≠ 3) (hM : ∀ z, gM E l yX11_rounds (.code yX11_rounds cX11_rounds 3 (some .int)) (rmk 11 60 600 420) [(2, x), (0, a0)] Sh V z (gRk C gxA "" "" (0, r) FS FF Sh)) :
    gM E l yL_rounds (.codeWith yL_rounds cL_rounds 4 (some .int) [(0, 9, 12, 13)]) (rmk 12 60 600 460) [(2, x), (0, a0), (2, o)] Sh V z (gWk C (wI r) o FS FF Sh) := by
  refine gM_atW (L0 := [(2, x), (0, a0), (2, o), (9, 0)]) rfl rfl rfl ?_
  intro p e s m args below meth c hC hr hex hz
  refine gB hC _ _ _ _ _ _ _ qL_rounds_0 rfl ?_
  refine g_callV hC _ dL_rounds_4 mL_120 vX11_rounds (hM _) rfl hx (by decide) rfl (Nat.le_of_ble_eq_true rfl) (RR rfl rfl rfl rfl) (fun r0 S1 V1 z1 h => ?_) (fun X S1 V1 z1 h => ?_)
  · obtain ⟨rfl, ⟨h0, h1, h2⟩ | ⟨_, h3⟩⟩ := h
    · cases h1
      refine g_wrap1 ?_
      refine g_i2l hC dL_rounds_7 (wI_in _) ?_
      refine g_lst hC dL_rounds_8 ho (by decide) (by decide) (by decide) (wI_L _) (fun V9 e9 => ?_)
      refine gB hC _ _ _ _ _ _ _ qL_rounds_9 rfl ?_
      refine gB hC _ _ _ _ _ _ _ qL_rounds_15 rfl ?_
      refine g_ireturn hC dL_rounds_16 hr ⟨by rw [h0], rfl, Or.inl ⟨h0, V1, h2, e9⟩⟩ gs_rfl ⟨Nat.le_of_ble_eq_true rfl, Nat.le_of_ble_eq_true rfl⟩
    · rcases h3 with h | h | h <;> exact nomatch h.2
  · obtain ⟨rfl, ⟨_, h1, _⟩ | ⟨hF, h3⟩⟩ := h
    · cases h1
    · rcases h3 with ⟨hc, he⟩ | ⟨hc, he⟩ | ⟨hc, he⟩
      · cases he
        refine g_catch hC (X := gxA) [] ⟨0, 9, 12, 13⟩ [] (hex.trans rfl) (fun w hw => ?_) rfl (by decide) lL_13 (List.mem_cons_of_mem _ List.mem_cons_self) (fun q hq => ?_)
        · cases hw
        refine gB hC _ _ _ _ _ _ _ (show decB cL_rounds 12 [.astore_n 3, .iconst 1] 14 = true by decide +kernel) rfl ?_
        refine g_ireturn hC dL_rounds_14 hr ⟨by rw [hc], rfl, Or.inr ⟨by omega, hF⟩⟩ gs_rfl ⟨Nat.le_of_ble_eq_true rfl, Nat.le_of_ble_eq_true rfl⟩
      · exact absurd hc h2
      · exact absurd hc h3
theorem wL_saleAt_of {E l Sh V z} {x o a0 C r : Int} {FS FF : gV → Prop} (hx : Sh x = some (10, 0)) (ho : Sh o = some (101, 1)) (h3 : C ≠ 3) (hM : ∀ z, gM E l yX11_saleAt (.code yX11_saleAt cX11_saleAt 2 (some .int)) (rmk 11 60 600 420) [(2, x), (0, a0)] Sh V z (gRk C gxA gxS "" (0, r) FS FF Sh)) :
    gM E l yL_saleAt (.codeWith yL_saleAt cL_saleAt 4 (some .int) [(0, 9, 12, 13), (0, 9, 15, 15)]) (rmk 12 60 600 460) [(2, x), (0, a0), (2, o)] Sh V z (gWk C (wI r) o FS FF Sh) := by
  refine gM_atW (L0 := [(2, x), (0, a0), (2, o), (9, 0)]) rfl rfl rfl ?_
  intro p e s m args below meth c hC hr hex hz
  refine gB hC _ _ _ _ _ _ _ qL_saleAt_0 rfl ?_
  refine g_callV hC _ dL_saleAt_4 mL_111 vX11_saleAt (hM _) rfl hx (by decide) rfl (Nat.le_of_ble_eq_true rfl) (RR rfl rfl rfl rfl) (fun r0 S1 V1 z1 h => ?_) (fun X S1 V1 z1 h => ?_)
  · obtain ⟨rfl, ⟨h0, h1, h2⟩ | ⟨_, h3⟩⟩ := h
    · cases h1
      refine g_wrap1 ?_
      refine g_i2l hC dL_saleAt_7 (wI_in _) ?_
      refine g_lst hC dL_saleAt_8 ho (by decide) (by decide) (by decide) (wI_L _) (fun V9 e9 => ?_)
      refine gB hC _ _ _ _ _ _ _ qL_saleAt_9 rfl ?_
      refine gB hC _ _ _ _ _ _ _ qL_saleAt_18 rfl ?_
      refine g_ireturn hC dL_saleAt_19 hr ⟨by rw [h0], rfl, Or.inl ⟨h0, V1, h2, e9⟩⟩ gs_rfl ⟨Nat.le_of_ble_eq_true rfl, Nat.le_of_ble_eq_true rfl⟩
    · rcases h3 with h | h | h <;> exact nomatch h.2
  · obtain ⟨rfl, ⟨_, h1, _⟩ | ⟨hF, h3⟩⟩ := h
    · cases h1
    · rcases h3 with ⟨hc, he⟩ | ⟨hc, he⟩ | ⟨hc, he⟩
      · cases he
        refine g_catch hC (X := gxA) [] ⟨0, 9, 12, 13⟩ [⟨0, 9, 15, 15⟩] (hex.trans rfl) (fun w hw => ?_) rfl (by decide) lL_13 (List.mem_cons_of_mem _ List.mem_cons_self) (fun q hq => ?_)
        · cases hw
        refine gB hC _ _ _ _ _ _ _ (show decB cL_saleAt 12 [.astore_n 3, .iconst 1] 14 = true by decide +kernel) rfl ?_
        refine g_ireturn hC dL_saleAt_14 hr ⟨by rw [hc], rfl, Or.inr ⟨by omega, hF⟩⟩ gs_rfl ⟨Nat.le_of_ble_eq_true rfl, Nat.le_of_ble_eq_true rfl⟩
      · cases he
        refine g_catch hC (X := gxS) [⟨0, 9, 12, 13⟩] ⟨0, 9, 15, 15⟩ [] (hex.trans rfl) (fun w hw => ?_) rfl (by decide) lL_15 (List.mem_cons_of_mem _ (List.mem_cons_of_mem _ List.mem_cons_self)) (fun q hq => ?_)
        · obtain rfl := List.mem_singleton.mp hw
          exact Or.inr ⟨by decide, gxA, lL_13, (List.mem_cons_of_mem _ (List.mem_cons_of_mem _ List.mem_cons_self)), (List.mem_cons_of_mem _ List.mem_cons_self), by decide⟩
        refine gB hC _ _ _ _ _ _ _ (show decB cL_saleAt 15 [.astore_n 3, .iconst 2] 17 = true by decide +kernel) rfl ?_
        refine g_ireturn hC dL_saleAt_17 hr ⟨by rw [hc], rfl, Or.inr ⟨by omega, hF⟩⟩ gs_rfl ⟨Nat.le_of_ble_eq_true rfl, Nat.le_of_ble_eq_true rfl⟩
      · exact absurd hc h3
theorem wL_sell_of {E l Sh V z} {x o a0 a1 C r : Int} {FS FF : gV → Prop} (hx : Sh x = some (10, 0)) (ho : Sh o = some (101, 1)) (h2 : C ≠ 2) (h3 : C ≠ 3) (hM : ∀ z, gM E l yX11_sell (.code yX11_sell cX11_sell 3 (some .int)) (rmk 11 60 600 420) [(2, x), (0, a0), (0, a1)] Sh V z (gRk C gxA "" "" (0, r) FS FF Sh)) :
    gM E l yL_sell (.codeWith yL_sell cL_sell 5 (some .int) [(0, 10, 13, 13)]) (rmk 12 60 600 460) [(2, x), (0, a0), (0, a1), (2, o)] Sh V z (gWk C (wI r) o FS FF Sh) := by
  refine gM_atW (L0 := [(2, x), (0, a0), (0, a1), (2, o), (9, 0)]) rfl rfl rfl ?_
  intro p e s m args below meth c hC hr hex hz
  refine gB hC _ _ _ _ _ _ _ qL_sell_0 rfl ?_
  refine g_callV hC _ dL_sell_5 mL_67 vX11_sell (hM _) rfl hx (by decide) rfl (Nat.le_of_ble_eq_true rfl) (RR rfl rfl rfl rfl) (fun r0 S1 V1 z1 h => ?_) (fun X S1 V1 z1 h => ?_)
  · obtain ⟨rfl, ⟨h0, h1, h2⟩ | ⟨_, h3⟩⟩ := h
    · cases h1
      refine g_wrap1 ?_
      refine g_i2l hC dL_sell_8 (wI_in _) ?_
      refine g_lst hC dL_sell_9 ho (by decide) (by decide) (by decide) (wI_L _) (fun V9 e9 => ?_)
      refine gB hC _ _ _ _ _ _ _ qL_sell_10 rfl ?_
      refine gB hC _ _ _ _ _ _ _ qL_sell_17 rfl ?_
      refine g_ireturn hC dL_sell_18 hr ⟨by rw [h0], rfl, Or.inl ⟨h0, V1, h2, e9⟩⟩ gs_rfl ⟨Nat.le_of_ble_eq_true rfl, Nat.le_of_ble_eq_true rfl⟩
    · rcases h3 with h | h | h <;> exact nomatch h.2
  · obtain ⟨rfl, ⟨_, h1, _⟩ | ⟨hF, h3⟩⟩ := h
    · cases h1
    · rcases h3 with ⟨hc, he⟩ | ⟨hc, he⟩ | ⟨hc, he⟩
      · cases he
        refine g_catch hC (X := gxA) [] ⟨0, 10, 13, 13⟩ [] (hex.trans rfl) (fun w hw => ?_) rfl (by decide) lL_13 (List.mem_cons_of_mem _ List.mem_cons_self) (fun q hq => ?_)
        · cases hw
        refine gB hC _ _ _ _ _ _ _ (show decB cL_sell 13 [.astore 4, .iconst 1] 16 = true by decide +kernel) rfl ?_
        refine g_ireturn hC dL_sell_16 hr ⟨by rw [hc], rfl, Or.inr ⟨by omega, hF⟩⟩ gs_rfl ⟨Nat.le_of_ble_eq_true rfl, Nat.le_of_ble_eq_true rfl⟩
      · exact absurd hc h2
      · exact absurd hc h3
theorem wL_setExtra_of {E l Sh V z} {x o a0 a1 C r : Int} {FS FF : gV → Prop} (hx : Sh x = some (10, 0)) (ho : Sh o = some (101, 1)) (h3 : C ≠ 3) (hM : ∀ z, gM E l yX11_setExtra (.code yX11_setExtra cX11_setExtra 3 (some .int)) (rmk 11 60 600 420) [(2, x), (0, a0), (0, a1)] Sh V z (gRk C gxI gxA "" (0, r) FS FF Sh)) :
    gM E l yL_setExtra (.codeWith yL_setExtra cL_setExtra 5 (some .int) [(0, 10, 13, 21), (0, 10, 17, 13)]) (rmk 12 60 600 460) [(2, x), (0, a0), (0, a1), (2, o)] Sh V z (gWk C (wI r) o FS FF Sh) := by
  refine gM_atW (L0 := [(2, x), (0, a0), (0, a1), (2, o), (9, 0)]) rfl rfl rfl ?_
  intro p e s m args below meth c hC hr hex hz
  refine gB hC _ _ _ _ _ _ _ qL_setExtra_0 rfl ?_
  refine g_callV hC _ dL_setExtra_5 mL_23 vX11_setExtra (hM _) rfl hx (by decide) rfl (Nat.le_of_ble_eq_true rfl) (RR rfl rfl rfl rfl) (fun r0 S1 V1 z1 h => ?_) (fun X S1 V1 z1 h => ?_)
  · obtain ⟨rfl, ⟨h0, h1, h2⟩ | ⟨_, h3⟩⟩ := h
    · cases h1
      refine g_wrap1 ?_
      refine g_i2l hC dL_setExtra_8 (wI_in _) ?_
      refine g_lst hC dL_setExtra_9 ho (by decide) (by decide) (by decide) (wI_L _) (fun V9 e9 => ?_)
      refine gB hC _ _ _ _ _ _ _ qL_setExtra_10 rfl ?_
      refine gB hC _ _ _ _ _ _ _ qL_setExtra_21 rfl ?_
      refine g_ireturn hC dL_setExtra_22 hr ⟨by rw [h0], rfl, Or.inl ⟨h0, V1, h2, e9⟩⟩ gs_rfl ⟨Nat.le_of_ble_eq_true rfl, Nat.le_of_ble_eq_true rfl⟩
    · rcases h3 with h | h | h <;> exact nomatch h.2
  · obtain ⟨rfl, ⟨_, h1, _⟩ | ⟨hF, h3⟩⟩ := h
    · cases h1
    · rcases h3 with ⟨hc, he⟩ | ⟨hc, he⟩ | ⟨hc, he⟩
      · cases he
        refine g_catch hC (X := gxI) [] ⟨0, 10, 13, 21⟩ [⟨0, 10, 17, 13⟩] (hex.trans rfl) (fun w hw => ?_) rfl (by decide) lL_21 List.mem_cons_self (fun q hq => ?_)
        · cases hw
        refine gB hC _ _ _ _ _ _ _ (show decB cL_setExtra 13 [.astore 4, .iconst 1] 16 = true by decide +kernel) rfl ?_
        refine g_ireturn hC dL_setExtra_16 hr ⟨by rw [hc], rfl, Or.inr ⟨by omega, hF⟩⟩ gs_rfl ⟨Nat.le_of_ble_eq_true rfl, Nat.le_of_ble_eq_true rfl⟩
      · cases he
        refine g_catch hC (X := gxA) [⟨0, 10, 13, 21⟩] ⟨0, 10, 17, 13⟩ [] (hex.trans rfl) (fun w hw => ?_) rfl (by decide) lL_13 (List.mem_cons_of_mem _ List.mem_cons_self) (fun q hq => ?_)
        · obtain rfl := List.mem_singleton.mp hw
          exact Or.inr ⟨by decide, gxI, lL_21, (List.mem_cons_of_mem _ List.mem_cons_self), List.mem_cons_self, by decide⟩
        refine gB hC _ _ _ _ _ _ _ (show decB cL_setExtra 17 [.astore 4, .iconst 2] 20 = true by decide +kernel) rfl ?_
        refine g_ireturn hC dL_setExtra_20 hr ⟨by rw [hc], rfl, Or.inr ⟨by omega, hF⟩⟩ gs_rfl ⟨Nat.le_of_ble_eq_true rfl, Nat.le_of_ble_eq_true rfl⟩
      · exact absurd hc h3
theorem wL_setOdds_of {E l Sh V z} {x o a0 a1 a2 C r : Int} {FS FF : gV → Prop} (hx : Sh x = some (10, 0)) (ho : Sh o = some (101, 1)) (h3 : C ≠ 3) (hM : ∀ z, gM E l yX11_setOdds (.code yX11_setOdds cX11_setOdds 5 (some .int)) (rmk 11 60 600 420) [(2, x), (0, a0), (0, a1), (0, a2)] Sh V z (gRk C gxI gxA "" (0, r) FS FF Sh)) :
    gM E l yL_setOdds (.codeWith yL_setOdds cL_setOdds 6 (some .int) [(0, 12, 15, 21), (0, 12, 19, 13)]) (rmk 12 60 600 460) [(2, x), (0, a0), (0, a1), (0, a2), (2, o)] Sh V z (gWk C (wI r) o FS FF Sh) := by
  refine gM_atW (L0 := [(2, x), (0, a0), (0, a1), (0, a2), (2, o), (9, 0)]) rfl rfl rfl ?_
  intro p e s m args below meth c hC hr hex hz
  refine gB hC _ _ _ _ _ _ _ qL_setOdds_0 rfl ?_
  refine g_callV hC _ dL_setOdds_7 mL_63 vX11_setOdds (hM _) rfl hx (by decide) rfl (Nat.le_of_ble_eq_true rfl) (RR rfl rfl rfl rfl) (fun r0 S1 V1 z1 h => ?_) (fun X S1 V1 z1 h => ?_)
  · obtain ⟨rfl, ⟨h0, h1, h2⟩ | ⟨_, h3⟩⟩ := h
    · cases h1
      refine g_wrap1 ?_
      refine g_i2l hC dL_setOdds_10 (wI_in _) ?_
      refine g_lst hC dL_setOdds_11 ho (by decide) (by decide) (by decide) (wI_L _) (fun V9 e9 => ?_)
      refine gB hC _ _ _ _ _ _ _ qL_setOdds_12 rfl ?_
      refine gB hC _ _ _ _ _ _ _ qL_setOdds_23 rfl ?_
      refine g_ireturn hC dL_setOdds_24 hr ⟨by rw [h0], rfl, Or.inl ⟨h0, V1, h2, e9⟩⟩ gs_rfl ⟨Nat.le_of_ble_eq_true rfl, Nat.le_of_ble_eq_true rfl⟩
    · rcases h3 with h | h | h <;> exact nomatch h.2
  · obtain ⟨rfl, ⟨_, h1, _⟩ | ⟨hF, h3⟩⟩ := h
    · cases h1
    · rcases h3 with ⟨hc, he⟩ | ⟨hc, he⟩ | ⟨hc, he⟩
      · cases he
        refine g_catch hC (X := gxI) [] ⟨0, 12, 15, 21⟩ [⟨0, 12, 19, 13⟩] (hex.trans rfl) (fun w hw => ?_) rfl (by decide) lL_21 List.mem_cons_self (fun q hq => ?_)
        · cases hw
        refine gB hC _ _ _ _ _ _ _ (show decB cL_setOdds 15 [.astore 5, .iconst 1] 18 = true by decide +kernel) rfl ?_
        refine g_ireturn hC dL_setOdds_18 hr ⟨by rw [hc], rfl, Or.inr ⟨by omega, hF⟩⟩ gs_rfl ⟨Nat.le_of_ble_eq_true rfl, Nat.le_of_ble_eq_true rfl⟩
      · cases he
        refine g_catch hC (X := gxA) [⟨0, 12, 15, 21⟩] ⟨0, 12, 19, 13⟩ [] (hex.trans rfl) (fun w hw => ?_) rfl (by decide) lL_13 (List.mem_cons_of_mem _ List.mem_cons_self) (fun q hq => ?_)
        · obtain rfl := List.mem_singleton.mp hw
          exact Or.inr ⟨by decide, gxI, lL_21, (List.mem_cons_of_mem _ List.mem_cons_self), List.mem_cons_self, by decide⟩
        refine gB hC _ _ _ _ _ _ _ (show decB cL_setOdds 19 [.astore 5, .iconst 2] 22 = true by decide +kernel) rfl ?_
        refine g_ireturn hC dL_setOdds_22 hr ⟨by rw [hc], rfl, Or.inr ⟨by omega, hF⟩⟩ gs_rfl ⟨Nat.le_of_ble_eq_true rfl, Nat.le_of_ble_eq_true rfl⟩
      · exact absurd hc h3
theorem wL_setWeekend_of {E l Sh V z} {x o a0 a1 C r : Int} {FS FF : gV → Prop} (hx : Sh x = some (10, 0)) (ho : Sh o = some (101, 1)) (h2 : C ≠ 2) (h3 : C ≠ 3) (hM : ∀ z, gM E l yX11_setWeekend (.code yX11_setWeekend cX11_setWeekend 4 (some .int)) (rmk 11 60 600 420) [(2, x), (0, a0), (0, a1)] Sh V z (gRk C gxA "" "" (0, r) FS FF Sh)) :
    gM E l yL_setWeekend (.codeWith yL_setWeekend cL_setWeekend 5 (some .int) [(0, 10, 13, 13)]) (rmk 12 60 600 460) [(2, x), (0, a0), (0, a1), (2, o)] Sh V z (gWk C (wI r) o FS FF Sh) := by
  refine gM_atW (L0 := [(2, x), (0, a0), (0, a1), (2, o), (9, 0)]) rfl rfl rfl ?_
  intro p e s m args below meth c hC hr hex hz
  refine gB hC _ _ _ _ _ _ _ qL_setWeekend_0 rfl ?_
  refine g_callV hC _ dL_setWeekend_5 mL_30 vX11_setWeekend (hM _) rfl hx (by decide) rfl (Nat.le_of_ble_eq_true rfl) (RR rfl rfl rfl rfl) (fun r0 S1 V1 z1 h => ?_) (fun X S1 V1 z1 h => ?_)
  · obtain ⟨rfl, ⟨h0, h1, h2⟩ | ⟨_, h3⟩⟩ := h
    · cases h1
      refine g_wrap1 ?_
      refine g_i2l hC dL_setWeekend_8 (wI_in _) ?_
      refine g_lst hC dL_setWeekend_9 ho (by decide) (by decide) (by decide) (wI_L _) (fun V9 e9 => ?_)
      refine gB hC _ _ _ _ _ _ _ qL_setWeekend_10 rfl ?_
      refine gB hC _ _ _ _ _ _ _ qL_setWeekend_17 rfl ?_
      refine g_ireturn hC dL_setWeekend_18 hr ⟨by rw [h0], rfl, Or.inl ⟨h0, V1, h2, e9⟩⟩ gs_rfl ⟨Nat.le_of_ble_eq_true rfl, Nat.le_of_ble_eq_true rfl⟩
    · rcases h3 with h | h | h <;> exact nomatch h.2
  · obtain ⟨rfl, ⟨_, h1, _⟩ | ⟨hF, h3⟩⟩ := h
    · cases h1
    · rcases h3 with ⟨hc, he⟩ | ⟨hc, he⟩ | ⟨hc, he⟩
      · cases he
        refine g_catch hC (X := gxA) [] ⟨0, 10, 13, 13⟩ [] (hex.trans rfl) (fun w hw => ?_) rfl (by decide) lL_13 (List.mem_cons_of_mem _ List.mem_cons_self) (fun q hq => ?_)
        · cases hw
        refine gB hC _ _ _ _ _ _ _ (show decB cL_setWeekend 13 [.astore 4, .iconst 1] 16 = true by decide +kernel) rfl ?_
        refine g_ireturn hC dL_setWeekend_16 hr ⟨by rw [hc], rfl, Or.inr ⟨by omega, hF⟩⟩ gs_rfl ⟨Nat.le_of_ble_eq_true rfl, Nat.le_of_ble_eq_true rfl⟩
      · exact absurd hc h2
      · exact absurd hc h3
theorem wL_shorter_of {E l Sh V z} {x o a0 a1 C r : Int} {FS FF : gV → Prop} (hx : Sh x = some (10, 0)) (ho : Sh o = some (101, 1))  (hM : ∀ z, gM E l yX11_shorter (.code yX11_shorter cX11_shorter 5 (some .int)) (rmk 11 60 600 420) [(2, x), (0, a0), (0, a1)] Sh V z (gRk C gxI gxA gxS (0, r) FS FF Sh)) :
    gM E l yL_shorter (.codeWith yL_shorter cL_shorter 5 (some .int) [(0, 10, 13, 21), (0, 10, 17, 13), (0, 10, 21, 15)]) (rmk 12 60 600 460) [(2, x), (0, a0), (0, a1), (2, o)] Sh V z (gWk C (wI r) o FS FF Sh) := by
  refine gM_atW (L0 := [(2, x), (0, a0), (0, a1), (2, o), (9, 0)]) rfl rfl rfl ?_
  intro p e s m args below meth c hC hr hex hz
  refine gB hC _ _ _ _ _ _ _ qL_shorter_0 rfl ?_
  refine g_callV hC _ dL_shorter_5 mL_57 vX11_shorter (hM _) rfl hx (by decide) rfl (Nat.le_of_ble_eq_true rfl) (RR rfl rfl rfl rfl) (fun r0 S1 V1 z1 h => ?_) (fun X S1 V1 z1 h => ?_)
  · obtain ⟨rfl, ⟨h0, h1, h2⟩ | ⟨_, h3⟩⟩ := h
    · cases h1
      refine g_wrap1 ?_
      refine g_i2l hC dL_shorter_8 (wI_in _) ?_
      refine g_lst hC dL_shorter_9 ho (by decide) (by decide) (by decide) (wI_L _) (fun V9 e9 => ?_)
      refine gB hC _ _ _ _ _ _ _ qL_shorter_10 rfl ?_
      refine gB hC _ _ _ _ _ _ _ qL_shorter_25 rfl ?_
      refine g_ireturn hC dL_shorter_26 hr ⟨by rw [h0], rfl, Or.inl ⟨h0, V1, h2, e9⟩⟩ gs_rfl ⟨Nat.le_of_ble_eq_true rfl, Nat.le_of_ble_eq_true rfl⟩
    · rcases h3 with h | h | h <;> exact nomatch h.2
  · obtain ⟨rfl, ⟨_, h1, _⟩ | ⟨hF, h3⟩⟩ := h
    · cases h1
    · rcases h3 with ⟨hc, he⟩ | ⟨hc, he⟩ | ⟨hc, he⟩
      · cases he
        refine g_catch hC (X := gxI) [] ⟨0, 10, 13, 21⟩ [⟨0, 10, 17, 13⟩, ⟨0, 10, 21, 15⟩] (hex.trans rfl) (fun w hw => ?_) rfl (by decide) lL_21 List.mem_cons_self (fun q hq => ?_)
        · cases hw
        refine gB hC _ _ _ _ _ _ _ (show decB cL_shorter 13 [.astore 4, .iconst 1] 16 = true by decide +kernel) rfl ?_
        refine g_ireturn hC dL_shorter_16 hr ⟨by rw [hc], rfl, Or.inr ⟨by omega, hF⟩⟩ gs_rfl ⟨Nat.le_of_ble_eq_true rfl, Nat.le_of_ble_eq_true rfl⟩
      · cases he
        refine g_catch hC (X := gxA) [⟨0, 10, 13, 21⟩] ⟨0, 10, 17, 13⟩ [⟨0, 10, 21, 15⟩] (hex.trans rfl) (fun w hw => ?_) rfl (by decide) lL_13 (List.mem_cons_of_mem _ List.mem_cons_self) (fun q hq => ?_)
        · obtain rfl := List.mem_singleton.mp hw
          exact Or.inr ⟨by decide, gxI, lL_21, (List.mem_cons_of_mem _ List.mem_cons_self), List.mem_cons_self, by decide⟩
        refine gB hC _ _ _ _ _ _ _ (show decB cL_shorter 17 [.astore 4, .iconst 2] 20 = true by decide +kernel) rfl ?_
        refine g_ireturn hC dL_shorter_20 hr ⟨by rw [hc], rfl, Or.inr ⟨by omega, hF⟩⟩ gs_rfl ⟨Nat.le_of_ble_eq_true rfl, Nat.le_of_ble_eq_true rfl⟩
      · cases he
        refine g_catch hC (X := gxS) [⟨0, 10, 13, 21⟩, ⟨0, 10, 17, 13⟩] ⟨0, 10, 21, 15⟩ [] (hex.trans rfl) (fun w hw => ?_) rfl (by decide) lL_15 (List.mem_cons_of_mem _ (List.mem_cons_of_mem _ List.mem_cons_self)) (fun q hq => ?_)
        · rcases List.mem_cons.mp hw with rfl | hw
          · exact Or.inr ⟨by decide, gxI, lL_21, (List.mem_cons_of_mem _ (List.mem_cons_of_mem _ List.mem_cons_self)), List.mem_cons_self, by decide⟩
          · obtain rfl := List.mem_singleton.mp hw
            exact Or.inr ⟨by decide, gxA, lL_13, (List.mem_cons_of_mem _ (List.mem_cons_of_mem _ List.mem_cons_self)), (List.mem_cons_of_mem _ List.mem_cons_self), by decide⟩
        refine gB hC _ _ _ _ _ _ _ (show decB cL_shorter 21 [.astore 4, .iconst 3] 24 = true by decide +kernel) rfl ?_
        refine g_ireturn hC dL_shorter_24 hr ⟨by rw [hc], rfl, Or.inr ⟨by omega, hF⟩⟩ gs_rfl ⟨Nat.le_of_ble_eq_true rfl, Nat.le_of_ble_eq_true rfl⟩
theorem wL_stayAt_of {E l Sh V z} {x o a0 a1 C r : Int} {FS FF : gV → Prop} (hx : Sh x = some (10, 0)) (ho : Sh o = some (101, 1)) (h3 : C ≠ 3) (hM : ∀ z, gM E l yX11_stayAt (.code yX11_stayAt cX11_stayAt 4 (some .int)) (rmk 11 60 600 420) [(2, x), (0, a0), (0, a1)] Sh V z (gRk C gxI gxA "" (0, r) FS FF Sh)) :
    gM E l yL_stayAt (.codeWith yL_stayAt cL_stayAt 5 (some .int) [(0, 10, 13, 21), (0, 10, 17, 13)]) (rmk 12 60 600 460) [(2, x), (0, a0), (0, a1), (2, o)] Sh V z (gWk C (wI r) o FS FF Sh) := by
  refine gM_atW (L0 := [(2, x), (0, a0), (0, a1), (2, o), (9, 0)]) rfl rfl rfl ?_
  intro p e s m args below meth c hC hr hex hz
  refine gB hC _ _ _ _ _ _ _ qL_stayAt_0 rfl ?_
  refine g_callV hC _ dL_stayAt_5 mL_88 vX11_stayAt (hM _) rfl hx (by decide) rfl (Nat.le_of_ble_eq_true rfl) (RR rfl rfl rfl rfl) (fun r0 S1 V1 z1 h => ?_) (fun X S1 V1 z1 h => ?_)
  · obtain ⟨rfl, ⟨h0, h1, h2⟩ | ⟨_, h3⟩⟩ := h
    · cases h1
      refine g_wrap1 ?_
      refine g_i2l hC dL_stayAt_8 (wI_in _) ?_
      refine g_lst hC dL_stayAt_9 ho (by decide) (by decide) (by decide) (wI_L _) (fun V9 e9 => ?_)
      refine gB hC _ _ _ _ _ _ _ qL_stayAt_10 rfl ?_
      refine gB hC _ _ _ _ _ _ _ qL_stayAt_21 rfl ?_
      refine g_ireturn hC dL_stayAt_22 hr ⟨by rw [h0], rfl, Or.inl ⟨h0, V1, h2, e9⟩⟩ gs_rfl ⟨Nat.le_of_ble_eq_true rfl, Nat.le_of_ble_eq_true rfl⟩
    · rcases h3 with h | h | h <;> exact nomatch h.2
  · obtain ⟨rfl, ⟨_, h1, _⟩ | ⟨hF, h3⟩⟩ := h
    · cases h1
    · rcases h3 with ⟨hc, he⟩ | ⟨hc, he⟩ | ⟨hc, he⟩
      · cases he
        refine g_catch hC (X := gxI) [] ⟨0, 10, 13, 21⟩ [⟨0, 10, 17, 13⟩] (hex.trans rfl) (fun w hw => ?_) rfl (by decide) lL_21 List.mem_cons_self (fun q hq => ?_)
        · cases hw
        refine gB hC _ _ _ _ _ _ _ (show decB cL_stayAt 13 [.astore 4, .iconst 1] 16 = true by decide +kernel) rfl ?_
        refine g_ireturn hC dL_stayAt_16 hr ⟨by rw [hc], rfl, Or.inr ⟨by omega, hF⟩⟩ gs_rfl ⟨Nat.le_of_ble_eq_true rfl, Nat.le_of_ble_eq_true rfl⟩
      · cases he
        refine g_catch hC (X := gxA) [⟨0, 10, 13, 21⟩] ⟨0, 10, 17, 13⟩ [] (hex.trans rfl) (fun w hw => ?_) rfl (by decide) lL_13 (List.mem_cons_of_mem _ List.mem_cons_self) (fun q hq => ?_)
        · obtain rfl := List.mem_singleton.mp hw
          exact Or.inr ⟨by decide, gxI, lL_21, (List.mem_cons_of_mem _ List.mem_cons_self), List.mem_cons_self, by decide⟩
        refine gB hC _ _ _ _ _ _ _ (show decB cL_stayAt 17 [.astore 4, .iconst 2] 20 = true by decide +kernel) rfl ?_
        refine g_ireturn hC dL_stayAt_20 hr ⟨by rw [hc], rfl, Or.inr ⟨by omega, hF⟩⟩ gs_rfl ⟨Nat.le_of_ble_eq_true rfl, Nat.le_of_ble_eq_true rfl⟩
      · exact absurd hc h3
theorem wL_waitFor_of {E l Sh V z} {x o a0 a1 a2 a3 a4 C r : Int} {FS FF : gV → Prop} (hx : Sh x = some (10, 0)) (ho : Sh o = some (101, 1))  (hM : ∀ z, gM E l yX11_waitFor (.code yX11_waitFor cX11_waitFor 7 (some .int)) (rmk 11 60 600 420) [(2, x), (0, a0), (0, a1), (0, a2), (0, a3), (0, a4)] Sh V z (gRk C gxI gxA gxS (0, r) FS FF Sh)) :
    gM E l yL_waitFor (.codeWith yL_waitFor cL_waitFor 8 (some .int) [(0, 16, 19, 21), (0, 16, 23, 13), (0, 16, 27, 15)]) (rmk 12 60 600 460) [(2, x), (0, a0), (0, a1), (0, a2), (0, a3), (0, a4), (2, o)] Sh V z (gWk C (wI r) o FS FF Sh) := by
  refine gM_atW (L0 := [(2, x), (0, a0), (0, a1), (0, a2), (0, a3), (0, a4), (2, o), (9, 0)]) rfl rfl rfl ?_
  intro p e s m args below meth c hC hr hex hz
  refine gB hC _ _ _ _ _ _ _ qL_waitFor_0 rfl ?_
  refine g_callV hC _ dL_waitFor_11 mL_45 vX11_waitFor (hM _) rfl hx (by decide) rfl (Nat.le_of_ble_eq_true rfl) (RR rfl rfl rfl rfl) (fun r0 S1 V1 z1 h => ?_) (fun X S1 V1 z1 h => ?_)
  · obtain ⟨rfl, ⟨h0, h1, h2⟩ | ⟨_, h3⟩⟩ := h
    · cases h1
      refine g_wrap1 ?_
      refine g_i2l hC dL_waitFor_14 (wI_in _) ?_
      refine g_lst hC dL_waitFor_15 ho (by decide) (by decide) (by decide) (wI_L _) (fun V9 e9 => ?_)
      refine gB hC _ _ _ _ _ _ _ qL_waitFor_16 rfl ?_
      refine gB hC _ _ _ _ _ _ _ qL_waitFor_31 rfl ?_
      refine g_ireturn hC dL_waitFor_32 hr ⟨by rw [h0], rfl, Or.inl ⟨h0, V1, h2, e9⟩⟩ gs_rfl ⟨Nat.le_of_ble_eq_true rfl, Nat.le_of_ble_eq_true rfl⟩
    · rcases h3 with h | h | h <;> exact nomatch h.2
  · obtain ⟨rfl, ⟨_, h1, _⟩ | ⟨hF, h3⟩⟩ := h
    · cases h1
    · rcases h3 with ⟨hc, he⟩ | ⟨hc, he⟩ | ⟨hc, he⟩
      · cases he
        refine g_catch hC (X := gxI) [] ⟨0, 16, 19, 21⟩ [⟨0, 16, 23, 13⟩, ⟨0, 16, 27, 15⟩] (hex.trans rfl) (fun w hw => ?_) rfl (by decide) lL_21 List.mem_cons_self (fun q hq => ?_)
        · cases hw
        refine gB hC _ _ _ _ _ _ _ (show decB cL_waitFor 19 [.astore 7, .iconst 1] 22 = true by decide +kernel) rfl ?_
        refine g_ireturn hC dL_waitFor_22 hr ⟨by rw [hc], rfl, Or.inr ⟨by omega, hF⟩⟩ gs_rfl ⟨Nat.le_of_ble_eq_true rfl, Nat.le_of_ble_eq_true rfl⟩
      · cases he
        refine g_catch hC (X := gxA) [⟨0, 16, 19, 21⟩] ⟨0, 16, 23, 13⟩ [⟨0, 16, 27, 15⟩] (hex.trans rfl) (fun w hw => ?_) rfl (by decide) lL_13 (List.mem_cons_of_mem _ List.mem_cons_self) (fun q hq => ?_)
        · obtain rfl := List.mem_singleton.mp hw
          exact Or.inr ⟨by decide, gxI, lL_21, (List.mem_cons_of_mem _ List.mem_cons_self), List.mem_cons_self, by decide⟩
        refine gB hC _ _ _ _ _ _ _ (show decB cL_waitFor 23 [.astore 7, .iconst 2] 26 = true by decide +kernel) rfl ?_
        refine g_ireturn hC dL_waitFor_26 hr ⟨by rw [hc], rfl, Or.inr ⟨by omega, hF⟩⟩ gs_rfl ⟨Nat.le_of_ble_eq_true rfl, Nat.le_of_ble_eq_true rfl⟩
      · cases he
        refine g_catch hC (X := gxS) [⟨0, 16, 19, 21⟩, ⟨0, 16, 23, 13⟩] ⟨0, 16, 27, 15⟩ [] (hex.trans rfl) (fun w hw => ?_) rfl (by decide) lL_15 (List.mem_cons_of_mem _ (List.mem_cons_of_mem _ List.mem_cons_self)) (fun q hq => ?_)
        · rcases List.mem_cons.mp hw with rfl | hw
          · exact Or.inr ⟨by decide, gxI, lL_21, (List.mem_cons_of_mem _ (List.mem_cons_of_mem _ List.mem_cons_self)), List.mem_cons_self, by decide⟩
          · obtain rfl := List.mem_singleton.mp hw
            exact Or.inr ⟨by decide, gxA, lL_13, (List.mem_cons_of_mem _ (List.mem_cons_of_mem _ List.mem_cons_self)), (List.mem_cons_of_mem _ List.mem_cons_self), by decide⟩
        refine gB hC _ _ _ _ _ _ _ (show decB cL_waitFor 27 [.astore 7, .iconst 3] 30 = true by decide +kernel) rfl ?_
        refine g_ireturn hC dL_waitFor_30 hr ⟨by rw [hc], rfl, Or.inr ⟨by omega, hF⟩⟩ gs_rfl ⟨Nat.le_of_ble_eq_true rfl, Nat.le_of_ble_eq_true rfl⟩
