/-! the law: undone; forty acts (rows laid by wip/p47/l16.py) -/
theorem kL_isUndone {E l Sh V z} {q w : Int} {N : gN0} {P9 : Int → gN0} {c9 : Int} (hx : XR (q + 2) N P9 c9 Sh V) (hL : LB q w N Sh V) (hW : LW q w N V) (hI0 : INV N) (hd : N 0 ≤ 8900) (h1 : N 1 = 2) : gM E l yL_isUndone (.code yL_isUndone cL_isUndone 2 (some .boolean)) (rmk 14 200 2000 540) [(2, q)] Sh V z (gRe (some (0, 1)) (fun V' => (∃ P c, XR (q + 2) N P c Sh V') ∧ LB q w N Sh V' ∧ LW q w N V') Sh) := by
  refine gM_at (L0 := [(2, q), (9, 0)]) rfl rfl rfl ?_
  intro p e s m args below meth c hC hr hex hnm hz
  have hI := hI0.1
  have hsc := hI.1
  unfold iScal at hsc
  have hqw := hL.a0
  have hcb := hx.2.2.2.2
  have hIe : INV (upN N (31 + 0 * 3 + 2) 3) := InvC_x hI (by omega) (by omega) (by omega) (by omega) hI0
  have hlk := lk_in hIe.1
  have hkp : kpP P9 c9 N (min (c9 + 1) 6 - 1) = N := by
      unfold kpP
      by_cases h6 : c9 = 6
      · rw [if_pos h6, if_pos (by omega)]
      · rw [if_neg h6, if_pos (by omega)]
  refine gB hC _ _ _ _ _ _ _ qL_isUndone_0 rfl ?_
  refine g_getr hC dL_isUndone_1 fL_10 hL.sL (by decide) rfl 0 rfl hL.p0 ?_
  refine g_cV1i hC dL_isUndone_4 mL_251 vX11_checksum (kX11_checksum0 hx hI0) rfl hL.sX (by decide) rfl (Nat.le_of_ble_eq_true rfl) (RR rfl rfl rfl rfl) (fun z i4 => ?_)
  refine gB hC _ _ _ _ _ _ _ qL_isUndone_7 rfl ?_
  refine g_getr hC dL_isUndone_9 fL_10 hL.sL (by decide) rfl 0 rfl hL.p0 ?_
  refine gB hC _ _ _ _ _ _ _ qL_isUndone_12 rfl ?_
  refine g_cV1e hC dL_isUndone_14 mL_194 vX11_setExtra (xsetExtra hx hI0 (by omega) (by omega)) rfl hL.sX (by decide) rfl (Nat.le_of_ble_eq_true rfl) (RR rfl rfl rfl rfl) (fun z V14 e14 => ?_)
  have hx14 := e14.1
  have hL14 := LB_x (by omega) hL e14.2
  have hW14 := LW_x (by omega) hL e14.2 hW
  refine g_if_lt hC 52 dL_isUndone_17 rfl (by first | omega | exact cmpZ_in _ _ | exact bI_in _) (fun c17 => ?_) (fun c17 => ?_)
  · exact absurd c17 (by omega) --stop
  · refine gB hC _ _ _ _ _ _ _ qL_isUndone_20 rfl ?_
    refine g_getr hC dL_isUndone_21 fL_10 hL14.sL (by decide) rfl 0 rfl hL14.p0 ?_
    refine g_cV1e hC dL_isUndone_24 mL_254 vX11_undo (kX11_undo hx14 (lk_inv hIe)) rfl hL14.sX (by decide) rfl (Nat.le_of_ble_eq_true rfl) (RR rfl rfl rfl rfl) (fun z V24 e24 => ?_)
    have hx24 := e24.1
    have hL24 := LB_x (by omega) hL14 e24.2
    have hW24 := LW_x (by omega) hL14 e24.2 hW14
    rw [if_neg (by omega), if_neg (by omega), hkp] at hx24
    refine g_if_lt hC 52 dL_isUndone_27 rfl (by first | omega | exact cmpZ_in _ _ | exact bI_in _) (fun c27 => ?_) (fun c27 => ?_)
    · exact absurd c27 (by omega) --stop
    · refine gB hC _ _ _ _ _ _ _ qL_isUndone_30 rfl ?_
      refine g_getr hC dL_isUndone_31 fL_10 hL24.sL (by decide) rfl 0 rfl hL24.p0 ?_
      refine g_cV1i hC dL_isUndone_34 mL_251 vX11_checksum (kX11_checksum0 hx24 hI0) rfl hL24.sX (by decide) rfl (Nat.le_of_ble_eq_true rfl) (RR rfl rfl rfl rfl) (fun z i34 => ?_)
      refine gB hC _ _ _ _ _ _ _ qL_isUndone_37 rfl ?_
      refine g_icmp_ne hC 52 dL_isUndone_38 rfl (by first | omega | exact cmpZ_in _ _ | exact bI_in _) (by first | omega | exact cmpZ_in _ _ | exact bI_in _) (fun c38 => ?_) (fun c38 => ?_)
      · exact absurd rfl c38 --stop
      · refine gB hC _ _ _ _ _ _ _ qL_isUndone_41 rfl ?_
        refine g_cV1 hC dL_isUndone_42 mL_239 vL_isSame (kL_isSame hx24 hL24 hW24 hI0 (by omega)) rfl hL24.sL (by decide) rfl (Nat.le_of_ble_eq_true rfl) (RR rfl rfl rfl rfl) (fun z => ?_)
        refine g_if_eq hC 52 dL_isUndone_45 rfl (by first | omega | exact cmpZ_in _ _ | exact bI_in _) (fun c45 => ?_) (fun c45 => ?_)
        · exact absurd c45 (by decide)
        · refine gB hC _ _ _ _ _ _ _ qL_isUndone_48 rfl ?_
          refine g_zreturn hC dL_isUndone_53 hr ?_ ⟨rfl, rfl, ?_⟩ gs_rfl ⟨Nat.le_of_ble_eq_true rfl, Nat.le_of_ble_eq_true rfl⟩
          exact Or.inr rfl
          exact ⟨⟨_, _, hx24⟩, hL24, hW24⟩

section ACT
variable {E : gE} {own : String} {cc : ByteArray} {nL : Nat} {p : Program} {l : Launch} {e : Env} {R : Room} {s : State} {m : MethodId} {args : Array Value} {below : List Frame} {meth : Method} {c : Code} {Q : State → Prop} {pc : Nat} {L st r rest st0 as : List aV} {Sh : gSh} {V : gV} {z : Int} {k n : Nat} {rm : Room}
theorem g_act (hC : gC E own cc nL p l s m args meth c) {y : MethodName} {bytes : ByteArray} {maxL na ci idx : Nat} {ret : Option FieldType} {a q w n1 : Int} (hd : decode cc pc = .ok (.invokevirtual idx, 3)) (hl : Cond.methodLink own idx y ∈ gws) (hY : gYV y bytes maxL ret na ci)
    (hM : gM E l y (Cond.code y bytes maxL ret) rm ((2, a) :: as) Sh V z (gAct q w n1)) (hst : st0 = as.reverse ++ (2, a) :: rest) (hsh : Sh a = some (ci, 0)) (hci : ci < 100) (hna : as.length = na) (hW : catS rest ≤ 8) (hR : (rm.frames + 1 ≤ R.frames ∧ 8 + (maxL + 11) + rm.locals ≤ R.locals) ∧ (k + rm.cells ≤ R.cells ∧ n + rm.slots ≤ R.slots))
    (kk : ∀ z' Sh1 V1 N P c0, LI n1 N → XR (q + 2) N P c0 Sh1 V1 → LB q w N Sh1 V1 → LW q w N V1 → gG E nL p l e R s m args below meth c Q (pc + 3) L ((0, 1) :: rest) Sh1 V1 z' (k + rm.cells) (n + rm.slots)) : gG E nL p l e R s m args below meth c Q pc L st0 Sh V z k n :=
  g_callV hC st0 hd hl hY hM hst hsh hci hna hW hR (fun r0 Sh' V' z' h => by obtain ⟨h1, N, P, c0, h2, h3, h4, h5⟩ := h; cases h1; exact kk z' Sh' V' N P c0 h2 h3 h4 h5) (fun X Sh' V' z' h => by obtain ⟨h1, _⟩ := h; cases h1)
end ACT

theorem kL_goesOn {E l Sh V z} {q w : Int} {N : gN0} {P9 : Int → gN0} {c9 : Int} (hLI : LI 0 N) (hx : XR (q + 2) N P9 c9 Sh V) (hL : LB q w N Sh V) (hW : LW q w N V) : gM E l yL_goesOn (.code yL_goesOn cL_goesOn 4 (some .boolean)) (rmk 30 17000 170000 1100) [(2, q)] Sh V z (gAct q w 40) := by
  refine gM_at (L0 := [(2, q), (9, 0), (9, 0), (9, 0)]) rfl rfl rfl ?_
  intro p e s m args below meth c hC hr hex hnm hz
  have hqw := hL.a0
  refine gB hC _ _ _ _ _ _ _ qL_goesOn_0 rfl ?_
  refine g_loopA (fun x : gSh × gV × Int × Nat × gN0 × (Int → gN0) × Int × aV × aV => LI (x.2.2.2.1 : Int) x.2.2.2.2.1 ∧ XR (q + 2) x.2.2.2.2.1 x.2.2.2.2.2.1 x.2.2.2.2.2.2.1 x.1 x.2.1 ∧ LB q w x.2.2.2.2.1 x.1 x.2.1 ∧ LW q w x.2.2.2.2.1 x.2.1 ∧ x.2.2.2.1 ≤ 40) (fun x => 40 - x.2.2.2.1) 2 (fun x => [(2, q), (0, (x.2.2.2.1 : Int)), x.2.2.2.2.2.2.2.1, x.2.2.2.2.2.2.2.2]) (fun x => x.1) (fun x => x.2.1) (fun x => x.2.2.1) (fun x => 400 * x.2.2.2.1) (fun x => 4000 * x.2.2.2.1) (Sh, V, z, 0, N, P9, c9, (9, 0), (9, 0)) ⟨hLI, hx, hL, hW, by show (0 : Nat) ≤ 40; decide⟩ ?_
  rintro ⟨Sh1, V1, z1, i, N1, P1, c1, a2, a3⟩ ⟨hLI1, hx1, hL1, hW1, hi⟩ ih
  dsimp only at hLI1 hx1 hL1 hW1 hi ih ⊢
  have hI1 := hLI1.1.1
  have hq1 := hLI1.2.1
  have hs1 := hI1.1
  unfold iScal at hs1
  refine gB hC _ _ _ _ _ _ _ qL_goesOn_2 rfl ?_
  refine g_icmp_ge hC 157 dL_goesOn_5 rfl (by first | omega | exact cmpZ_in _ _ | exact bI_in _) (by first | omega | exact cmpZ_in _ _ | exact bI_in _) (fun c5 => ?_) (fun c5 => ?_)
  · obtain rfl : i = 40 := by omega
    refine gB hC _ _ _ _ _ _ _ qL_goesOn_157 rfl ?_
    refine g_cV1 hC dL_goesOn_158 mL_239 vL_isSame (kL_isSame hx1 hL1 hW1 hLI1.1 (by omega)) rfl hL1.sL (by decide) rfl (Nat.le_of_ble_eq_true rfl) (RSL rfl rfl (by dsimp only [rmk]; omega) (by dsimp only [rmk]; omega)) (fun z => ?_)
    refine g_if_eq hC 201 dL_goesOn_161 rfl (by first | omega | exact cmpZ_in _ _ | exact bI_in _) (fun c161 => ?_) (fun c161 => ?_)
    · exact absurd c161 (by decide)
    · refine gB hC _ _ _ _ _ _ _ qL_goesOn_164 rfl ?_
      refine g_cV1e hC dL_goesOn_166 mL_242 vL_areRooms (kL_areRooms hx1 hL1 hW1 hLI1.1 (by omega) (by omega) (by omega) (by omega)) rfl hL1.sL (by decide) rfl (Nat.le_of_ble_eq_true rfl) (RSL rfl rfl (by dsimp only [rmk]; omega) (by dsimp only [rmk]; omega)) (fun z V166 e166 => ?_)
      have hx166 := e166.1
      have hL166 := e166.2.1
      have hW166 := e166.2.2
      refine g_if_eq hC 201 dL_goesOn_169 rfl (by first | omega | exact cmpZ_in _ _ | exact bI_in _) (fun c169 => ?_) (fun c169 => ?_)
      · exact absurd c169 (by decide)
      · refine gB hC _ _ _ _ _ _ _ qL_goesOn_172 rfl ?_
        refine g_cV1e hC dL_goesOn_174 mL_242 vL_areRooms (kL_areRooms hx166 hL166 hW166 hLI1.1 (by omega) (by omega) (by omega) (by omega)) rfl hL166.sL (by decide) rfl (Nat.le_of_ble_eq_true rfl) (RSL rfl rfl (by dsimp only [rmk]; omega) (by dsimp only [rmk]; omega)) (fun z V174 e174 => ?_)
        have hx174 := e174.1
        have hL174 := e174.2.1
        have hW174 := e174.2.2
        refine g_if_eq hC 201 dL_goesOn_177 rfl (by first | omega | exact cmpZ_in _ _ | exact bI_in _) (fun c177 => ?_) (fun c177 => ?_)
        · exact absurd c177 (by decide)
        · refine gB hC _ _ _ _ _ _ _ qL_goesOn_180 rfl ?_
          refine g_cV1e hC dL_goesOn_181 mL_245 vL_isUndone (kL_isUndone hx174 hL174 hW174 hLI1.1 (by omega) (by omega)) rfl hL174.sL (by decide) rfl (Nat.le_of_ble_eq_true rfl) (RSL rfl rfl (by dsimp only [rmk]; omega) (by dsimp only [rmk]; omega)) (fun z V181 e181 => ?_)
          obtain ⟨⟨PU, cU, hxU⟩, hLU, hWU⟩ := e181
          refine g_if_eq hC 201 dL_goesOn_184 rfl (by first | omega | exact cmpZ_in _ _ | exact bI_in _) (fun c184 => ?_) (fun c184 => ?_)
          · exact absurd c184 (by decide)
          · refine gB hC _ _ _ _ _ _ _ qL_goesOn_187 rfl ?_
            refine g_getr hC dL_goesOn_188 fL_10 hLU.sL (by decide) rfl 0 rfl hLU.p0 ?_
            refine g_cV1e hC dL_goesOn_191 mL_248 vX11_errors (kX11_errors hxU hLI1.1) rfl hLU.sX (by decide) rfl (Nat.le_of_ble_eq_true rfl) (RSL rfl rfl (by dsimp only [rmk]; omega) (by dsimp only [rmk]; omega)) (fun z V191 e191 => ?_)
            rw [er_0 hI1 _ (by omega)]
            have hx191 := e191.1
            have hL191 := LB_x (by omega) hLU e191.2
            have hW191 := LW_x (by omega) hLU e191.2 hWU
            refine g_if_ne hC 201 dL_goesOn_194 rfl (by first | omega | exact cmpZ_in _ _ | exact bI_in _) (fun c194 => ?_) (fun c194 => ?_)
            · exact absurd rfl c194 --stop
            · refine gB hC _ _ _ _ _ _ _ qL_goesOn_197 rfl ?_
              refine g_zreturn hC dL_goesOn_202 hr ?_ (gAct_mk hLI1 hx191 hL191 hW191) gs_rfl ⟨(by dsimp only [rmk]; omega), (by dsimp only [rmk]; omega)⟩
              exact Or.inr rfl
  · refine gB hC _ _ _ _ _ _ _ qL_goesOn_8 rfl ?_
    refine g_getr hC dL_goesOn_9 fL_52 hL1.sL (by decide) rfl 1 rfl hL1.p1 ?_
    refine gB hC _ _ _ _ _ _ _ qL_goesOn_12 rfl ?_
    refine g_dice hC dL_goesOn_14 mL_147 vX12_next (kX12_next hL1.sD (by omega) (by omega)) rfl hL1.sD (by decide) rfl (Nat.le_of_ble_eq_true rfl) (RSL rfl rfl (by dsimp only [rmk]; omega) (by dsimp only [rmk]; omega)) (fun zd14 y14 s14 V14 l14 u14 e14 => ?_)
    have hL14 := LB_dc (by omega) hL1 e14
    have hW14 := LW_dc (by omega) hL1 e14 hW1
    have hx14 := XR_dc (w := w) hx1 hLI1.1 e14
    refine gB hC _ _ _ _ _ _ _ qL_goesOn_17 rfl ?_
    refine g_icmp_ge hC 30 dL_goesOn_20 rfl (by first | omega | exact cmpZ_in _ _ | exact bI_in _) (by first | omega | exact cmpZ_in _ _ | exact bI_in _) (fun c20 => ?_) (fun c20 => ?_)
    · refine gB hC _ _ _ _ _ _ _ qL_goesOn_30 rfl ?_
      refine g_icmp_ne hC 42 dL_goesOn_32 rfl (by first | omega | exact cmpZ_in _ _ | exact bI_in _) (by first | omega | exact cmpZ_in _ _ | exact bI_in _) (fun c32 => ?_) (fun c32 => ?_)
      · refine gB hC _ _ _ _ _ _ _ qL_goesOn_42 rfl ?_
        refine g_icmp_ne hC 54 dL_goesOn_44 rfl (by first | omega | exact cmpZ_in _ _ | exact bI_in _) (by first | omega | exact cmpZ_in _ _ | exact bI_in _) (fun c44 => ?_) (fun c44 => ?_)
        · refine gB hC _ _ _ _ _ _ _ qL_goesOn_54 rfl ?_
          refine g_icmp_ne hC 67 dL_goesOn_57 rfl (by first | omega | exact cmpZ_in _ _ | exact bI_in _) (by first | omega | exact cmpZ_in _ _ | exact bI_in _) (fun c57 => ?_) (fun c57 => ?_)
          · refine gB hC _ _ _ _ _ _ _ qL_goesOn_67 rfl ?_
            refine g_icmp_ge hC 84 dL_goesOn_70 rfl (by first | omega | exact cmpZ_in _ _ | exact bI_in _) (by first | omega | exact cmpZ_in _ _ | exact bI_in _) (fun c70 => ?_) (fun c70 => ?_)
            · refine gB hC _ _ _ _ _ _ _ qL_goesOn_84 rfl ?_
              refine g_icmp_ne hC 98 dL_goesOn_87 rfl (by first | omega | exact cmpZ_in _ _ | exact bI_in _) (by first | omega | exact cmpZ_in _ _ | exact bI_in _) (fun c87 => ?_) (fun c87 => ?_)
              · refine gB hC _ _ _ _ _ _ _ qL_goesOn_98 rfl ?_
                refine g_icmp_ne hC 111 dL_goesOn_101 rfl (by first | omega | exact cmpZ_in _ _ | exact bI_in _) (by first | omega | exact cmpZ_in _ _ | exact bI_in _) (fun c101 => ?_) (fun c101 => ?_)
                · refine gB hC _ _ _ _ _ _ _ qL_goesOn_111 rfl ?_
                  refine g_act hC dL_goesOn_112 mL_237 vL_passes (kL_passes (n := (i : Int)) hLI1 (by omega) hx14 hL14 hW14) rfl hL14.sL (by decide) rfl (Nat.le_of_ble_eq_true rfl) (RSL rfl rfl (by dsimp only [rmk]; omega) (by dsimp only [rmk]; omega)) (fun z Sh112 V112 N112 P112 c112 hLI112 hx112 hL112 hW112 => ?_)
                  have hI112 := hLI112.1.1
                  have hq112 := hLI112.2.1
                  have hs112 := hI112.1
                  unfold iScal at hs112
                  refine gB hC _ _ _ _ _ _ _ qL_goesOn_115 rfl ?_
                  refine g_if_eq hC 149 dL_goesOn_117 rfl (by first | omega | exact cmpZ_in _ _ | exact bI_in _) (fun c117 => ?_) (fun c117 => ?_)
                  · exact absurd c117 (by decide)
                  · refine gB hC _ _ _ _ _ _ _ qL_goesOn_120 rfl ?_
                    refine g_irem hC dL_goesOn_122 (by first | omega | exact cmpZ_in _ _ | exact bI_in _) (by first | omega | exact cmpZ_in _ _ | exact bI_in _) (by omega) (by omega) ?_
                    refine gB hC _ _ _ _ _ _ _ qL_goesOn_123 rfl ?_
                    refine g_icmp_ne hC 151 dL_goesOn_124 rfl (by first | omega | exact cmpZ_in _ _ | exact bI_in _) (by first | omega | exact cmpZ_in _ _ | exact bI_in _) (fun c124 => ?_) (fun c124 => ?_)
                    · refine gB hC _ _ _ _ _ _ _ qL_goesOn_151 rfl ?_
                      refine g_kn9 (k1 := 400 * (i + 1)) (n1 := 4000 * (i + 1)) (by dsimp only [rmk]; omega) (by dsimp only [rmk]; omega) ?_
                      exact ih (Sh112, V112, _, i + 1, N112, P112, c112, _, _) ⟨hLI112, hx112, hL112, hW112, by show i + 1 ≤ 40; omega⟩ (by show 40 - (i + 1) < 40 - i; omega)
                    · refine gB hC _ _ _ _ _ _ _ qL_goesOn_127 rfl ?_
                      refine g_cV1 hC dL_goesOn_128 mL_239 vL_isSame (kL_isSame hx112 hL112 hW112 hLI112.1 (by omega)) rfl hL112.sL (by decide) rfl (Nat.le_of_ble_eq_true rfl) (RSL rfl rfl (by dsimp only [rmk]; omega) (by dsimp only [rmk]; omega)) (fun z => ?_)
                      refine g_if_eq hC 149 dL_goesOn_131 rfl (by first | omega | exact cmpZ_in _ _ | exact bI_in _) (fun c131 => ?_) (fun c131 => ?_)
                      · exact absurd c131 (by decide)
                      · refine gB hC _ _ _ _ _ _ _ qL_goesOn_134 rfl ?_
                        refine g_getr hC dL_goesOn_136 fL_52 hL112.sL (by decide) rfl 1 rfl hL112.p1 ?_
                        refine gB hC _ _ _ _ _ _ _ qL_goesOn_139 rfl ?_
                        refine g_dice hC dL_goesOn_140 mL_147 vX12_next (kX12_next hL112.sD (by omega) (by omega)) rfl hL112.sD (by decide) rfl (Nat.le_of_ble_eq_true rfl) (RSL rfl rfl (by dsimp only [rmk]; omega) (by dsimp only [rmk]; omega)) (fun zd140 y140 s140 V140 l140 u140 e140 => ?_)
                        have hL140 := LB_dc (by omega) hL112 e140
                        have hW140 := LW_dc (by omega) hL112 e140 hW112
                        have hx140 := XR_dc (w := w) hx112 hLI112.1 e140
                        refine g_cV1e hC dL_goesOn_143 mL_242 vL_areRooms (kL_areRooms hx140 hL140 hW140 hLI112.1 (by omega) (by omega) (by omega) (by omega)) rfl hL140.sL (by decide) rfl (Nat.le_of_ble_eq_true rfl) (RSL rfl rfl (by dsimp only [rmk]; omega) (by dsimp only [rmk]; omega)) (fun z V143 e143 => ?_)
                        have hx143 := e143.1
                        have hL143 := e143.2.1
                        have hW143 := e143.2.2
                        refine g_if_ne hC 151 dL_goesOn_146 rfl (by first | omega | exact cmpZ_in _ _ | exact bI_in _) (fun c146 => ?_) (fun c146 => ?_)
                        · refine gB hC _ _ _ _ _ _ _ qL_goesOn_151 rfl ?_
                          refine g_kn9 (k1 := 400 * (i + 1)) (n1 := 4000 * (i + 1)) (by dsimp only [rmk]; omega) (by dsimp only [rmk]; omega) ?_
                          exact ih (Sh112, V143, _, i + 1, N112, P112, c112, _, _) ⟨hLI112, hx143, hL143, hW143, by show i + 1 ≤ 40; omega⟩ (by show 40 - (i + 1) < 40 - i; omega)
                        · exact absurd c146 (by decide)
                · refine gB hC _ _ _ _ _ _ _ qL_goesOn_104 rfl ?_
                  refine g_act hC dL_goesOn_105 mL_234 vL_opens (kL_opens (n := (i : Int)) hLI1 (by omega) hx14 hL14 hW14) rfl hL14.sL (by decide) rfl (Nat.le_of_ble_eq_true rfl) (RSL rfl rfl (by dsimp only [rmk]; omega) (by dsimp only [rmk]; omega)) (fun z Sh105 V105 N105 P105 c105 hLI105 hx105 hL105 hW105 => ?_)
                  have hI105 := hLI105.1.1
                  have hq105 := hLI105.2.1
                  have hs105 := hI105.1
                  unfold iScal at hs105
                  refine gB hC _ _ _ _ _ _ _ qL_goesOn_108 rfl ?_
                  refine gB hC _ _ _ _ _ _ _ qL_goesOn_115 rfl ?_
                  refine g_if_eq hC 149 dL_goesOn_117 rfl (by first | omega | exact cmpZ_in _ _ | exact bI_in _) (fun c117 => ?_) (fun c117 => ?_)
                  · exact absurd c117 (by decide)
                  · refine gB hC _ _ _ _ _ _ _ qL_goesOn_120 rfl ?_
                    refine g_irem hC dL_goesOn_122 (by first | omega | exact cmpZ_in _ _ | exact bI_in _) (by first | omega | exact cmpZ_in _ _ | exact bI_in _) (by omega) (by omega) ?_
                    refine gB hC _ _ _ _ _ _ _ qL_goesOn_123 rfl ?_
                    refine g_icmp_ne hC 151 dL_goesOn_124 rfl (by first | omega | exact cmpZ_in _ _ | exact bI_in _) (by first | omega | exact cmpZ_in _ _ | exact bI_in _) (fun c124 => ?_) (fun c124 => ?_)
                    · refine gB hC _ _ _ _ _ _ _ qL_goesOn_151 rfl ?_
                      refine g_kn9 (k1 := 400 * (i + 1)) (n1 := 4000 * (i + 1)) (by dsimp only [rmk]; omega) (by dsimp only [rmk]; omega) ?_
                      exact ih (Sh105, V105, _, i + 1, N105, P105, c105, _, _) ⟨hLI105, hx105, hL105, hW105, by show i + 1 ≤ 40; omega⟩ (by show 40 - (i + 1) < 40 - i; omega)
                    · refine gB hC _ _ _ _ _ _ _ qL_goesOn_127 rfl ?_
                      refine g_cV1 hC dL_goesOn_128 mL_239 vL_isSame (kL_isSame hx105 hL105 hW105 hLI105.1 (by omega)) rfl hL105.sL (by decide) rfl (Nat.le_of_ble_eq_true rfl) (RSL rfl rfl (by dsimp only [rmk]; omega) (by dsimp only [rmk]; omega)) (fun z => ?_)
                      refine g_if_eq hC 149 dL_goesOn_131 rfl (by first | omega | exact cmpZ_in _ _ | exact bI_in _) (fun c131 => ?_) (fun c131 => ?_)
                      · exact absurd c131 (by decide)
                      · refine gB hC _ _ _ _ _ _ _ qL_goesOn_134 rfl ?_
                        refine g_getr hC dL_goesOn_136 fL_52 hL105.sL (by decide) rfl 1 rfl hL105.p1 ?_
                        refine gB hC _ _ _ _ _ _ _ qL_goesOn_139 rfl ?_
                        refine g_dice hC dL_goesOn_140 mL_147 vX12_next (kX12_next hL105.sD (by omega) (by omega)) rfl hL105.sD (by decide) rfl (Nat.le_of_ble_eq_true rfl) (RSL rfl rfl (by dsimp only [rmk]; omega) (by dsimp only [rmk]; omega)) (fun zd140 y140 s140 V140 l140 u140 e140 => ?_)
                        have hL140 := LB_dc (by omega) hL105 e140
                        have hW140 := LW_dc (by omega) hL105 e140 hW105
                        have hx140 := XR_dc (w := w) hx105 hLI105.1 e140
                        refine g_cV1e hC dL_goesOn_143 mL_242 vL_areRooms (kL_areRooms hx140 hL140 hW140 hLI105.1 (by omega) (by omega) (by omega) (by omega)) rfl hL140.sL (by decide) rfl (Nat.le_of_ble_eq_true rfl) (RSL rfl rfl (by dsimp only [rmk]; omega) (by dsimp only [rmk]; omega)) (fun z V143 e143 => ?_)
                        have hx143 := e143.1
                        have hL143 := e143.2.1
                        have hW143 := e143.2.2
                        refine g_if_ne hC 151 dL_goesOn_146 rfl (by first | omega | exact cmpZ_in _ _ | exact bI_in _) (fun c146 => ?_) (fun c146 => ?_)
                        · refine gB hC _ _ _ _ _ _ _ qL_goesOn_151 rfl ?_
                          refine g_kn9 (k1 := 400 * (i + 1)) (n1 := 4000 * (i + 1)) (by dsimp only [rmk]; omega) (by dsimp only [rmk]; omega) ?_
                          exact ih (Sh105, V143, _, i + 1, N105, P105, c105, _, _) ⟨hLI105, hx143, hL143, hW143, by show i + 1 ≤ 40; omega⟩ (by show 40 - (i + 1) < 40 - i; omega)
                        · exact absurd c146 (by decide)
              · refine gB hC _ _ _ _ _ _ _ qL_goesOn_90 rfl ?_
                refine g_act hC dL_goesOn_92 mL_231 vL_treats (kL_treats (n := (i : Int)) hLI1 (by omega) hx14 hL14 hW14 (by omega)) rfl hL14.sL (by decide) rfl (Nat.le_of_ble_eq_true rfl) (RSL rfl rfl (by dsimp only [rmk]; omega) (by dsimp only [rmk]; omega)) (fun z Sh92 V92 N92 P92 c92 hLI92 hx92 hL92 hW92 => ?_)
                have hI92 := hLI92.1.1
                have hq92 := hLI92.2.1
                have hs92 := hI92.1
                unfold iScal at hs92
                refine gB hC _ _ _ _ _ _ _ qL_goesOn_95 rfl ?_
                refine gB hC _ _ _ _ _ _ _ qL_goesOn_115 rfl ?_
                refine g_if_eq hC 149 dL_goesOn_117 rfl (by first | omega | exact cmpZ_in _ _ | exact bI_in _) (fun c117 => ?_) (fun c117 => ?_)
                · exact absurd c117 (by decide)
                · refine gB hC _ _ _ _ _ _ _ qL_goesOn_120 rfl ?_
                  refine g_irem hC dL_goesOn_122 (by first | omega | exact cmpZ_in _ _ | exact bI_in _) (by first | omega | exact cmpZ_in _ _ | exact bI_in _) (by omega) (by omega) ?_
                  refine gB hC _ _ _ _ _ _ _ qL_goesOn_123 rfl ?_
                  refine g_icmp_ne hC 151 dL_goesOn_124 rfl (by first | omega | exact cmpZ_in _ _ | exact bI_in _) (by first | omega | exact cmpZ_in _ _ | exact bI_in _) (fun c124 => ?_) (fun c124 => ?_)
                  · refine gB hC _ _ _ _ _ _ _ qL_goesOn_151 rfl ?_
                    refine g_kn9 (k1 := 400 * (i + 1)) (n1 := 4000 * (i + 1)) (by dsimp only [rmk]; omega) (by dsimp only [rmk]; omega) ?_
                    exact ih (Sh92, V92, _, i + 1, N92, P92, c92, _, _) ⟨hLI92, hx92, hL92, hW92, by show i + 1 ≤ 40; omega⟩ (by show 40 - (i + 1) < 40 - i; omega)
                  · refine gB hC _ _ _ _ _ _ _ qL_goesOn_127 rfl ?_
                    refine g_cV1 hC dL_goesOn_128 mL_239 vL_isSame (kL_isSame hx92 hL92 hW92 hLI92.1 (by omega)) rfl hL92.sL (by decide) rfl (Nat.le_of_ble_eq_true rfl) (RSL rfl rfl (by dsimp only [rmk]; omega) (by dsimp only [rmk]; omega)) (fun z => ?_)
                    refine g_if_eq hC 149 dL_goesOn_131 rfl (by first | omega | exact cmpZ_in _ _ | exact bI_in _) (fun c131 => ?_) (fun c131 => ?_)
                    · exact absurd c131 (by decide)
                    · refine gB hC _ _ _ _ _ _ _ qL_goesOn_134 rfl ?_
                      refine g_getr hC dL_goesOn_136 fL_52 hL92.sL (by decide) rfl 1 rfl hL92.p1 ?_
                      refine gB hC _ _ _ _ _ _ _ qL_goesOn_139 rfl ?_
                      refine g_dice hC dL_goesOn_140 mL_147 vX12_next (kX12_next hL92.sD (by omega) (by omega)) rfl hL92.sD (by decide) rfl (Nat.le_of_ble_eq_true rfl) (RSL rfl rfl (by dsimp only [rmk]; omega) (by dsimp only [rmk]; omega)) (fun zd140 y140 s140 V140 l140 u140 e140 => ?_)
                      have hL140 := LB_dc (by omega) hL92 e140
                      have hW140 := LW_dc (by omega) hL92 e140 hW92
                      have hx140 := XR_dc (w := w) hx92 hLI92.1 e140
                      refine g_cV1e hC dL_goesOn_143 mL_242 vL_areRooms (kL_areRooms hx140 hL140 hW140 hLI92.1 (by omega) (by omega) (by omega) (by omega)) rfl hL140.sL (by decide) rfl (Nat.le_of_ble_eq_true rfl) (RSL rfl rfl (by dsimp only [rmk]; omega) (by dsimp only [rmk]; omega)) (fun z V143 e143 => ?_)
                      have hx143 := e143.1
                      have hL143 := e143.2.1
                      have hW143 := e143.2.2
                      refine g_if_ne hC 151 dL_goesOn_146 rfl (by first | omega | exact cmpZ_in _ _ | exact bI_in _) (fun c146 => ?_) (fun c146 => ?_)
                      · refine gB hC _ _ _ _ _ _ _ qL_goesOn_151 rfl ?_
                        refine g_kn9 (k1 := 400 * (i + 1)) (n1 := 4000 * (i + 1)) (by dsimp only [rmk]; omega) (by dsimp only [rmk]; omega) ?_
                        exact ih (Sh92, V143, _, i + 1, N92, P92, c92, _, _) ⟨hLI92, hx143, hL143, hW143, by show i + 1 ≤ 40; omega⟩ (by show 40 - (i + 1) < 40 - i; omega)
                      · exact absurd c146 (by decide)
            · refine gB hC _ _ _ _ _ _ _ qL_goesOn_73 rfl ?_
              refine g_act hC dL_goesOn_78 mL_231 vL_treats (kL_treats (n := (i : Int)) hLI1 (by omega) hx14 hL14 hW14 (by omega)) rfl hL14.sL (by decide) rfl (Nat.le_of_ble_eq_true rfl) (RSL rfl rfl (by dsimp only [rmk]; omega) (by dsimp only [rmk]; omega)) (fun z Sh78 V78 N78 P78 c78 hLI78 hx78 hL78 hW78 => ?_)
              have hI78 := hLI78.1.1
              have hq78 := hLI78.2.1
              have hs78 := hI78.1
              unfold iScal at hs78
              refine gB hC _ _ _ _ _ _ _ qL_goesOn_81 rfl ?_
              refine gB hC _ _ _ _ _ _ _ qL_goesOn_115 rfl ?_
              refine g_if_eq hC 149 dL_goesOn_117 rfl (by first | omega | exact cmpZ_in _ _ | exact bI_in _) (fun c117 => ?_) (fun c117 => ?_)
              · exact absurd c117 (by decide)
              · refine gB hC _ _ _ _ _ _ _ qL_goesOn_120 rfl ?_
                refine g_irem hC dL_goesOn_122 (by first | omega | exact cmpZ_in _ _ | exact bI_in _) (by first | omega | exact cmpZ_in _ _ | exact bI_in _) (by omega) (by omega) ?_
                refine gB hC _ _ _ _ _ _ _ qL_goesOn_123 rfl ?_
                refine g_icmp_ne hC 151 dL_goesOn_124 rfl (by first | omega | exact cmpZ_in _ _ | exact bI_in _) (by first | omega | exact cmpZ_in _ _ | exact bI_in _) (fun c124 => ?_) (fun c124 => ?_)
                · refine gB hC _ _ _ _ _ _ _ qL_goesOn_151 rfl ?_
                  refine g_kn9 (k1 := 400 * (i + 1)) (n1 := 4000 * (i + 1)) (by dsimp only [rmk]; omega) (by dsimp only [rmk]; omega) ?_
                  exact ih (Sh78, V78, _, i + 1, N78, P78, c78, _, _) ⟨hLI78, hx78, hL78, hW78, by show i + 1 ≤ 40; omega⟩ (by show 40 - (i + 1) < 40 - i; omega)
                · refine gB hC _ _ _ _ _ _ _ qL_goesOn_127 rfl ?_
                  refine g_cV1 hC dL_goesOn_128 mL_239 vL_isSame (kL_isSame hx78 hL78 hW78 hLI78.1 (by omega)) rfl hL78.sL (by decide) rfl (Nat.le_of_ble_eq_true rfl) (RSL rfl rfl (by dsimp only [rmk]; omega) (by dsimp only [rmk]; omega)) (fun z => ?_)
                  refine g_if_eq hC 149 dL_goesOn_131 rfl (by first | omega | exact cmpZ_in _ _ | exact bI_in _) (fun c131 => ?_) (fun c131 => ?_)
                  · exact absurd c131 (by decide)
                  · refine gB hC _ _ _ _ _ _ _ qL_goesOn_134 rfl ?_
                    refine g_getr hC dL_goesOn_136 fL_52 hL78.sL (by decide) rfl 1 rfl hL78.p1 ?_
                    refine gB hC _ _ _ _ _ _ _ qL_goesOn_139 rfl ?_
                    refine g_dice hC dL_goesOn_140 mL_147 vX12_next (kX12_next hL78.sD (by omega) (by omega)) rfl hL78.sD (by decide) rfl (Nat.le_of_ble_eq_true rfl) (RSL rfl rfl (by dsimp only [rmk]; omega) (by dsimp only [rmk]; omega)) (fun zd140 y140 s140 V140 l140 u140 e140 => ?_)
                    have hL140 := LB_dc (by omega) hL78 e140
                    have hW140 := LW_dc (by omega) hL78 e140 hW78
                    have hx140 := XR_dc (w := w) hx78 hLI78.1 e140
                    refine g_cV1e hC dL_goesOn_143 mL_242 vL_areRooms (kL_areRooms hx140 hL140 hW140 hLI78.1 (by omega) (by omega) (by omega) (by omega)) rfl hL140.sL (by decide) rfl (Nat.le_of_ble_eq_true rfl) (RSL rfl rfl (by dsimp only [rmk]; omega) (by dsimp only [rmk]; omega)) (fun z V143 e143 => ?_)
                    have hx143 := e143.1
                    have hL143 := e143.2.1
                    have hW143 := e143.2.2
                    refine g_if_ne hC 151 dL_goesOn_146 rfl (by first | omega | exact cmpZ_in _ _ | exact bI_in _) (fun c146 => ?_) (fun c146 => ?_)
                    · refine gB hC _ _ _ _ _ _ _ qL_goesOn_151 rfl ?_
                      refine g_kn9 (k1 := 400 * (i + 1)) (n1 := 4000 * (i + 1)) (by dsimp only [rmk]; omega) (by dsimp only [rmk]; omega) ?_
                      exact ih (Sh78, V143, _, i + 1, N78, P78, c78, _, _) ⟨hLI78, hx143, hL143, hW143, by show i + 1 ≤ 40; omega⟩ (by show 40 - (i + 1) < 40 - i; omega)
                    · exact absurd c146 (by decide)
          · refine gB hC _ _ _ _ _ _ _ qL_goesOn_60 rfl ?_
            refine g_act hC dL_goesOn_61 mL_228 vL_waits (kL_waits (n := (i : Int)) hLI1 (by omega) hx14 hL14 hW14) rfl hL14.sL (by decide) rfl (Nat.le_of_ble_eq_true rfl) (RSL rfl rfl (by dsimp only [rmk]; omega) (by dsimp only [rmk]; omega)) (fun z Sh61 V61 N61 P61 c61 hLI61 hx61 hL61 hW61 => ?_)
            have hI61 := hLI61.1.1
            have hq61 := hLI61.2.1
            have hs61 := hI61.1
            unfold iScal at hs61
            refine gB hC _ _ _ _ _ _ _ qL_goesOn_64 rfl ?_
            refine gB hC _ _ _ _ _ _ _ qL_goesOn_115 rfl ?_
            refine g_if_eq hC 149 dL_goesOn_117 rfl (by first | omega | exact cmpZ_in _ _ | exact bI_in _) (fun c117 => ?_) (fun c117 => ?_)
            · exact absurd c117 (by decide)
            · refine gB hC _ _ _ _ _ _ _ qL_goesOn_120 rfl ?_
              refine g_irem hC dL_goesOn_122 (by first | omega | exact cmpZ_in _ _ | exact bI_in _) (by first | omega | exact cmpZ_in _ _ | exact bI_in _) (by omega) (by omega) ?_
              refine gB hC _ _ _ _ _ _ _ qL_goesOn_123 rfl ?_
              refine g_icmp_ne hC 151 dL_goesOn_124 rfl (by first | omega | exact cmpZ_in _ _ | exact bI_in _) (by first | omega | exact cmpZ_in _ _ | exact bI_in _) (fun c124 => ?_) (fun c124 => ?_)
              · refine gB hC _ _ _ _ _ _ _ qL_goesOn_151 rfl ?_
                refine g_kn9 (k1 := 400 * (i + 1)) (n1 := 4000 * (i + 1)) (by dsimp only [rmk]; omega) (by dsimp only [rmk]; omega) ?_
                exact ih (Sh61, V61, _, i + 1, N61, P61, c61, _, _) ⟨hLI61, hx61, hL61, hW61, by show i + 1 ≤ 40; omega⟩ (by show 40 - (i + 1) < 40 - i; omega)
              · refine gB hC _ _ _ _ _ _ _ qL_goesOn_127 rfl ?_
                refine g_cV1 hC dL_goesOn_128 mL_239 vL_isSame (kL_isSame hx61 hL61 hW61 hLI61.1 (by omega)) rfl hL61.sL (by decide) rfl (Nat.le_of_ble_eq_true rfl) (RSL rfl rfl (by dsimp only [rmk]; omega) (by dsimp only [rmk]; omega)) (fun z => ?_)
                refine g_if_eq hC 149 dL_goesOn_131 rfl (by first | omega | exact cmpZ_in _ _ | exact bI_in _) (fun c131 => ?_) (fun c131 => ?_)
                · exact absurd c131 (by decide)
                · refine gB hC _ _ _ _ _ _ _ qL_goesOn_134 rfl ?_
                  refine g_getr hC dL_goesOn_136 fL_52 hL61.sL (by decide) rfl 1 rfl hL61.p1 ?_
                  refine gB hC _ _ _ _ _ _ _ qL_goesOn_139 rfl ?_
                  refine g_dice hC dL_goesOn_140 mL_147 vX12_next (kX12_next hL61.sD (by omega) (by omega)) rfl hL61.sD (by decide) rfl (Nat.le_of_ble_eq_true rfl) (RSL rfl rfl (by dsimp only [rmk]; omega) (by dsimp only [rmk]; omega)) (fun zd140 y140 s140 V140 l140 u140 e140 => ?_)
                  have hL140 := LB_dc (by omega) hL61 e140
                  have hW140 := LW_dc (by omega) hL61 e140 hW61
                  have hx140 := XR_dc (w := w) hx61 hLI61.1 e140
                  refine g_cV1e hC dL_goesOn_143 mL_242 vL_areRooms (kL_areRooms hx140 hL140 hW140 hLI61.1 (by omega) (by omega) (by omega) (by omega)) rfl hL140.sL (by decide) rfl (Nat.le_of_ble_eq_true rfl) (RSL rfl rfl (by dsimp only [rmk]; omega) (by dsimp only [rmk]; omega)) (fun z V143 e143 => ?_)
                  have hx143 := e143.1
                  have hL143 := e143.2.1
                  have hW143 := e143.2.2
                  refine g_if_ne hC 151 dL_goesOn_146 rfl (by first | omega | exact cmpZ_in _ _ | exact bI_in _) (fun c146 => ?_) (fun c146 => ?_)
                  · refine gB hC _ _ _ _ _ _ _ qL_goesOn_151 rfl ?_
                    refine g_kn9 (k1 := 400 * (i + 1)) (n1 := 4000 * (i + 1)) (by dsimp only [rmk]; omega) (by dsimp only [rmk]; omega) ?_
                    exact ih (Sh61, V143, _, i + 1, N61, P61, c61, _, _) ⟨hLI61, hx143, hL143, hW143, by show i + 1 ≤ 40; omega⟩ (by show 40 - (i + 1) < 40 - i; omega)
                  · exact absurd c146 (by decide)
        · refine gB hC _ _ _ _ _ _ _ qL_goesOn_47 rfl ?_
          refine g_act hC dL_goesOn_48 mL_225 vL_letsGo (kL_letsGo (n := (i : Int)) hLI1 (by omega) hx14 hL14 hW14) rfl hL14.sL (by decide) rfl (Nat.le_of_ble_eq_true rfl) (RSL rfl rfl (by dsimp only [rmk]; omega) (by dsimp only [rmk]; omega)) (fun z Sh48 V48 N48 P48 c48 hLI48 hx48 hL48 hW48 => ?_)
          have hI48 := hLI48.1.1
          have hq48 := hLI48.2.1
          have hs48 := hI48.1
          unfold iScal at hs48
          refine gB hC _ _ _ _ _ _ _ qL_goesOn_51 rfl ?_
          refine gB hC _ _ _ _ _ _ _ qL_goesOn_115 rfl ?_
          refine g_if_eq hC 149 dL_goesOn_117 rfl (by first | omega | exact cmpZ_in _ _ | exact bI_in _) (fun c117 => ?_) (fun c117 => ?_)
          · exact absurd c117 (by decide)
          · refine gB hC _ _ _ _ _ _ _ qL_goesOn_120 rfl ?_
            refine g_irem hC dL_goesOn_122 (by first | omega | exact cmpZ_in _ _ | exact bI_in _) (by first | omega | exact cmpZ_in _ _ | exact bI_in _) (by omega) (by omega) ?_
            refine gB hC _ _ _ _ _ _ _ qL_goesOn_123 rfl ?_
            refine g_icmp_ne hC 151 dL_goesOn_124 rfl (by first | omega | exact cmpZ_in _ _ | exact bI_in _) (by first | omega | exact cmpZ_in _ _ | exact bI_in _) (fun c124 => ?_) (fun c124 => ?_)
            · refine gB hC _ _ _ _ _ _ _ qL_goesOn_151 rfl ?_
              refine g_kn9 (k1 := 400 * (i + 1)) (n1 := 4000 * (i + 1)) (by dsimp only [rmk]; omega) (by dsimp only [rmk]; omega) ?_
              exact ih (Sh48, V48, _, i + 1, N48, P48, c48, _, _) ⟨hLI48, hx48, hL48, hW48, by show i + 1 ≤ 40; omega⟩ (by show 40 - (i + 1) < 40 - i; omega)
            · refine gB hC _ _ _ _ _ _ _ qL_goesOn_127 rfl ?_
              refine g_cV1 hC dL_goesOn_128 mL_239 vL_isSame (kL_isSame hx48 hL48 hW48 hLI48.1 (by omega)) rfl hL48.sL (by decide) rfl (Nat.le_of_ble_eq_true rfl) (RSL rfl rfl (by dsimp only [rmk]; omega) (by dsimp only [rmk]; omega)) (fun z => ?_)
              refine g_if_eq hC 149 dL_goesOn_131 rfl (by first | omega | exact cmpZ_in _ _ | exact bI_in _) (fun c131 => ?_) (fun c131 => ?_)
              · exact absurd c131 (by decide)
              · refine gB hC _ _ _ _ _ _ _ qL_goesOn_134 rfl ?_
                refine g_getr hC dL_goesOn_136 fL_52 hL48.sL (by decide) rfl 1 rfl hL48.p1 ?_
                refine gB hC _ _ _ _ _ _ _ qL_goesOn_139 rfl ?_
                refine g_dice hC dL_goesOn_140 mL_147 vX12_next (kX12_next hL48.sD (by omega) (by omega)) rfl hL48.sD (by decide) rfl (Nat.le_of_ble_eq_true rfl) (RSL rfl rfl (by dsimp only [rmk]; omega) (by dsimp only [rmk]; omega)) (fun zd140 y140 s140 V140 l140 u140 e140 => ?_)
                have hL140 := LB_dc (by omega) hL48 e140
                have hW140 := LW_dc (by omega) hL48 e140 hW48
                have hx140 := XR_dc (w := w) hx48 hLI48.1 e140
                refine g_cV1e hC dL_goesOn_143 mL_242 vL_areRooms (kL_areRooms hx140 hL140 hW140 hLI48.1 (by omega) (by omega) (by omega) (by omega)) rfl hL140.sL (by decide) rfl (Nat.le_of_ble_eq_true rfl) (RSL rfl rfl (by dsimp only [rmk]; omega) (by dsimp only [rmk]; omega)) (fun z V143 e143 => ?_)
                have hx143 := e143.1
                have hL143 := e143.2.1
                have hW143 := e143.2.2
                refine g_if_ne hC 151 dL_goesOn_146 rfl (by first | omega | exact cmpZ_in _ _ | exact bI_in _) (fun c146 => ?_) (fun c146 => ?_)
                · refine gB hC _ _ _ _ _ _ _ qL_goesOn_151 rfl ?_
                  refine g_kn9 (k1 := 400 * (i + 1)) (n1 := 4000 * (i + 1)) (by dsimp only [rmk]; omega) (by dsimp only [rmk]; omega) ?_
                  exact ih (Sh48, V143, _, i + 1, N48, P48, c48, _, _) ⟨hLI48, hx143, hL143, hW143, by show i + 1 ≤ 40; omega⟩ (by show 40 - (i + 1) < 40 - i; omega)
                · exact absurd c146 (by decide)
      · refine gB hC _ _ _ _ _ _ _ qL_goesOn_35 rfl ?_
        refine g_act hC dL_goesOn_36 mL_222 vL_asksGroup (kL_asksGroup (n := (i : Int)) hLI1 (by omega) hx14 hL14 hW14) rfl hL14.sL (by decide) rfl (Nat.le_of_ble_eq_true rfl) (RSL rfl rfl (by dsimp only [rmk]; omega) (by dsimp only [rmk]; omega)) (fun z Sh36 V36 N36 P36 c36 hLI36 hx36 hL36 hW36 => ?_)
        have hI36 := hLI36.1.1
        have hq36 := hLI36.2.1
        have hs36 := hI36.1
        unfold iScal at hs36
        refine gB hC _ _ _ _ _ _ _ qL_goesOn_39 rfl ?_
        refine gB hC _ _ _ _ _ _ _ qL_goesOn_115 rfl ?_
        refine g_if_eq hC 149 dL_goesOn_117 rfl (by first | omega | exact cmpZ_in _ _ | exact bI_in _) (fun c117 => ?_) (fun c117 => ?_)
        · exact absurd c117 (by decide)
        · refine gB hC _ _ _ _ _ _ _ qL_goesOn_120 rfl ?_
          refine g_irem hC dL_goesOn_122 (by first | omega | exact cmpZ_in _ _ | exact bI_in _) (by first | omega | exact cmpZ_in _ _ | exact bI_in _) (by omega) (by omega) ?_
          refine gB hC _ _ _ _ _ _ _ qL_goesOn_123 rfl ?_
          refine g_icmp_ne hC 151 dL_goesOn_124 rfl (by first | omega | exact cmpZ_in _ _ | exact bI_in _) (by first | omega | exact cmpZ_in _ _ | exact bI_in _) (fun c124 => ?_) (fun c124 => ?_)
          · refine gB hC _ _ _ _ _ _ _ qL_goesOn_151 rfl ?_
            refine g_kn9 (k1 := 400 * (i + 1)) (n1 := 4000 * (i + 1)) (by dsimp only [rmk]; omega) (by dsimp only [rmk]; omega) ?_
            exact ih (Sh36, V36, _, i + 1, N36, P36, c36, _, _) ⟨hLI36, hx36, hL36, hW36, by show i + 1 ≤ 40; omega⟩ (by show 40 - (i + 1) < 40 - i; omega)
          · refine gB hC _ _ _ _ _ _ _ qL_goesOn_127 rfl ?_
            refine g_cV1 hC dL_goesOn_128 mL_239 vL_isSame (kL_isSame hx36 hL36 hW36 hLI36.1 (by omega)) rfl hL36.sL (by decide) rfl (Nat.le_of_ble_eq_true rfl) (RSL rfl rfl (by dsimp only [rmk]; omega) (by dsimp only [rmk]; omega)) (fun z => ?_)
            refine g_if_eq hC 149 dL_goesOn_131 rfl (by first | omega | exact cmpZ_in _ _ | exact bI_in _) (fun c131 => ?_) (fun c131 => ?_)
            · exact absurd c131 (by decide)
            · refine gB hC _ _ _ _ _ _ _ qL_goesOn_134 rfl ?_
              refine g_getr hC dL_goesOn_136 fL_52 hL36.sL (by decide) rfl 1 rfl hL36.p1 ?_
              refine gB hC _ _ _ _ _ _ _ qL_goesOn_139 rfl ?_
              refine g_dice hC dL_goesOn_140 mL_147 vX12_next (kX12_next hL36.sD (by omega) (by omega)) rfl hL36.sD (by decide) rfl (Nat.le_of_ble_eq_true rfl) (RSL rfl rfl (by dsimp only [rmk]; omega) (by dsimp only [rmk]; omega)) (fun zd140 y140 s140 V140 l140 u140 e140 => ?_)
              have hL140 := LB_dc (by omega) hL36 e140
              have hW140 := LW_dc (by omega) hL36 e140 hW36
              have hx140 := XR_dc (w := w) hx36 hLI36.1 e140
              refine g_cV1e hC dL_goesOn_143 mL_242 vL_areRooms (kL_areRooms hx140 hL140 hW140 hLI36.1 (by omega) (by omega) (by omega) (by omega)) rfl hL140.sL (by decide) rfl (Nat.le_of_ble_eq_true rfl) (RSL rfl rfl (by dsimp only [rmk]; omega) (by dsimp only [rmk]; omega)) (fun z V143 e143 => ?_)
              have hx143 := e143.1
              have hL143 := e143.2.1
              have hW143 := e143.2.2
              refine g_if_ne hC 151 dL_goesOn_146 rfl (by first | omega | exact cmpZ_in _ _ | exact bI_in _) (fun c146 => ?_) (fun c146 => ?_)
              · refine gB hC _ _ _ _ _ _ _ qL_goesOn_151 rfl ?_
                refine g_kn9 (k1 := 400 * (i + 1)) (n1 := 4000 * (i + 1)) (by dsimp only [rmk]; omega) (by dsimp only [rmk]; omega) ?_
                exact ih (Sh36, V143, _, i + 1, N36, P36, c36, _, _) ⟨hLI36, hx143, hL143, hW143, by show i + 1 ≤ 40; omega⟩ (by show 40 - (i + 1) < 40 - i; omega)
              · exact absurd c146 (by decide)
    · refine gB hC _ _ _ _ _ _ _ qL_goesOn_23 rfl ?_
      refine g_act hC dL_goesOn_24 mL_218 vL_asks (kL_asks (n := (i : Int)) hLI1 (by omega) hx14 hL14 hW14) rfl hL14.sL (by decide) rfl (Nat.le_of_ble_eq_true rfl) (RSL rfl rfl (by dsimp only [rmk]; omega) (by dsimp only [rmk]; omega)) (fun z Sh24 V24 N24 P24 c24 hLI24 hx24 hL24 hW24 => ?_)
      have hI24 := hLI24.1.1
      have hq24 := hLI24.2.1
      have hs24 := hI24.1
      unfold iScal at hs24
      refine gB hC _ _ _ _ _ _ _ qL_goesOn_27 rfl ?_
      refine gB hC _ _ _ _ _ _ _ qL_goesOn_115 rfl ?_
      refine g_if_eq hC 149 dL_goesOn_117 rfl (by first | omega | exact cmpZ_in _ _ | exact bI_in _) (fun c117 => ?_) (fun c117 => ?_)
      · exact absurd c117 (by decide)
      · refine gB hC _ _ _ _ _ _ _ qL_goesOn_120 rfl ?_
        refine g_irem hC dL_goesOn_122 (by first | omega | exact cmpZ_in _ _ | exact bI_in _) (by first | omega | exact cmpZ_in _ _ | exact bI_in _) (by omega) (by omega) ?_
        refine gB hC _ _ _ _ _ _ _ qL_goesOn_123 rfl ?_
        refine g_icmp_ne hC 151 dL_goesOn_124 rfl (by first | omega | exact cmpZ_in _ _ | exact bI_in _) (by first | omega | exact cmpZ_in _ _ | exact bI_in _) (fun c124 => ?_) (fun c124 => ?_)
        · refine gB hC _ _ _ _ _ _ _ qL_goesOn_151 rfl ?_
          refine g_kn9 (k1 := 400 * (i + 1)) (n1 := 4000 * (i + 1)) (by dsimp only [rmk]; omega) (by dsimp only [rmk]; omega) ?_
          exact ih (Sh24, V24, _, i + 1, N24, P24, c24, _, _) ⟨hLI24, hx24, hL24, hW24, by show i + 1 ≤ 40; omega⟩ (by show 40 - (i + 1) < 40 - i; omega)
        · refine gB hC _ _ _ _ _ _ _ qL_goesOn_127 rfl ?_
          refine g_cV1 hC dL_goesOn_128 mL_239 vL_isSame (kL_isSame hx24 hL24 hW24 hLI24.1 (by omega)) rfl hL24.sL (by decide) rfl (Nat.le_of_ble_eq_true rfl) (RSL rfl rfl (by dsimp only [rmk]; omega) (by dsimp only [rmk]; omega)) (fun z => ?_)
          refine g_if_eq hC 149 dL_goesOn_131 rfl (by first | omega | exact cmpZ_in _ _ | exact bI_in _) (fun c131 => ?_) (fun c131 => ?_)
          · exact absurd c131 (by decide)
          · refine gB hC _ _ _ _ _ _ _ qL_goesOn_134 rfl ?_
            refine g_getr hC dL_goesOn_136 fL_52 hL24.sL (by decide) rfl 1 rfl hL24.p1 ?_
            refine gB hC _ _ _ _ _ _ _ qL_goesOn_139 rfl ?_
            refine g_dice hC dL_goesOn_140 mL_147 vX12_next (kX12_next hL24.sD (by omega) (by omega)) rfl hL24.sD (by decide) rfl (Nat.le_of_ble_eq_true rfl) (RSL rfl rfl (by dsimp only [rmk]; omega) (by dsimp only [rmk]; omega)) (fun zd140 y140 s140 V140 l140 u140 e140 => ?_)
            have hL140 := LB_dc (by omega) hL24 e140
            have hW140 := LW_dc (by omega) hL24 e140 hW24
            have hx140 := XR_dc (w := w) hx24 hLI24.1 e140
            refine g_cV1e hC dL_goesOn_143 mL_242 vL_areRooms (kL_areRooms hx140 hL140 hW140 hLI24.1 (by omega) (by omega) (by omega) (by omega)) rfl hL140.sL (by decide) rfl (Nat.le_of_ble_eq_true rfl) (RSL rfl rfl (by dsimp only [rmk]; omega) (by dsimp only [rmk]; omega)) (fun z V143 e143 => ?_)
            have hx143 := e143.1
            have hL143 := e143.2.1
            have hW143 := e143.2.2
            refine g_if_ne hC 151 dL_goesOn_146 rfl (by first | omega | exact cmpZ_in _ _ | exact bI_in _) (fun c146 => ?_) (fun c146 => ?_)
            · refine gB hC _ _ _ _ _ _ _ qL_goesOn_151 rfl ?_
              refine g_kn9 (k1 := 400 * (i + 1)) (n1 := 4000 * (i + 1)) (by dsimp only [rmk]; omega) (by dsimp only [rmk]; omega) ?_
              exact ih (Sh24, V143, _, i + 1, N24, P24, c24, _, _) ⟨hLI24, hx143, hL143, hW143, by show i + 1 ≤ 40; omega⟩ (by show 40 - (i + 1) < 40 - i; omega)
            · exact absurd c146 (by decide)
