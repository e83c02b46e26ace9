/-! the law: offers (rows laid by wip/p47/l26.py) -/
theorem rmB_le (m : Nat) (h : m ≤ 3) : (rmB m).frames ≤ 19 ∧ (rmB m).cells ≤ 11340 ∧ (rmB m).slots ≤ 113400 ∧ (rmB m).locals ≤ 600 := by
  rcases (by omega : m = 0 ∨ m = 1 ∨ m = 2 ∨ m = 3) with q | q | q | q <;> subst q <;> decide
section ONE
variable {E : gE} {own : String} {cc : ByteArray} {nL : Nat} {p : Program} {l : Launch} {e : Env} {R : Room} {s : State} {m : MethodId} {args : Array Value} {below : List Frame} {meth : Method} {c : Code} {Q : State → Prop} {pc : Nat} {L st r rest st0 as : List aV} {Sh : gSh} {V : gV} {z : Int} {k n : Nat} {rm : Room}
theorem g_one (hC : gC E own cc nL p l s m args meth c) {y : MethodName} {bytes : ByteArray} {maxL na ci idx : Nat} {ret : Option FieldType} {a : Int} (hd : decode cc pc = .ok (.invokevirtual idx, 3)) (hl : Cond.methodLink own idx y ∈ gws) (hY : gYV y bytes maxL ret na ci)
    (hM : gM E l y (Cond.code y bytes maxL ret) rm ((2, a) :: as) Sh V z gOne) (hst : st0 = as.reverse ++ (2, a) :: rest) (hsh : Sh a = some (ci, 0)) (hci : ci < 100) (hna : as.length = na) (hW : catS rest ≤ 8) (hR : (rm.frames + 1 ≤ R.frames ∧ 8 + (maxL + 11) + rm.locals ≤ R.locals) ∧ (k + rm.cells ≤ R.cells ∧ n + rm.slots ≤ R.slots))
    (kk : ∀ z' Sh1 V1, gG E nL p l e R s m args below meth c Q (pc + 3) L ((0, 1) :: rest) Sh1 V1 z' (k + rm.cells) (n + rm.slots)) : gG E nL p l e R s m args below meth c Q pc L st0 Sh V z k n :=
  g_callV hC st0 hd hl hY hM hst hsh hci hna hW hR (fun r0 Sh' V' z' h => by cases h; exact kk z' Sh' V') (fun X Sh' V' z' h => nomatch h)
end ONE

theorem kL_areOffers {E l Sh V z} {q w : Int} {N : gN0} {P9 : Int → gN0} {c9 : Int} (hLI : LI 40 N) (hx : XR (q + 2) N P9 c9 Sh V) (hL : LB q w N Sh V) : gM E l yL_areOffers (.code yL_areOffers cL_areOffers 9 (some .boolean)) (rmk 24 20000 200000 700) [(2, q)] Sh V z (gOne) := by
  refine gM_at (L0 := [(2, q), (9, 0), (9, 0), (9, 0), (9, 0), (9, 0), (9, 0), (9, 0), (9, 0)]) rfl rfl rfl ?_
  intro p e s m args below meth c hC hr hex hnm hz
  obtain ⟨pa, rfl⟩ : ∃ p, p = z := ⟨z, rfl⟩
  have hqw := hL.a0
  have hI0 := hLI.1
  have hI := hI0.1
  have hlo := hLI.2.1
  have hsc := hI.1
  unfold iScal at hsc
  refine gB hC _ _ _ _ _ _ _ qL_areOffers_0 rfl ?_
  refine g_lts (fun hlt1 => ?_)
  refine g_new_ints hC dL_areOffers_1 gArr_int rfl (by decide) ⟨by decide, by decide⟩ (fun hz1 => ?_)
  have hzw1 := (hlt1 _ _ hL.sbk).2
  have hL1 : LB q w N (shp Sh pa (100, 3)) (vnew V pa (fun _ => 0)) := LB_to (by omega) (fun a sh ha => (shp_ne _ _ (fun h => by have := (hlt1 a sh ha).2; omega)).trans ha) (fun a sh ha _ => vn_ne _ _ (fun h => by have := (hlt1 a sh ha).2; omega)) hL
  have hx1 : XR (q + 2) _ _ _ (shp Sh pa (100, 3)) (vnew V pa (fun _ => 0)) := XR_new hx hI0 (by omega) (fun a ha => vn_ne _ _ ha)
  have spa1 : (shp Sh pa (100, 3)) pa = some (100, 3) := shp_eq _ _ _
  refine gB hC _ _ _ _ _ _ _ qL_areOffers_3 rfl ?_
  refine g_getr hC dL_areOffers_6 fL_52 hL1.sL (by decide) rfl 1 rfl hL1.p1 ?_
  refine gB hC _ _ _ _ _ _ _ qL_areOffers_9 rfl ?_
  refine g_dice hC dL_areOffers_12 mL_147 vX12_next (kX12_next hL1.sD (by omega) (by omega)) rfl hL1.sD (by decide) rfl (Nat.le_of_ble_eq_true rfl) (RSL rfl rfl (by dsimp only [rmk]; omega) (by dsimp only [rmk]; omega)) (fun zd12 y12 s12 V12 l12 u12 e12 => ?_)
  have hL12 := LB_dc (by omega) hL1 e12
  have hx12 := XR_dc (w := w) hx1 hI0 e12
  refine g_ast hC dL_areOffers_15 spa1 (by omega) (by omega) (by decide) (by first | omega | exact cmpZ_in _ _ | exact bI_in _) (fun V15 e15 => ?_)
  have hL15 := LB_p (by omega) hL12 (by omega) e15
  have hx15 := XR_r0 hx12 hI0 hqw e15 (Or.inr (by omega))
  refine gB hC _ _ _ _ _ _ _ qL_areOffers_16 rfl ?_
  refine g_getr hC dL_areOffers_19 fL_52 hL15.sL (by decide) rfl 1 rfl hL15.p1 ?_
  refine gB hC _ _ _ _ _ _ _ qL_areOffers_22 rfl ?_
  refine g_dice hC dL_areOffers_25 mL_147 vX12_next (kX12_next hL15.sD (by omega) (by omega)) rfl hL15.sD (by decide) rfl (Nat.le_of_ble_eq_true rfl) (RSL rfl rfl (by dsimp only [rmk]; omega) (by dsimp only [rmk]; omega)) (fun zd25 y25 s25 V25 l25 u25 e25 => ?_)
  have hL25 := LB_dc (by omega) hL15 e25
  have hx25 := XR_dc (w := w) hx15 hI0 e25
  refine g_ast hC dL_areOffers_28 spa1 (by omega) (by omega) (by decide) (by first | omega | exact cmpZ_in _ _ | exact bI_in _) (fun V28 e28 => ?_)
  have hL28 := LB_p (by omega) hL25 (by omega) e28
  have hx28 := XR_r0 hx25 hI0 hqw e28 (Or.inr (by omega))
  refine gB hC _ _ _ _ _ _ _ qL_areOffers_29 rfl ?_
  refine g_ast hC dL_areOffers_32 spa1 (by omega) (by omega) (by decide) (by first | omega | exact cmpZ_in _ _ | exact bI_in _) (fun V32 e32 => ?_)
  have hL32 := LB_p (by omega) hL28 (by omega) e32
  have hx32 := XR_r0 hx28 hI0 hqw e32 (Or.inr (by omega))
  refine gB hC _ _ _ _ _ _ _ qL_areOffers_33 rfl ?_
  refine g_lts (fun hlt35 => ?_)
  refine g_new_ints hC dL_areOffers_35 gArr_int rfl (by decide) ⟨by decide, by decide⟩ (fun hz35 => ?_)
  have hzw35 := (hlt35 _ _ hL32.sbk).2
  have hL35 : LB q w N (shp (shp Sh pa (100, 3)) zd25 (100, 3)) (vnew V32 zd25 (fun _ => 0)) := LB_to (by omega) (fun a sh ha => (shp_ne _ _ (fun h => by have := (hlt35 a sh ha).2; omega)).trans ha) (fun a sh ha _ => vn_ne _ _ (fun h => by have := (hlt35 a sh ha).2; omega)) hL32
  have hx35 : XR (q + 2) _ _ _ (shp (shp Sh pa (100, 3)) zd25 (100, 3)) (vnew V32 zd25 (fun _ => 0)) := XR_new hx32 hI0 (by omega) (fun a ha => vn_ne _ _ ha)
  have soa35 : (shp (shp Sh pa (100, 3)) zd25 (100, 3)) zd25 = some (100, 3) := shp_eq _ _ _
  have hdpa35 := (hlt35 _ _ spa1).2
  have spa35 : (shp (shp Sh pa (100, 3)) zd25 (100, 3)) pa = some (100, 3) := (shp_ne _ _ (by omega)).trans spa1
  refine gB hC _ _ _ _ _ _ _ qL_areOffers_37 rfl ?_
  refine g_getr hC dL_areOffers_40 fL_52 hL35.sL (by decide) rfl 1 rfl hL35.p1 ?_
  refine gB hC _ _ _ _ _ _ _ qL_areOffers_43 rfl ?_
  refine g_dice hC dL_areOffers_46 mL_147 vX12_next (kX12_next hL35.sD (by omega) (by omega)) rfl hL35.sD (by decide) rfl (Nat.le_of_ble_eq_true rfl) (RSL rfl rfl (by dsimp only [rmk]; omega) (by dsimp only [rmk]; omega)) (fun zd46 y46 s46 V46 l46 u46 e46 => ?_)
  have hL46 := LB_dc (by omega) hL35 e46
  have hx46 := XR_dc (w := w) hx35 hI0 e46
  refine g_ast hC dL_areOffers_49 soa35 (by omega) (by omega) (by decide) (by first | omega | exact cmpZ_in _ _ | exact bI_in _) (fun V49 e49 => ?_)
  have hL49 := LB_p (by omega) hL46 (by omega) e49
  have hx49 := XR_r0 hx46 hI0 hqw e49 (Or.inr (by omega))
  refine gB hC _ _ _ _ _ _ _ qL_areOffers_50 rfl ?_
  refine g_getr hC dL_areOffers_53 fL_52 hL49.sL (by decide) rfl 1 rfl hL49.p1 ?_
  refine gB hC _ _ _ _ _ _ _ qL_areOffers_56 rfl ?_
  refine g_dice hC dL_areOffers_59 mL_147 vX12_next (kX12_next hL49.sD (by omega) (by omega)) rfl hL49.sD (by decide) rfl (Nat.le_of_ble_eq_true rfl) (RSL rfl rfl (by dsimp only [rmk]; omega) (by dsimp only [rmk]; omega)) (fun zd59 y59 s59 V59 l59 u59 e59 => ?_)
  have hL59 := LB_dc (by omega) hL49 e59
  have hx59 := XR_dc (w := w) hx49 hI0 e59
  refine g_ast hC dL_areOffers_62 soa35 (by omega) (by omega) (by decide) (by first | omega | exact cmpZ_in _ _ | exact bI_in _) (fun V62 e62 => ?_)
  have hL62 := LB_p (by omega) hL59 (by omega) e62
  have hx62 := XR_r0 hx59 hI0 hqw e62 (Or.inr (by omega))
  refine gB hC _ _ _ _ _ _ _ qL_areOffers_63 rfl ?_
  refine g_ast hC dL_areOffers_66 soa35 (by omega) (by omega) (by decide) (by first | omega | exact cmpZ_in _ _ | exact bI_in _) (fun V66 e66 => ?_)
  have hL66 := LB_p (by omega) hL62 (by omega) e66
  have hx66 := XR_r0 hx62 hI0 hqw e66 (Or.inr (by omega))
  refine gB hC _ _ _ _ _ _ _ qL_areOffers_67 rfl ?_
  refine g_iald hC dL_areOffers_75 soa35 (show V66 zd25 0 = y46 by rw [e66, up_ne _ _ (Or.inr (by decide)), e62, up_ne _ _ (Or.inr (by decide)), e59, up_row _ _ _ (by omega), e49, up_eq]) (by omega) (by omega) (by decide) (fun i75 => ?_)
  refine gB hC _ _ _ _ _ _ _ qL_areOffers_76 rfl ?_
  refine g_iald hC dL_areOffers_79 soa35 (show V66 zd25 1 = y59 by rw [e66, up_ne _ _ (Or.inr (by decide)), e62, up_eq]) (by omega) (by omega) (by decide) (fun i79 => ?_)
  refine gB hC _ _ _ _ _ _ _ qL_areOffers_80 rfl ?_
  refine g_ast hC dL_areOffers_81 soa35 (by omega) (by omega) (by decide) (by first | omega | exact cmpZ_in _ _ | exact bI_in _) (fun V81 e81 => ?_)
  have hL81 := LB_p (by omega) hL66 (by omega) e81
  have hx81 := XR_r0 hx66 hI0 hqw e81 (Or.inr (by omega))
  have rp81 : V81 pa = V32 pa := by rw [e81, up_row _ _ _ (by omega), e66, up_row _ _ _ (by omega), e62, up_row _ _ _ (by omega), e59, up_row _ _ _ (by omega), e49, up_row _ _ _ (by omega), e46, up_row _ _ _ (by omega), vn_ne _ _ (by omega)]
  have p0 : V32 pa 0 = y12 := by rw [e32, up_ne _ _ (Or.inr (by decide)), e28, up_ne _ _ (Or.inr (by decide)), e25, up_row _ _ _ (by omega), e15, up_eq]
  have p1 : V32 pa 1 = y25 := by rw [e32, up_ne _ _ (Or.inr (by decide)), e28, up_eq]
  have p2 : V32 pa 2 = 0 := by rw [e32, up_eq]
  have o0 : V81 zd25 0 = y46 := by rw [e81, up_ne _ _ (Or.inr (by decide)), e66, up_ne _ _ (Or.inr (by decide)), e62, up_ne _ _ (Or.inr (by decide)), e59, up_row _ _ _ (by omega), e49, up_eq]
  have o1 : V81 zd25 1 = y59 := by rw [e81, up_ne _ _ (Or.inr (by decide)), e66, up_ne _ _ (Or.inr (by decide)), e62, up_eq]
  have o2 : V81 zd25 2 = 1000 - y46 - y59 := by rw [e81, up_eq]
  have ot0 : otT N 0 4 = 0 := by simp [otT]; omega
  refine gB hC _ _ _ _ _ _ _ qL_areOffers_82 rfl ?_
  refine g_getr hC dL_areOffers_83 fL_10 hL81.sL (by decide) rfl 0 rfl hL81.p0 ?_
  refine gB hC _ _ _ _ _ _ _ qL_areOffers_86 rfl ?_
  refine g_iald hC dL_areOffers_89 spa35 (show V81 pa 0 = y12 by rw [rp81]; exact p0) (by omega) (by omega) (by decide) (fun i89 => ?_)
  refine gB hC _ _ _ _ _ _ _ qL_areOffers_90 rfl ?_
  refine g_iald hC dL_areOffers_92 soa35 o0 (by omega) (by omega) (by decide) (fun i92 => ?_)
  refine g_cV1e hC dL_areOffers_93 mL_272 vX11_setOdds (xsetOdds hx81 hI0 (by omega) (by omega) (by omega) (by omega)) rfl hL81.sX (by decide) rfl (Nat.le_of_ble_eq_true rfl) (RSL rfl rfl (by dsimp only [rmk]; omega) (by dsimp only [rmk]; omega)) (fun z V93 e93 => ?_)
  have hx93 := e93.1
  have hL93 := LB_x (by omega) hL81 e93.2
  have rp93 : V93 pa = V32 pa := (e93.2 _ _ spa35 (Or.inr (by omega))).trans rp81
  have ro93 : V93 zd25 = V81 zd25 := e93.2 _ _ soa35 (Or.inr (by omega))
  have hIa : INV (upN (upN N (17 + 0) y12) (13 + 0) y46) := so_inv hI0 (by omega) (by omega) (by omega) (by omega)
  have ot3 : otT (upN (upN N (17 + 0) y12) (13 + 0) y46) 3 4 = y46 := by simp [otT, upN]; omega
  rw [ot0, Int.zero_add]
  refine gB hC _ _ _ _ _ _ _ qL_areOffers_96 rfl ?_
  refine g_iald hC dL_areOffers_98 soa35 (show V93 zd25 0 = y46 by rw [ro93]; exact o0) (by omega) (by omega) (by decide) (fun i98 => ?_)
  refine g_icmp_ne hC 126 dL_areOffers_99 rfl (by first | omega | exact cmpZ_in _ _ | exact bI_in _) (by first | omega | exact cmpZ_in _ _ | exact bI_in _) (fun c99 => ?_) (fun c99 => ?_)
  · exact absurd rfl c99 --stop
  · refine gB hC _ _ _ _ _ _ _ qL_areOffers_102 rfl ?_
    refine g_getr hC dL_areOffers_103 fL_10 hL93.sL (by decide) rfl 0 rfl hL93.p0 ?_
    refine gB hC _ _ _ _ _ _ _ qL_areOffers_106 rfl ?_
    refine g_iald hC dL_areOffers_109 spa35 (show V93 pa 1 = y25 by rw [rp93]; exact p1) (by omega) (by omega) (by decide) (fun i109 => ?_)
    refine gB hC _ _ _ _ _ _ _ qL_areOffers_110 rfl ?_
    refine g_iald hC dL_areOffers_112 soa35 (show V93 zd25 1 = y59 by rw [ro93]; exact o1) (by omega) (by omega) (by decide) (fun i112 => ?_)
    refine g_cV1e hC dL_areOffers_113 mL_272 vX11_setOdds (xsetOdds hx93 hIa (by omega) (by omega) (by omega) (by omega)) rfl hL93.sX (by decide) rfl (Nat.le_of_ble_eq_true rfl) (RSL rfl rfl (by dsimp only [rmk]; omega) (by dsimp only [rmk]; omega)) (fun z V113 e113 => ?_)
    have hx113 := e113.1
    have hL113' := LB_x (by omega) hL93 e113.2
    have rp113 : V113 pa = V32 pa := (e113.2 _ _ spa35 (Or.inr (by omega))).trans rp93
    have ro113 : V113 zd25 = V81 zd25 := (e113.2 _ _ soa35 (Or.inr (by omega))).trans ro93
    have hIb : INV (upN (upN (upN (upN N (17 + 0) y12) (13 + 0) y46) (17 + 3) y25) (13 + 3) y59) := so_inv hIa (by omega) (by omega) (by omega) (by rw [ot3]; omega)
    have n13 : (upN (upN (upN (upN N (17 + 0) y12) (13 + 0) y46) (17 + 3) y25) (13 + 3) y59) 13 = y46 := by rw [upN_ne (by decide), upN_ne (by decide)]; exact upN_eq _ _ _
    have n16 : (upN (upN (upN (upN N (17 + 0) y12) (13 + 0) y46) (17 + 3) y25) (13 + 3) y59) 16 = y59 := by exact upN_eq _ _ _
    have n17 : (upN (upN (upN (upN N (17 + 0) y12) (13 + 0) y46) (17 + 3) y25) (13 + 3) y59) 17 = y12 := by rw [upN_ne (by decide), upN_ne (by decide), upN_ne (by decide)]; exact upN_eq _ _ _
    have n20 : (upN (upN (upN (upN N (17 + 0) y12) (13 + 0) y46) (17 + 3) y25) (13 + 3) y59) 20 = y25 := by rw [upN_ne (by decide)]; exact upN_eq _ _ _
    have nj : ∀ j, (j < 13 ∨ 20 < j) → (upN (upN (upN (upN N (17 + 0) y12) (13 + 0) y46) (17 + 3) y25) (13 + 3) y59) j = N j := fun j hj => by rw [upN_ne (by omega), upN_ne (by omega), upN_ne (by omega), upN_ne (by omega)]
    have n14 : (upN (upN (upN (upN N (17 + 0) y12) (13 + 0) y46) (17 + 3) y25) (13 + 3) y59) 14 = 0 := by rw [upN_ne (by decide), upN_ne (by decide), upN_ne (by decide), upN_ne (by decide)]; omega
    have n15 : (upN (upN (upN (upN N (17 + 0) y12) (13 + 0) y46) (17 + 3) y25) (13 + 3) y59) 15 = 0 := by rw [upN_ne (by decide), upN_ne (by decide), upN_ne (by decide), upN_ne (by decide)]; omega
    obtain ⟨M, hM⟩ : ∃ M, M = (upN (upN (upN (upN N (17 + 0) y12) (13 + 0) y46) (17 + 3) y25) (13 + 3) y59) := ⟨_, rfl⟩
    rw [← hM] at hx113 hIb n13 n14 n15 n16 n17 n20 nj
    rw [ot3]
    have m5 := nj 5 (by decide)
    have m1 := nj 1 (by decide)
    have hL113 : LB q w M _ V113 := LB_N (by omega) hL113' (fun j j0 j1 _ => nj j (by omega)) (fun j hj => nj j (by omega)) (fun s j s0 s1 j0 j1 => nj _ (by omega)) (fun s s0 s1 => by have := (hI.2.2.2.1 s s0 s1).1; omega)
    refine gB hC _ _ _ _ _ _ _ qL_areOffers_116 rfl ?_
    refine g_iald hC dL_areOffers_118 soa35 (show V113 zd25 0 = y46 by rw [ro113]; exact o0) (by omega) (by omega) (by decide) (fun i118 => ?_)
    refine gB hC _ _ _ _ _ _ _ qL_areOffers_119 rfl ?_
    refine g_iald hC dL_areOffers_121 soa35 (show V113 zd25 1 = y59 by rw [ro113]; exact o1) (by omega) (by omega) (by decide) (fun i121 => ?_)
    refine gB hC _ _ _ _ _ _ _ qL_areOffers_122 rfl ?_
    refine g_icmp_eq hC 128 dL_areOffers_123 rfl (by first | omega | exact cmpZ_in _ _ | exact bI_in _) (by first | omega | exact cmpZ_in _ _ | exact bI_in _) (fun c123 => ?_) (fun c123 => ?_)
    · refine gB hC _ _ _ _ _ _ _ qL_areOffers_128 rfl ?_
      refine g_getr hC dL_areOffers_130 fL_52 hL113.sL (by decide) rfl 1 rfl hL113.p1 ?_
      refine gB hC _ _ _ _ _ _ _ qL_areOffers_133 rfl ?_
      refine g_dice hC dL_areOffers_134 mL_147 vX12_next (kX12_next hL113.sD (by omega) (by omega)) rfl hL113.sD (by decide) rfl (Nat.le_of_ble_eq_true rfl) (RSL rfl rfl (by dsimp only [rmk]; omega) (by dsimp only [rmk]; omega)) (fun zd134 y134 s134 V134 l134 u134 e134 => ?_)
      have hL134 := LB_dc (by omega) hL113 e134
      have hx134 := XR_dc (w := w) hx113 hIb e134
      refine gB hC _ _ _ _ _ _ _ qL_areOffers_137 rfl ?_
      refine g_getr hC dL_areOffers_141 fL_52 hL134.sL (by decide) rfl 1 rfl hL134.p1 ?_
      refine gB hC _ _ _ _ _ _ _ qL_areOffers_144 rfl ?_
      refine g_dice hC dL_areOffers_145 mL_147 vX12_next (kX12_next hL134.sD (by omega) (by omega)) rfl hL134.sD (by decide) rfl (Nat.le_of_ble_eq_true rfl) (RSL rfl rfl (by dsimp only [rmk]; omega) (by dsimp only [rmk]; omega)) (fun zd145 y145 s145 V145 l145 u145 e145 => ?_)
      have hL145 := LB_dc (by omega) hL134 e145
      have hx145 := XR_dc (w := w) hx134 hIb e145
      refine gB hC _ _ _ _ _ _ _ qL_areOffers_148 rfl ?_
      refine g_lts (fun hlt158 => ?_)
      refine g_new_ints hC dL_areOffers_158 gArr_int rfl (by decide) ⟨by decide, by decide⟩ (fun hz158 => ?_)
      have hzw158 := (hlt158 _ _ hL145.sbk).2
      have hL158 : LB q w M (shp (shp (shp Sh pa (100, 3)) zd25 (100, 3)) zd145 (100, 3)) (vnew V145 zd145 (fun _ => 0)) := LB_to (by omega) (fun a sh ha => (shp_ne _ _ (fun h => by have := (hlt158 a sh ha).2; omega)).trans ha) (fun a sh ha _ => vn_ne _ _ (fun h => by have := (hlt158 a sh ha).2; omega)) hL145
      have hx158 : XR (q + 2) _ _ _ (shp (shp (shp Sh pa (100, 3)) zd25 (100, 3)) zd145 (100, 3)) (vnew V145 zd145 (fun _ => 0)) := XR_new hx145 hIb (by omega) (fun a ha => vn_ne _ _ ha)
      have sca158 : (shp (shp (shp Sh pa (100, 3)) zd25 (100, 3)) zd145 (100, 3)) zd145 = some (100, 3) := shp_eq _ _ _
      have hdpa158 := (hlt158 _ _ spa35).2
      have spa158 : (shp (shp (shp Sh pa (100, 3)) zd25 (100, 3)) zd145 (100, 3)) pa = some (100, 3) := (shp_ne _ _ (by omega)).trans spa35
      have hdoa158 := (hlt158 _ _ soa35).2
      have soa158 : (shp (shp (shp Sh pa (100, 3)) zd25 (100, 3)) zd145 (100, 3)) zd25 = some (100, 3) := (shp_ne _ _ (by omega)).trans soa35
      have rpc : (vnew V145 zd145 (fun _ => 0)) pa = V32 pa := by rw [vn_ne _ _ (by omega), e145, up_row _ _ _ (by omega), e134, up_row _ _ _ (by omega)]; exact rp113
      have roc : (vnew V145 zd145 (fun _ => 0)) zd25 = V81 zd25 := by rw [vn_ne _ _ (by omega), e145, up_row _ _ _ (by omega), e134, up_row _ _ _ (by omega)]; exact ro113
      have hcall := fun z => kL_bringsI (E := E) (l := l) (q := q) (w := w) (N := M) (pr := (fun i : Int => if i = 0 then y12 else if i = 1 then y25 else 0)) (od := (fun i : Int => if i = 0 then y46 else if i = 1 then y59 else 1000 - y46 - y59)) (D := (1 + y134).toNat) (R := (1 + y145).toNat) hIb (by omega) (by omega) n14 n15 ⟨n17.symm, n20.symm, rfl, n13.symm, n16.symm, by rw [n13, n16]; rfl⟩ ⟨⟨by show 0 ≤ y12; omega, by show y12 ≤ 2000; omega⟩, by show 0 ≤ y25; omega, by show y25 ≤ 2000; omega⟩ (1 + y134).toNat 0 (by omega) _ (vnew V145 zd145 (fun _ => 0)) z M _ _ pa zd25 zd145 (fun _ => 0) hx158 hL158 hIb (AgO.rf M) spa158 soa158 sca158 (by omega) (fun i i0 i1 => by
        rw [rpc, roc]
        rcases (by omega : i = 0 ∨ i = 1 ∨ i = 2) with h | h | h <;> subst h
        · exact ⟨p0, o0⟩
        · exact ⟨p1, o1⟩
        · exact ⟨p2, o2⟩) (fun i i0 i1 => by have : i < ((0 : Nat) : Int) := i1; omega) (fun i _ _ => ⟨by show (0 : Int) ≤ 0; omega, by show (0 : Int) ≤ 100000; omega⟩)
      rw [show (((1 + y134).toNat : Nat) : Int) = 1 + y134 by omega, show (((1 + y145).toNat : Nat) : Int) = 1 + y145 by omega] at hcall
      have hrb := rmB_le (1 + y134).toNat (by omega)
      refine gB hC _ _ _ _ _ _ _ qL_areOffers_160 rfl ?_
      refine g_cV1e hC dL_areOffers_161 mL_257 vL_brings (hcall _) rfl hL158.sL (by decide) rfl (Nat.le_of_ble_eq_true rfl) ⟨⟨by show _ + 1 ≤ 24; omega, by show 8 + (10 + 11) + _ ≤ 700; omega⟩, by dsimp only [rmk]; omega, by dsimp only [rmk]; omega⟩ (fun z V161 e161 => ?_)
      obtain ⟨⟨K, PK, cK, hAK, hIK, hxK⟩, hLK, -, -⟩ := e161
      have hva : vaO M (fun _ => 0) (1 + y134).toNat (1 + y145).toNat 0 = incZ M (1 + y134).toNat (1 + y145).toNat := by unfold vaO ofS; show 0 * _ + incZ M ((1 + y134).toNat - 0) (1 + y145).toNat = _; rw [Int.zero_mul, Int.zero_add, Nat.sub_zero]
      rw [hva]
      have hoK := hIK.2.2
      have hinB := incZ_in hIb.2.2 (1 + y134).toNat (1 + y145).toNat (by omega)
      have hmx := mxI_in (d := (1 + y134).toNat) (by omega)
      refine g_kn9 (k1 := 12000) (n1 := 120000) (by dsimp only [rmk]; omega) (by dsimp only [rmk]; omega) ?_
      refine gB hC _ _ _ _ _ _ _ qL_areOffers_164 rfl ?_
      refine g_getr hC dL_areOffers_165 fL_10 hLK.sL (by decide) rfl 0 rfl hLK.p0 ?_
      refine gB hC _ _ _ _ _ _ _ qL_areOffers_168 rfl ?_
      refine g_cV1e hC dL_areOffers_171 mL_275 vX11_awaited (gM_k0 (kX11_awaited hxK hIK (by omega) (by omega)) (fk1 ⟨by omega, by omega⟩)) rfl hLK.sX (by decide) rfl (Nat.le_of_ble_eq_true rfl) (RSL rfl rfl (by dsimp only [rmk]; omega) (by dsimp only [rmk]; omega)) (fun z V171 e171 => ?_)
      rw [incZ_ag (fun j _ _ => hAK j (by omega))]
      have hx171 := e171.1
      have hL171 := LB_x (by omega) hLK e171.2
      refine g_lcmp hC dL_areOffers_174 (by first | omega | exact cmpZ_in _ _ | exact bI_in _) (by first | omega | exact cmpZ_in _ _ | exact bI_in _) ?_
      refine g_if_eq hC 180 dL_areOffers_175 rfl (by first | omega | exact cmpZ_in _ _ | exact bI_in _) (fun c175 => ?_) (fun c175 => ?_)
      · refine gB hC _ _ _ _ _ _ _ qL_areOffers_180 rfl ?_
        refine g_kn9 (k1 := 12100 + 1440 * 0) (n1 := 121000 + 14400 * 0) (by dsimp only [rmk]; omega) (by dsimp only [rmk]; omega) ?_
        refine g_loopB (fun x : gV × Nat × aV × aV => XR (q + 2) K PK cK (shp (shp (shp Sh pa (100, 3)) zd25 (100, 3)) zd145 (100, 3)) x.1 ∧ LB q w M (shp (shp (shp Sh pa (100, 3)) zd25 (100, 3)) zd145 (100, 3)) x.1 ∧ x.2.1 ≤ 4) (fun x => 4 - x.2.1) 183 (fun x => [(2, q), (2, pa), (2, zd25), (0, 1 + y134), (0, 1 + y145), (0, (x.2.1 : Int) + 1), x.2.2.1, x.2.2.2, (9, 0)]) (fun x => x.1) (fun x => 12100 + 1440 * x.2.1) (fun x => 121000 + 14400 * x.2.1) (V171, 0, (9, 0), (9, 0)) ⟨hx171, hL171, by show (0 : Nat) ≤ 4; decide⟩ ?_
        rintro ⟨V1, j, a6, a7⟩ z ⟨hx1, hL1, hj⟩ ih183
        dsimp only at hx1 hL1 hj ih183 ⊢
        refine gB hC _ _ _ _ _ _ _ qL_areOffers_183 rfl ?_
        refine g_icmp_gt hC 323 dL_areOffers_186 rfl (by first | omega | exact cmpZ_in _ _ | exact bI_in _) (by first | omega | exact cmpZ_in _ _ | exact bI_in _) (fun c186 => ?_) (fun c186 => ?_)
        · refine gB hC _ _ _ _ _ _ _ qL_areOffers_323 rfl ?_
          refine g_one hC dL_areOffers_324 mL_281 vL_areSold (kL_areSold hx1 hL1 hIb hIK (fun j hj => hAK j (by omega)) (by omega) ((nj _ (by omega)).trans hlo.2.2.1) ((nj _ (by omega)).trans hlo.2.2.2.1)) rfl hL1.sL (by decide) rfl (Nat.le_of_ble_eq_true rfl) (RSL rfl rfl (by dsimp only [rmk]; omega) (by dsimp only [rmk]; omega)) (fun z Sh324 V324 => ?_)
          refine g_zreturn hC dL_areOffers_327 hr ?_ rfl gs_rfl ⟨(by dsimp only [rmk]; omega), (by dsimp only [rmk]; omega)⟩
          exact Or.inr rfl
        · refine gB hC _ _ _ _ _ _ _ qL_areOffers_189 rfl ?_
          refine g_kn9 (k1 := 12100 + 1440 * j + 360 * 0) (n1 := 121000 + 14400 * j + 3600 * 0) (by omega) (by omega) ?_
          refine g_loopB (fun x : gV × Nat × aV => XR (q + 2) K PK cK (shp (shp (shp Sh pa (100, 3)) zd25 (100, 3)) zd145 (100, 3)) x.1 ∧ LB q w M (shp (shp (shp Sh pa (100, 3)) zd25 (100, 3)) zd145 (100, 3)) x.1 ∧ x.2.1 ≤ 4) (fun x => 4 - x.2.1) 192 (fun x => [(2, q), (2, pa), (2, zd25), (0, 1 + y134), (0, 1 + y145), (0, (j : Int) + 1), (0, (x.2.1 : Int)), x.2.2, (9, 0)]) (fun x => x.1) (fun x => 12100 + 1440 * j + 360 * x.2.1) (fun x => 121000 + 14400 * j + 3600 * x.2.1) (V1, 0, a7) ⟨hx1, hL1, by show (0 : Nat) ≤ 4; decide⟩ ?_
          rintro ⟨V2, r, b7⟩ z ⟨hx2, hL2, hr⟩ ih192
          dsimp only at hx2 hL2 hr ih192 ⊢
          refine gB hC _ _ _ _ _ _ _ qL_areOffers_192 rfl ?_
          refine g_icmp_ge hC 317 dL_areOffers_195 rfl (by first | omega | exact cmpZ_in _ _ | exact bI_in _) (by first | omega | exact cmpZ_in _ _ | exact bI_in _) (fun c195 => ?_) (fun c195 => ?_)
          · refine gB hC _ _ _ _ _ _ _ qL_areOffers_317 rfl ?_
            refine g_kn9 (k1 := 12100 + 1440 * (j + 1)) (n1 := 121000 + 14400 * (j + 1)) (by omega) (by omega) ?_
            exact ih183 (V2, j + 1, _, _) _ ⟨hx2, hL2, by show j + 1 ≤ 4; omega⟩ (by show 4 - (j + 1) < 4 - j; omega)
          · have i1 := incZ_in hoK (j + 1) (r + 2) (by omega)
            have i2 := incZ_in hoK (j + 1) (r + 1) (by omega)
            have i3 := incZ_in hoK (j + 1) r (by omega)
            have i4 := incZ_in hoK j (r + 1) (by omega)
            have i5 := incZ_in hoK j r (by omega)
            have x1 := mxI_in (d := j + 1) (by omega)
            have x2 := mxI_in (d := j) (by omega)
            have cc1 := inc_cc hoK (j + 1) r
            have cc2 := inc_cc hoK j r
            have gr1 := inc_gr hoK j r
            refine gB hC _ _ _ _ _ _ _ qL_areOffers_198 rfl ?_
            refine g_getr hC dL_areOffers_199 fL_10 hL2.sL (by decide) rfl 0 rfl hL2.p0 ?_
            refine gB hC _ _ _ _ _ _ _ qL_areOffers_202 rfl ?_
            refine g_cV1e hC dL_areOffers_208 mL_275 vX11_awaited (gM_k0 (kX11_awaited hx2 hIK (by omega) (by omega)) (fk1 ⟨by omega, by omega⟩)) rfl hL2.sX (by decide) rfl (Nat.le_of_ble_eq_true rfl) (RSL rfl rfl (by dsimp only [rmk]; omega) (by dsimp only [rmk]; omega)) (fun z V208 e208 => ?_)
            rw [show ((j : Int) + 1).toNat = j + 1 by omega, show ((r : Int) + 1).toNat = r + 1 by omega]
            have hx208 := e208.1
            have hL208 := LB_x (by omega) hL2 e208.2
            refine gB hC _ _ _ _ _ _ _ qL_areOffers_211 rfl ?_
            refine g_getr hC dL_areOffers_212 fL_10 hL208.sL (by decide) rfl 0 rfl hL208.p0 ?_
            refine gB hC _ _ _ _ _ _ _ qL_areOffers_215 rfl ?_
            refine g_cV1e hC dL_areOffers_219 mL_275 vX11_awaited (gM_k0 (kX11_awaited hx208 hIK (by omega) (by omega)) (fk1 ⟨by omega, by omega⟩)) rfl hL208.sX (by decide) rfl (Nat.le_of_ble_eq_true rfl) (RSL rfl rfl (by dsimp only [rmk]; omega) (by dsimp only [rmk]; omega)) (fun z V219 e219 => ?_)
            rw [show ((j : Int) + 1).toNat = j + 1 by omega, show (r : Int).toNat = r by omega]
            have hx219 := e219.1
            have hL219 := LB_x (by omega) hL208 e219.2
            refine gB hC _ _ _ _ _ _ _ qL_areOffers_222 rfl ?_
            refine g_getr hC dL_areOffers_226 fL_10 hL219.sL (by decide) rfl 0 rfl hL219.p0 ?_
            refine gB hC _ _ _ _ _ _ _ qL_areOffers_229 rfl ?_
            refine g_icmp_le hC 243 dL_areOffers_236 rfl (by first | omega | exact cmpZ_in _ _ | exact bI_in _) (by first | omega | exact cmpZ_in _ _ | exact bI_in _) (fun c236 => ?_) (fun c236 => ?_)
            · refine gB hC _ _ _ _ _ _ _ qL_areOffers_243 rfl ?_
              refine g_cV1e hC dL_areOffers_247 mL_275 vX11_awaited (gM_k0 (kX11_awaited hx219 hIK (by omega) (by omega)) (fk1 ⟨by omega, by omega⟩)) rfl hL219.sX (by decide) rfl (Nat.le_of_ble_eq_true rfl) (RSL rfl rfl (by dsimp only [rmk]; omega) (by dsimp only [rmk]; omega)) (fun z V247 e247 => ?_)
              rw [show ((j : Int) + 1).toNat = j + 1 by omega, show ((r : Int) + 2).toNat = r + 2 by omega]
              have hx247 := e247.1
              have hL247 := LB_x (by omega) hL219 e247.2
              refine gB hC _ _ _ _ _ _ _ qL_areOffers_250 rfl ?_
              refine g_getr hC dL_areOffers_251 fL_10 hL247.sL (by decide) rfl 0 rfl hL247.p0 ?_
              refine gB hC _ _ _ _ _ _ _ qL_areOffers_254 rfl ?_
              refine g_cV1e hC dL_areOffers_260 mL_275 vX11_awaited (gM_k0 (kX11_awaited hx247 hIK (by omega) (by omega)) (fk1 ⟨by omega, by omega⟩)) rfl hL247.sX (by decide) rfl (Nat.le_of_ble_eq_true rfl) (RSL rfl rfl (by dsimp only [rmk]; omega) (by dsimp only [rmk]; omega)) (fun z V260 e260 => ?_)
              rw [show ((j : Int) + 1).toNat = j + 1 by omega, show ((r : Int) + 1).toNat = r + 1 by omega]
              have hx260 := e260.1
              have hL260 := LB_x (by omega) hL247 e260.2
              refine gB hC _ _ _ _ _ _ _ qL_areOffers_263 rfl ?_
              refine g_lcmp hC dL_areOffers_266 (by first | omega | exact cmpZ_in _ _ | exact bI_in _) (by first | omega | exact cmpZ_in _ _ | exact bI_in _) ?_
              refine g_if_gt hC 309 dL_areOffers_267 rfl (by first | omega | exact cmpZ_in _ _ | exact bI_in _) (fun c267 => ?_) (fun c267 => ?_)
              · exact absurd ((cmpZ_gt _ _).mp c267) (by omega) --stop
              · refine g_ldc2 hC 1000 kL_279 rfl dL_areOffers_270 ?_
                refine gB hC _ _ _ _ _ _ _ qL_areOffers_273 rfl ?_
                refine g_getr hC dL_areOffers_274 fL_10 hL260.sL (by decide) rfl 0 rfl hL260.p0 ?_
                refine gB hC _ _ _ _ _ _ _ qL_areOffers_277 rfl ?_
                refine g_cV1e hC dL_areOffers_285 mL_275 vX11_awaited (gM_k0 (kX11_awaited hx260 hIK (by omega) (by omega)) (fk1 ⟨by omega, by omega⟩)) rfl hL260.sX (by decide) rfl (Nat.le_of_ble_eq_true rfl) (RSL rfl rfl (by dsimp only [rmk]; omega) (by dsimp only [rmk]; omega)) (fun z V285 e285 => ?_)
                rw [show ((j : Int) + 1 - 1).toNat = j by omega, show ((r : Int) + 1).toNat = r + 1 by omega]
                have hx285 := e285.1
                have hL285 := LB_x (by omega) hL260 e285.2
                refine gB hC _ _ _ _ _ _ _ qL_areOffers_288 rfl ?_
                refine g_getr hC dL_areOffers_289 fL_10 hL285.sL (by decide) rfl 0 rfl hL285.p0 ?_
                refine gB hC _ _ _ _ _ _ _ qL_areOffers_292 rfl ?_
                refine g_cV1e hC dL_areOffers_298 mL_275 vX11_awaited (gM_k0 (kX11_awaited hx285 hIK (by omega) (by omega)) (fk1 ⟨by omega, by omega⟩)) rfl hL285.sX (by decide) rfl (Nat.le_of_ble_eq_true rfl) (RSL rfl rfl (by dsimp only [rmk]; omega) (by dsimp only [rmk]; omega)) (fun z V298 e298 => ?_)
                rw [show ((j : Int) + 1 - 1).toNat = j by omega, show (r : Int).toNat = r by omega]
                have hx298 := e298.1
                have hL298 := LB_x (by omega) hL285 e298.2
                refine gB hC _ _ _ _ _ _ _ qL_areOffers_301 rfl ?_
                refine g_lcmp hC dL_areOffers_305 (by first | omega | exact cmpZ_in _ _ | exact bI_in _) (by first | omega | exact cmpZ_in _ _ | exact bI_in _) ?_
                refine g_if_le hC 311 dL_areOffers_306 rfl (by first | omega | exact cmpZ_in _ _ | exact bI_in _) (fun c306 => ?_) (fun c306 => ?_)
                · refine gB hC _ _ _ _ _ _ _ qL_areOffers_311 rfl ?_
                  refine g_kn9 (k1 := 12100 + 1440 * j + 360 * (r + 1)) (n1 := 121000 + 14400 * j + 3600 * (r + 1)) (by dsimp only [rmk]; omega) (by dsimp only [rmk]; omega) ?_
                  exact ih192 (V298, r + 1, _) _ ⟨hx298, hL298, by show r + 1 ≤ 4; omega⟩ (by show 4 - (r + 1) < 4 - r; omega)
                · exact absurd ((cmpZ_gt _ _).mp c306) (by omega) --stop
            · exact absurd c236 (by omega) --stop
      · exact absurd (cmpZ_0.mpr rfl) c175 --stop
    · exact absurd rfl c123 --stop
