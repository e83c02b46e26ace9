/-! the reference: stays made, those who wait (rows laid by wip/whole/m4.py) -/
theorem wrN_wr (V : gV) (b : Int) (N N' : gN0) : wrN (wrN V b N) b N' = wrN V b N' := by funext a; unfold wrN; split <;> rfl
theorem upN_ne {N : gN0} {i j x : Int} (h : i ≠ j) : upN N j x i = N i := if_neg h
theorem upN_eq (N : gN0) (j x : Int) : upN N j x j = x := if_pos rfl
theorem mkP_lo (N : gN0) (k first n : Int) {j : Int} (h5 : 0 ≤ N 5) (hj : j < 56) : mkP N k first n j = N j := by unfold mkP; rw [if_neg (by omega)]
theorem InvC_mkP {N : gN0} {k first n : Int} (hI : InvC N) (h5 : N 5 < 60) (hn : n ≤ 14) : InvC (mkP N k first n) := InvC_ag (mkP_ag N k first h5 hn) hI

theorem kX12_makes {E l Sh V z} {b : Int} {N : gN0} {k0 first nights adults children till group : Int} (hm : gMd b N Sh V) (hI : InvC N) (ho : mkOk N k0 first nights adults children till group) : gM E l yX12_makes (.code yX12_makes cX12_makes 10 (some .int)) (rmk 5 0 0 120) [(2, b), (0, k0), (0, first), (0, nights), (0, adults), (0, children), (0, till), (0, group)] Sh V z (gRi (N 5) Sh (wrN V b (mkN N k0 first nights adults children till group))) := by
  refine gM_at (L0 := [(2, b), (0, k0), (0, first), (0, nights), (0, adults), (0, children), (0, till), (0, group), (9, 0), (9, 0)]) rfl rfl rfl ?_
  intro p e s m args below meth c hC hr hex hnm hz
  have hsc := hI.1
  unfold iScal at hsc
  unfold mkOk at ho
  refine gB hC _ _ _ _ _ _ _ qX12_makes_0 rfl ?_
  refine g_getr hC dX12_makes_1 fX12_9 hm.1.1 (by decide) rfl 0 rfl hm.2.1.1 ?_
  refine gB hC _ _ _ _ _ _ _ qX12_makes_4 rfl ?_
  refine g_iald hC dX12_makes_5 hm.1.2.1 (gMd_at hm _) (by omega) (by omega) (by decide) (fun i5 => ?_)
  refine gB hC _ _ _ _ _ _ _ qX12_makes_6 rfl ?_
  have hV0 : V = wrN V b (mkP N k0 first 0) := by rw [mkP_0]; exact wrN_self hm
  rw [hV0]
  refine g_loop (fun x : Int => 0 ≤ x ∧ x ≤ nights) (fun x => (nights - x).toNat) 11 (fun x => [(2, b), (0, k0), (0, first), (0, nights), (0, adults), (0, children), (0, till), (0, group), (0, N 5), (0, x)]) (fun x => wrN V b (mkP N k0 first x)) 0 ⟨by decide, by omega⟩ ?_
  rintro n z ⟨hn0, hn1⟩ ih
  have hwn : gMw b V (mkP N k0 first n) Sh (wrN V b (mkP N k0 first n)) := ⟨gMd_w hm rfl, rfl⟩
  have hIn : InvC (mkP N k0 first n) := InvC_mkP hI (by omega) (by omega)
  have en1 : mkP N k0 first n 1 = N 1 := mkP_lo _ _ _ _ (by omega) (by decide)
  have en4 : mkP N k0 first n 4 = N 4 := mkP_lo _ _ _ _ (by omega) (by decide)
  have en5 : mkP N k0 first n 5 = N 5 := mkP_lo _ _ _ _ (by omega) (by decide)
  have enp := nPr_ag (mkP_ag N k0 first (n := n) (by omega) (by omega)) hI (k := k0) (by omega) (by omega) (first + n)
  refine gB hC _ _ _ _ _ _ _ qX12_makes_11 rfl ?_
  refine g_icmp_ge hC 43 dX12_makes_14 rfl (by first | omega | exact bI_in _) (by first | omega | exact bI_in _) (fun c14 => ?_) (fun c14 => ?_)
  · refine gB hC _ _ _ _ _ _ _ qX12_makes_43 rfl ?_
    refine g_cV0m hC dX12_makes_48 mX12_90 vX12_lays (kX12_lays hwn.1 (by omega) (by omega) (by first | omega | exact bI_in _)) rfl hwn.1.1.1 (by decide) rfl (Nat.le_of_ble_eq_true rfl) (RR rfl rfl rfl rfl) (fun z V48 e48 => ?_)
    have hw48 := gMw_wr hwn e48
    refine gB hC _ _ _ _ _ _ _ qX12_makes_51 rfl ?_
    refine g_cV0m hC dX12_makes_56 mX12_90 vX12_lays (kX12_lays hw48.1 (by omega) (by omega) (by first | omega | exact bI_in _)) rfl hw48.1.1.1 (by decide) rfl (Nat.le_of_ble_eq_true rfl) (RR rfl rfl rfl rfl) (fun z V56 e56 => ?_)
    have hw56 := gMw_wr hw48 e56
    refine gB hC _ _ _ _ _ _ _ qX12_makes_59 rfl ?_
    refine g_cV0m hC dX12_makes_64 mX12_90 vX12_lays (kX12_lays hw56.1 (by omega) (by omega) (by first | omega | exact bI_in _)) rfl hw56.1.1.1 (by decide) rfl (Nat.le_of_ble_eq_true rfl) (RR rfl rfl rfl rfl) (fun z V64 e64 => ?_)
    have hw64 := gMw_wr hw56 e64
    refine gB hC _ _ _ _ _ _ _ qX12_makes_67 rfl ?_
    refine g_cV0m hC dX12_makes_72 mX12_90 vX12_lays (kX12_lays hw64.1 (by omega) (by omega) (by first | omega | exact bI_in _)) rfl hw64.1.1.1 (by decide) rfl (Nat.le_of_ble_eq_true rfl) (RR rfl rfl rfl rfl) (fun z V72 e72 => ?_)
    have hw72 := gMw_wr hw64 e72
    refine gB hC _ _ _ _ _ _ _ qX12_makes_75 rfl ?_
    refine g_cV0m hC dX12_makes_81 mX12_90 vX12_lays (kX12_lays hw72.1 (by omega) (by omega) (by first | omega | exact bI_in _)) rfl hw72.1.1.1 (by decide) rfl (Nat.le_of_ble_eq_true rfl) (RR rfl rfl rfl rfl) (fun z V81 e81 => ?_)
    have hw81 := gMw_wr hw72 e81
    refine gB hC _ _ _ _ _ _ _ qX12_makes_84 rfl ?_
    refine g_cV0m hC dX12_makes_90 mX12_90 vX12_lays (kX12_lays hw81.1 (by omega) (by omega) (by first | omega | exact bI_in _)) rfl hw81.1.1.1 (by decide) rfl (Nat.le_of_ble_eq_true rfl) (RR rfl rfl rfl rfl) (fun z V90 e90 => ?_)
    have hw90 := gMw_wr hw81 e90
    refine gB hC _ _ _ _ _ _ _ qX12_makes_93 rfl ?_
    refine g_cV0m hC dX12_makes_99 mX12_90 vX12_lays (kX12_lays hw90.1 (by omega) (by omega) (by first | omega | exact bI_in _)) rfl hw90.1.1.1 (by decide) rfl (Nat.le_of_ble_eq_true rfl) (RR rfl rfl rfl rfl) (fun z V99 e99 => ?_)
    have hw99 := gMw_wr hw90 e99
    refine gB hC _ _ _ _ _ _ _ qX12_makes_102 rfl ?_
    refine g_getr hC dX12_makes_108 fX12_9 hw99.1.1.1 (by decide) rfl 0 rfl hw99.1.2.1.1 ?_
    refine gB hC _ _ _ _ _ _ _ qX12_makes_111 rfl ?_
    refine g_iald hC dX12_makes_112 hw99.1.1.2.1 (gMd_at hw99.1 _) (by omega) (by omega) (by decide) (fun i112 => ?_)
    repeat rw [upN_ne (by omega)]
    rw [en4]
    refine g_cV0m hC dX12_makes_113 mX12_90 vX12_lays (kX12_lays hw99.1 (by omega) (by omega) (by first | omega | exact bI_in _)) rfl hw99.1.1.1 (by decide) rfl (Nat.le_of_ble_eq_true rfl) (RR rfl rfl rfl rfl) (fun z V113 e113 => ?_)
    have hw113 := gMw_wr hw99 e113
    refine gB hC _ _ _ _ _ _ _ qX12_makes_116 rfl ?_
    refine g_cV0m hC dX12_makes_123 mX12_90 vX12_lays (kX12_lays hw113.1 (by omega) (by omega) (by first | omega | exact bI_in _)) rfl hw113.1.1.1 (by decide) rfl (Nat.le_of_ble_eq_true rfl) (RR rfl rfl rfl rfl) (fun z V123 e123 => ?_)
    have hw123 := gMw_wr hw113 e123
    refine gB hC _ _ _ _ _ _ _ qX12_makes_126 rfl ?_
    refine g_cV0m hC dX12_makes_133 mX12_90 vX12_lays (kX12_lays hw123.1 (by omega) (by omega) (by first | omega | exact bI_in _)) rfl hw123.1.1.1 (by decide) rfl (Nat.le_of_ble_eq_true rfl) (RR rfl rfl rfl rfl) (fun z V133 e133 => ?_)
    have hw133 := gMw_wr hw123 e133
    refine gB hC _ _ _ _ _ _ _ qX12_makes_136 rfl ?_
    refine g_getr hC dX12_makes_137 fX12_9 hw133.1.1.1 (by decide) rfl 0 rfl hw133.1.2.1.1 ?_
    refine gB hC _ _ _ _ _ _ _ qX12_makes_140 rfl ?_
    refine g_iald hC dX12_makes_142 hw133.1.1.2.1 (gMd_at hw133.1 _) (by omega) (by omega) (by decide) (fun i142 => ?_)
    repeat rw [upN_ne (by omega)]
    rw [en5]
    refine gB hC _ _ _ _ _ _ _ qX12_makes_143 rfl ?_
    refine g_ast hC dX12_makes_145 hw133.1.1.2.1 (by omega) (by omega) (by decide) (by first | omega | exact bI_in _) (fun V145 e145 => ?_)
    have hw145 := gMw_up hw133 e145
    refine gB hC _ _ _ _ _ _ _ qX12_makes_146 rfl ?_
    refine g_ireturn hC dX12_makes_148 hr ⟨rfl, rfl, ?_, by omega⟩ gs_rfl ⟨Nat.le_of_ble_eq_true rfl, Nat.le_of_ble_eq_true rfl⟩
    rw [hw145.2]
    have hnn : n = nights := by omega
    subst hnn
    rw [wrN_wr]; rfl
  · refine gB hC _ _ _ _ _ _ _ qX12_makes_17 rfl ?_
    refine g_cV1i hC dX12_makes_31 mX12_87 vX12_nightPrice (kX12_nightPrice hwn.1 hIn (by omega) (by rw [en1]; omega) (by omega) (by omega)) rfl hwn.1.1.1 (by decide) rfl (Nat.le_of_ble_eq_true rfl) (RR rfl rfl rfl rfl) (fun z i31 => ?_)
    refine g_cV0m hC dX12_makes_34 mX12_90 vX12_lays (kX12_lays hwn.1 (by omega) (by omega) (by first | omega | exact bI_in _)) rfl hwn.1.1.1 (by decide) rfl (Nat.le_of_ble_eq_true rfl) (RR rfl rfl rfl rfl) (fun z V34 e34 => ?_)
    have hw34 := gMw_wr hwn e34
    refine gB hC _ _ _ _ _ _ _ qX12_makes_37 rfl ?_
    rw [hw34.2, enp, mkP_next _ _ _ _ hn0]
    exact ih (n + 1) _ ⟨by omega, by omega⟩ (by omega)
