/-! the reference: stays made, those who wait (rows laid by wip/whole/m4.py) -/
theorem wrN_wr (V : gV) (b : Int) (N N' : gN0) : wrN (wrN V b N) b N' = wrN V b N' := by funext a; unfold wrN; split <;> rfl
theorem upN_ne {N : gN0} {i j x : Int} (h : i ≠ j) : upN N j x i = N i := if_neg h
theorem upN_eq (N : gN0) (j x : Int) : upN N j x j = x := if_pos rfl
theorem mkP_lo (N : gN0) (k first n : Int) {j : Int} (h5 : 0 ≤ N 5) (hj : j < 56) : mkP N k first n j = N j := by unfold mkP; rw [if_neg (by omega)]
theorem InvC_mkP {N : gN0} {k first n : Int} (hI : InvC N) (h5 : N 5 < 60) (hn : n ≤ 14) : InvC (mkP N k first n) := InvC_ag (mkP_ag N k first h5 hn) hI

theorem kX12_makes {E l Sh V z} {b : Int} {N : gN0} {k0 first nights adults children till group : Int} (hm : gMd b N Sh V) (hI : InvC N) (ho : mkOk N k0 first nights adults children till group) : gM E l yX12_makes (.code yX12_makes cX12_makes 10 (some .int)) (rmk 5 0 0 120) [(2, b), (0, k0), (0, first), (0, nights), (0, adults), (0, children), (0, till), (0, group)] Sh V z (gRi (N 5) Sh (wrN V b (mkN N k0 first nights adults children till group))) := by
  refine gM_at (L0 := [(2, b), (0, k0), (0, first), (0, nights), (0, adults), (0, children), (0, till), (0, group), (9, 0), (9, 0)]) rfl rfl rfl ?_
  intro p e s m args below meth c hC hr hex hnm hz
  have hsc := hI.1
  unfold iScal at hsc
  unfold mkOk at ho
  refine gB hC _ _ _ _ _ _ _ qX12_makes_0 rfl ?_
  refine g_getr hC dX12_makes_1 fX12_9 hm.1.1 (by decide) rfl 0 rfl hm.2.1.1 ?_
  refine gB hC _ _ _ _ _ _ _ qX12_makes_4 rfl ?_
  refine g_iald hC dX12_makes_5 hm.1.2.1 (gMd_at hm _) (by omega) (by omega) (by decide) (fun i5 => ?_)
  refine gB hC _ _ _ _ _ _ _ qX12_makes_6 rfl ?_
  have hV0 : V = wrN V b (mkP N k0 first 0) := by rw [mkP_0]; exact wrN_self hm
  rw [hV0]
  refine g_loop (fun x : Int => 0 ≤ x ∧ x ≤ nights) (fun x => (nights - x).toNat) 11 (fun x => [(2, b), (0, k0), (0, first), (0, nights), (0, adults), (0, children), (0, till), (0, group), (0, N 5), (0, x)]) (fun x => wrN V b (mkP N k0 first x)) 0 ⟨by decide, by omega⟩ ?_
  rintro n z ⟨hn0, hn1⟩ ih
  have hwn : gMw b V (mkP N k0 first n) Sh (wrN V b (mkP N k0 first n)) := ⟨gMd_w hm rfl, rfl⟩
  have hIn : InvC (mkP N k0 first n) := InvC_mkP hI (by omega) (by omega)
  have en1 : mkP N k0 first n 1 = N 1 := mkP_lo _ _ _ _ (by omega) (by decide)
  have en4 : mkP N k0 first n 4 = N 4 := mkP_lo _ _ _ _ (by omega) (by decide)
  have en5 : mkP N k0 first n 5 = N 5 := mkP_lo _ _ _ _ (by omega) (by decide)
  have enp := nPr_ag (mkP_ag N k0 first (n := n) (by omega) (by omega)) hI (k := k0) (by omega) (by omega) (first + n)
  refine gB hC _ _ _ _ _ _ _ qX12_makes_11 rfl ?_
  refine g_icmp_ge hC 43 dX12_makes_14 rfl (by first | omega | exact bI_in _) (by first | omega | exact bI_in _) (fun c14 => ?_) (fun c14 => ?_)
  · refine gB hC _ _ _ _ _ _ _ qX12_makes_43 rfl ?_
    refine g_cV0m hC dX12_makes_48 mX12_90 vX12_lays (kX12_lays hwn.1 (by omega) (by omega) (by first | omega | exact bI_in _)) rfl hwn.1.1.1 (by decide) rfl (Nat.le_of_ble_eq_true rfl) (RR rfl rfl rfl rfl) (fun z V48 e48 => ?_)
    have hw48 := gMw_wr hwn e48
    refine gB hC _ _ _ _ _ _ _ qX12_makes_51 rfl ?_
    refine g_cV0m hC dX12_makes_56 mX12_90 vX12_lays (kX12_lays hw48.1 (by omega) (by omega) (by first | omega | exact bI_in _)) rfl hw48.1.1.1 (by decide) rfl (Nat.le_of_ble_eq_true rfl) (RR rfl rfl rfl rfl) (fun z V56 e56 => ?_)
    have hw56 := gMw_wr hw48 e56
    refine gB hC _ _ _ _ _ _ _ qX12_makes_59 rfl ?_
    refine g_cV0m hC dX12_makes_64 mX12_90 vX12_lays (kX12_lays hw56.1 (by omega) (by omega) (by first | omega | exact bI_in _)) rfl hw56.1.1.1 (by decide) rfl (Nat.le_of_ble_eq_true rfl) (RR rfl rfl rfl rfl) (fun z V64 e64 => ?_)
    have hw64 := gMw_wr hw56 e64
    refine gB hC _ _ _ _ _ _ _ qX12_makes_67 rfl ?_
    refine g_cV0m hC dX12_makes_72 mX12_90 vX12_lays (kX12_lays hw64.1 (by omega) (by omega) (by first | omega | exact bI_in _)) rfl hw64.1.1.1 (by decide) rfl (Nat.le_of_ble_eq_true rfl) (RR rfl rfl rfl rfl) (fun z V72 e72 => ?_)
    have hw72 := gMw_wr hw64 e72
    refine gB hC _ _ _ _ _ _ _ qX12_makes_75 rfl ?_
    refine g_cV0m hC dX12_makes_81 mX12_90 vX12_lays (kX12_lays hw72.1 (by omega) (by omega) (by first | omega | exact bI_in _)) rfl hw72.1.1.1 (by decide) rfl (Nat.le_of_ble_eq_true rfl) (RR rfl rfl rfl rfl) (fun z V81 e81 => ?_)
    have hw81 := gMw_wr hw72 e81
    refine gB hC _ _ _ _ _ _ _ qX12_makes_84 rfl ?_
    refine g_cV0m hC dX12_makes_90 mX12_90 vX12_lays (kX12_lays hw81.1 (by omega) (by omega) (by first | omega | exact bI_in _)) rfl hw81.1.1.1 (by decide) rfl (Nat.le_of_ble_eq_true rfl) (RR rfl rfl rfl rfl) (fun z V90 e90 => ?_)
    have hw90 := gMw_wr hw81 e90
    refine gB hC _ _ _ _ _ _ _ qX12_makes_93 rfl ?_
    refine g_cV0m hC dX12_makes_99 mX12_90 vX12_lays (kX12_lays hw90.1 (by omega) (by omega) (by first | omega | exact bI_in _)) rfl hw90.1.1.1 (by decide) rfl (Nat.le_of_ble_eq_true rfl) (RR rfl rfl rfl rfl) (fun z V99 e99 => ?_)
    have hw99 := gMw_wr hw90 e99
    refine gB hC _ _ _ _ _ _ _ qX12_makes_102 rfl ?_
    refine g_getr hC dX12_makes_108 fX12_9 hw99.1.1.1 (by decide) rfl 0 rfl hw99.1.2.1.1 ?_
    refine gB hC _ _ _ _ _ _ _ qX12_makes_111 rfl ?_
    refine g_iald hC dX12_makes_112 hw99.1.1.2.1 (gMd_at hw99.1 _) (by omega) (by omega) (by decide) (fun i112 => ?_)
    repeat rw [upN_ne (by omega)]
    rw [en4]
    refine g_cV0m hC dX12_makes_113 mX12_90 vX12_lays (kX12_lays hw99.1 (by omega) (by omega) (by first | omega | exact bI_in _)) rfl hw99.1.1.1 (by decide) rfl (Nat.le_of_ble_eq_true rfl) (RR rfl rfl rfl rfl) (fun z V113 e113 => ?_)
    have hw113 := gMw_wr hw99 e113
    refine gB hC _ _ _ _ _ _ _ qX12_makes_116 rfl ?_
    refine g_cV0m hC dX12_makes_123 mX12_90 vX12_lays (kX12_lays hw113.1 (by omega) (by omega) (by first | omega | exact bI_in _)) rfl hw113.1.1.1 (by decide) rfl (Nat.le_of_ble_eq_true rfl) (RR rfl rfl rfl rfl) (fun z V123 e123 => ?_)
    have hw123 := gMw_wr hw113 e123
    refine gB hC _ _ _ _ _ _ _ qX12_makes_126 rfl ?_
    refine g_cV0m hC dX12_makes_133 mX12_90 vX12_lays (kX12_lays hw123.1 (by omega) (by omega) (by first | omega | exact bI_in _)) rfl hw123.1.1.1 (by decide) rfl (Nat.le_of_ble_eq_true rfl) (RR rfl rfl rfl rfl) (fun z V133 e133 => ?_)
    have hw133 := gMw_wr hw123 e133
    refine gB hC _ _ _ _ _ _ _ qX12_makes_136 rfl ?_
    refine g_getr hC dX12_makes_137 fX12_9 hw133.1.1.1 (by decide) rfl 0 rfl hw133.1.2.1.1 ?_
    refine gB hC _ _ _ _ _ _ _ qX12_makes_140 rfl ?_
    refine g_iald hC dX12_makes_142 hw133.1.1.2.1 (gMd_at hw133.1 _) (by omega) (by omega) (by decide) (fun i142 => ?_)
    repeat rw [upN_ne (by omega)]
    rw [en5]
    refine gB hC _ _ _ _ _ _ _ qX12_makes_143 rfl ?_
    refine g_ast hC dX12_makes_145 hw133.1.1.2.1 (by omega) (by omega) (by decide) (by first | omega | exact bI_in _) (fun V145 e145 => ?_)
    have hw145 := gMw_up hw133 e145
    refine gB hC _ _ _ _ _ _ _ qX12_makes_146 rfl ?_
    refine g_ireturn hC dX12_makes_148 hr ⟨rfl, rfl, ?_, by omega⟩ gs_rfl ⟨Nat.le_of_ble_eq_true rfl, Nat.le_of_ble_eq_true rfl⟩
    rw [hw145.2]
    have hnn : n = nights := by omega
    subst hnn
    rw [wrN_wr]; rfl
  · refine gB hC _ _ _ _ _ _ _ qX12_makes_17 rfl ?_
    refine g_cV1i hC dX12_makes_31 mX12_87 vX12_nightPrice (kX12_nightPrice hwn.1 hIn (by omega) (by rw [en1]; omega) (by omega) (by omega)) rfl hwn.1.1.1 (by decide) rfl (Nat.le_of_ble_eq_true rfl) (RR rfl rfl rfl rfl) (fun z i31 => ?_)
    refine g_cV0m hC dX12_makes_34 mX12_90 vX12_lays (kX12_lays hwn.1 (by omega) (by omega) (by first | omega | exact bI_in _)) rfl hwn.1.1.1 (by decide) rfl (Nat.le_of_ble_eq_true rfl) (RR rfl rfl rfl rfl) (fun z V34 e34 => ?_)
    have hw34 := gMw_wr hwn e34
    refine gB hC _ _ _ _ _ _ _ qX12_makes_37 rfl ?_
    rw [hw34.2, enp, mkP_next _ _ _ _ hn0]
    exact ih (n + 1) _ ⟨by omega, by omega⟩ (by omega)

/-- those who wait, from one on: the state behind, how many got a stay -/
def lkS : Nat → gN0 → Int → Int → gN0 × Int
  | 0, N, _, m => (N, m)
  | q + 1, N, a, m => if a < N 7 then
      if N (1496 + a * 5 + 1) < N 0 then lkS q (shG N (1496 + a * 5)) a m
      else if N 5 < 60 ∧ rfd N (N (1496 + a * 5)) (N (1496 + a * 5 + 1)) (N (1496 + a * 5 + 2)) = -1 then
        lkS q (shG (mkN N (N (1496 + a * 5)) (N (1496 + a * 5 + 1)) (N (1496 + a * 5 + 2)) (N (1496 + a * 5 + 3)) (N (1496 + a * 5 + 4)) (N (1496 + a * 5 + 1)) (-1)) (1496 + a * 5)) a (m + 1)
      else lkS q N (a + 1) m
    else (N, m)
def lk (N : gN0) : gN0 × Int := lkS (N 7).toNat N 0 0
/-- some of those behind have moved up -/
def shP (N : gN0) (g k : Int) : gN0 := fun j => if j = 7 then N 7 - 1 else if g ≤ j ∧ j < k then N (j + 5) else N j
theorem shP_0 {N : gN0} {g : Int} : upN N 7 (N 7 - 1) = shP N g g := by
  funext j
  unfold upN shP
  split
  · rfl
  · rw [if_neg (by omega)]
theorem shP_next {N : gN0} {g k : Int} (h0 : 8 ≤ g) (h : g ≤ k) : upN (shP N g k) k (shP N g k (k + 5)) = shP N g (k + 1) := by
  funext j
  unfold upN shP
  by_cases h1 : j = k
  · subst h1
    rw [if_pos rfl, if_neg (by omega), if_neg (by omega), if_neg (by omega), if_pos (by omega)]
  · rw [if_neg h1]
    split
    · rfl
    · by_cases h2 : g ≤ j ∧ j < k
      · rw [if_pos h2, if_pos (by omega)]
      · rw [if_neg h2, if_neg (by omega)]
theorem shP_7 (N : gN0) (g k : Int) : shP N g k 7 = N 7 - 1 := by unfold shP; rw [if_pos rfl]
theorem shP_g {N : gN0} {g k : Int} (h : k = 1496 + (N 7 - 1) * 5) : shP N g k = shG N g := by subst h; rfl

theorem kX12_looks {E l Sh V z} {b : Int} {N : gN0} (hm : gMd b N Sh V) (hI : InvC N) : gM E l yX12_looks (.code yX12_looks cX12_looks 7 (some .int)) (rmk 6 0 0 150) [(2, b)] Sh V z (gRi (lk N).2 Sh (wrN V b (lk N).1)) := by
  refine gM_at (L0 := [(2, b), (9, 0), (9, 0), (9, 0), (9, 0), (9, 0), (9, 0)]) rfl rfl rfl ?_
  intro p e s m args below meth c hC hr hex hnm hz
  have hsc := hI.1
  unfold iScal at hsc
  refine gB hC _ _ _ _ _ _ _ qX12_looks_0 rfl ?_
  have hV0 : V = wrN V b N := wrN_self hm
  rw [hV0]
  refine g_loop (fun x : gN0 × Int × Int × Nat × aV × aV × aV × aV => InvC x.1 ∧ lkS x.2.2.2.1 x.1 x.2.1 x.2.2.1 = lk N ∧ (x.2.2.2.1 : Int) = x.1 7 - x.2.1 ∧ 0 ≤ x.2.1 ∧ 0 ≤ x.2.2.1 ∧ x.2.2.1 + x.2.2.2.1 ≤ 20) (fun x => x.2.2.2.1) 4 (fun x => [(2, b), (0, x.2.2.1), (0, x.2.1), x.2.2.2.2.1, x.2.2.2.2.2.1, x.2.2.2.2.2.2.1, x.2.2.2.2.2.2.2]) (fun x => wrN V b x.1) (N, 0, 0, (N 7).toNat, (9, 0), (9, 0), (9, 0), (9, 0)) ⟨hI, rfl, by show ((N 7).toNat : Int) = N 7 - 0; omega, Int.le_refl _, Int.le_refl _, by show (0 : Int) + ((N 7).toNat : Int) ≤ 20; omega⟩ ?_
  rintro ⟨M, aa, many, q, a3, a4, a5, a6⟩ z ⟨hM, hS, hq, hat, hmn, hmq⟩ ih
  dsimp only at hM hS hq hat hmn hmq ih ⊢
  have hwn : gMw b V M Sh (wrN V b M) := ⟨gMd_w hm rfl, rfl⟩
  have hms := hM.1
  unfold iScal at hms
  refine gB hC _ _ _ _ _ _ _ qX12_looks_4 rfl ?_
  refine g_getr hC dX12_looks_6 fX12_9 hwn.1.1.1 (by decide) rfl 0 rfl hwn.1.2.1.1 ?_
  refine gB hC _ _ _ _ _ _ _ qX12_looks_9 rfl ?_
  refine g_iald hC dX12_looks_11 hwn.1.1.2.1 (gMd_at hwn.1 _) (by omega) (by omega) (by decide) (fun i11 => ?_)
  refine g_icmp_ge hC 234 dX12_looks_12 rfl (by first | omega | exact bI_in _) (by first | omega | exact bI_in _) (fun c12 => ?_) (fun c12 => ?_)
  · refine gB hC _ _ _ _ _ _ _ qX12_looks_234 rfl ?_
    refine g_ireturn hC dX12_looks_235 hr ⟨?_, rfl, ?_, ?_⟩ gs_rfl ⟨Nat.le_of_ble_eq_true rfl, Nat.le_of_ble_eq_true rfl⟩
    · have hqq : q = 0 := by omega
      subst hqq
      rw [← hS]; rfl
    · have hqq : q = 0 := by omega
      subst hqq
      rw [wrN_wr, ← hS]; rfl
    · have hqq : q = 0 := by omega
      subst hqq
      rw [← hS]
      show inI many
      omega
  · have hlt : aa < M 7 := by omega
    have hg := hM.2.2.2.2 aa hat hlt
    unfold gOk gF at hg
    simp only [Int.add_zero] at hg
    obtain ⟨q2, rfl⟩ : ∃ q2, q = q2 + 1 := ⟨q - 1, by omega⟩
    rw [lkS, if_pos hlt] at hS
    refine gB hC _ _ _ _ _ _ _ qX12_looks_15 rfl ?_
    refine g_getr hC dX12_looks_24 fX12_9 hwn.1.1.1 (by decide) rfl 0 rfl hwn.1.2.1.1 ?_
    refine gB hC _ _ _ _ _ _ _ qX12_looks_27 rfl ?_
    refine g_iald hC dX12_looks_30 hwn.1.1.2.1 (gMd_at hwn.1 _) (by omega) (by omega) (by decide) (fun i30 => ?_)
    refine gB hC _ _ _ _ _ _ _ qX12_looks_31 rfl ?_
    refine g_getr hC dX12_looks_32 fX12_9 hwn.1.1.1 (by decide) rfl 0 rfl hwn.1.2.1.1 ?_
    refine gB hC _ _ _ _ _ _ _ qX12_looks_35 rfl ?_
    refine g_iald hC dX12_looks_36 hwn.1.1.2.1 (gMd_at hwn.1 _) (by omega) (by omega) (by decide) (fun i36 => ?_)
    refine g_icmp_ge hC 44 dX12_looks_37 rfl (by first | omega | exact bI_in _) (by first | omega | exact bI_in _) (fun c37 => ?_) (fun c37 => ?_)
    · refine gB hC _ _ _ _ _ _ _ qX12_looks_44 rfl ?_
      refine gB hC _ _ _ _ _ _ _ qX12_looks_45 rfl ?_
      refine g_if_ne hC 97 dX12_looks_49 rfl (by first | omega | exact bI_in _) (fun c49 => ?_) (fun c49 => ?_)
      · exact absurd c49 (by decide)
      · refine gB hC _ _ _ _ _ _ _ qX12_looks_52 rfl ?_
        refine g_getr hC dX12_looks_53 fX12_9 hwn.1.1.1 (by decide) rfl 0 rfl hwn.1.2.1.1 ?_
        refine gB hC _ _ _ _ _ _ _ qX12_looks_56 rfl ?_
        refine g_iald hC dX12_looks_57 hwn.1.1.2.1 (gMd_at hwn.1 _) (by omega) (by omega) (by decide) (fun i57 => ?_)
        refine gB hC _ _ _ _ _ _ _ qX12_looks_58 rfl ?_
        refine g_icmp_ge hC 97 dX12_looks_60 rfl (by first | omega | exact bI_in _) (by first | omega | exact bI_in _) (fun c60 => ?_) (fun c60 => ?_)
        · refine gB hC _ _ _ _ _ _ _ qX12_looks_97 rfl ?_
          refine gB hC _ _ _ _ _ _ _ qX12_looks_98 rfl ?_
          refine g_if_eq hC 161 dX12_looks_102 rfl (by first | omega | exact bI_in _) (fun c102 => ?_) (fun c102 => ?_)
          · refine gB hC _ _ _ _ _ _ _ qX12_looks_161 rfl ?_
            refine g_if_ne hC 177 dX12_looks_163 rfl (by first | omega | exact bI_in _) (fun c163 => ?_) (fun c163 => ?_)
            · exact absurd c163 (by decide)
            · refine gB hC _ _ _ _ _ _ _ qX12_looks_166 rfl ?_
              refine g_if_ne hC 177 dX12_looks_168 rfl (by first | omega | exact bI_in _) (fun c168 => ?_) (fun c168 => ?_)
              · exact absurd c168 (by decide)
              · refine gB hC _ _ _ _ _ _ _ qX12_looks_171 rfl ?_
                rw [if_neg (by omega), if_neg (by omega)] at hS
                exact ih (M, aa + 1, many, q2, _, _, _, _) _ ⟨hM, hS, by show (q2 : Int) = M 7 - (aa + 1); omega, by show 0 ≤ aa + 1; omega, hmn, by show many + (q2 : Int) ≤ 20; omega⟩ (Nat.lt_succ_self _)
          · exact absurd c102 (by decide)
        · refine gB hC _ _ _ _ _ _ _ qX12_looks_63 rfl ?_
          refine g_getr hC dX12_looks_65 fX12_9 hwn.1.1.1 (by decide) rfl 0 rfl hwn.1.2.1.1 ?_
          refine gB hC _ _ _ _ _ _ _ qX12_looks_68 rfl ?_
          refine g_iald hC dX12_looks_69 hwn.1.1.2.1 (gMd_at hwn.1 _) (by omega) (by omega) (by decide) (fun i69 => ?_)
          refine gB hC _ _ _ _ _ _ _ qX12_looks_70 rfl ?_
          refine g_getr hC dX12_looks_71 fX12_9 hwn.1.1.1 (by decide) rfl 0 rfl hwn.1.2.1.1 ?_
          refine gB hC _ _ _ _ _ _ _ qX12_looks_74 rfl ?_
          refine g_iald hC dX12_looks_77 hwn.1.1.2.1 (gMd_at hwn.1 _) (by omega) (by omega) (by decide) (fun i77 => ?_)
          refine gB hC _ _ _ _ _ _ _ qX12_looks_78 rfl ?_
          refine g_getr hC dX12_looks_79 fX12_9 hwn.1.1.1 (by decide) rfl 0 rfl hwn.1.2.1.1 ?_
          refine gB hC _ _ _ _ _ _ _ qX12_looks_82 rfl ?_
          refine g_iald hC dX12_looks_85 hwn.1.1.2.1 (gMd_at hwn.1 _) (by omega) (by omega) (by decide) (fun i85 => ?_)
          refine g_cV1i hC dX12_looks_86 mX12_94 vX12_refused (kX12_refused hwn.1 hM (by omega) (by omega) (by omega) (by omega) (by omega)) rfl hwn.1.1.1 (by decide) rfl (Nat.le_of_ble_eq_true rfl) (RR rfl rfl rfl rfl) (fun z i86 => ?_)
          refine gB hC _ _ _ _ _ _ _ qX12_looks_89 rfl ?_
          refine g_icmp_ne hC 97 dX12_looks_90 rfl (by first | omega | exact bI_in _) (by first | omega | exact bI_in _) (fun c90 => ?_) (fun c90 => ?_)
          · refine gB hC _ _ _ _ _ _ _ qX12_looks_97 rfl ?_
            refine gB hC _ _ _ _ _ _ _ qX12_looks_98 rfl ?_
            refine g_if_eq hC 161 dX12_looks_102 rfl (by first | omega | exact bI_in _) (fun c102 => ?_) (fun c102 => ?_)
            · refine gB hC _ _ _ _ _ _ _ qX12_looks_161 rfl ?_
              refine g_if_ne hC 177 dX12_looks_163 rfl (by first | omega | exact bI_in _) (fun c163 => ?_) (fun c163 => ?_)
              · exact absurd c163 (by decide)
              · refine gB hC _ _ _ _ _ _ _ qX12_looks_166 rfl ?_
                refine g_if_ne hC 177 dX12_looks_168 rfl (by first | omega | exact bI_in _) (fun c168 => ?_) (fun c168 => ?_)
                · exact absurd c168 (by decide)
                · refine gB hC _ _ _ _ _ _ _ qX12_looks_171 rfl ?_
                  rw [if_neg (by omega), if_neg (by omega)] at hS
                  exact ih (M, aa + 1, many, q2, _, _, _, _) _ ⟨hM, hS, by show (q2 : Int) = M 7 - (aa + 1); omega, by show 0 ≤ aa + 1; omega, hmn, by show many + (q2 : Int) ≤ 20; omega⟩ (Nat.lt_succ_self _)
            · exact absurd c102 (by decide)
          · refine gB hC _ _ _ _ _ _ _ qX12_looks_93 rfl ?_
            refine gB hC _ _ _ _ _ _ _ qX12_looks_98 rfl ?_
            refine g_if_eq hC 161 dX12_looks_102 rfl (by first | omega | exact bI_in _) (fun c102 => ?_) (fun c102 => ?_)
            · exact absurd c102 (by decide)
            · rw [if_neg (by omega), if_pos (by omega)] at hS
              have hO : mkOk M (M (1496 + aa * 5)) (M (1496 + aa * 5 + 1)) (M (1496 + aa * 5 + 2)) (M (1496 + aa * 5 + 3)) (M (1496 + aa * 5 + 4)) (M (1496 + aa * 5 + 1)) (-1) := by unfold mkOk; omega
              have hH := rfd_had (N := M) (k := M (1496 + aa * 5)) (first := M (1496 + aa * 5 + 1)) (nights := M (1496 + aa * 5 + 2)) (by omega) (by omega) (by omega)
              refine gB hC _ _ _ _ _ _ _ qX12_looks_105 rfl ?_
              refine g_getr hC dX12_looks_107 fX12_9 hwn.1.1.1 (by decide) rfl 0 rfl hwn.1.2.1.1 ?_
              refine gB hC _ _ _ _ _ _ _ qX12_looks_110 rfl ?_
              refine g_iald hC dX12_looks_111 hwn.1.1.2.1 (gMd_at hwn.1 _) (by omega) (by omega) (by decide) (fun i111 => ?_)
              refine gB hC _ _ _ _ _ _ _ qX12_looks_112 rfl ?_
              refine g_getr hC dX12_looks_113 fX12_9 hwn.1.1.1 (by decide) rfl 0 rfl hwn.1.2.1.1 ?_
              refine gB hC _ _ _ _ _ _ _ qX12_looks_116 rfl ?_
              refine g_iald hC dX12_looks_119 hwn.1.1.2.1 (gMd_at hwn.1 _) (by omega) (by omega) (by decide) (fun i119 => ?_)
              refine gB hC _ _ _ _ _ _ _ qX12_looks_120 rfl ?_
              refine g_getr hC dX12_looks_121 fX12_9 hwn.1.1.1 (by decide) rfl 0 rfl hwn.1.2.1.1 ?_
              refine gB hC _ _ _ _ _ _ _ qX12_looks_124 rfl ?_
              refine g_iald hC dX12_looks_127 hwn.1.1.2.1 (gMd_at hwn.1 _) (by omega) (by omega) (by decide) (fun i127 => ?_)
              refine gB hC _ _ _ _ _ _ _ qX12_looks_128 rfl ?_
              refine g_getr hC dX12_looks_129 fX12_9 hwn.1.1.1 (by decide) rfl 0 rfl hwn.1.2.1.1 ?_
              refine gB hC _ _ _ _ _ _ _ qX12_looks_132 rfl ?_
              refine g_iald hC dX12_looks_135 hwn.1.1.2.1 (gMd_at hwn.1 _) (by omega) (by omega) (by decide) (fun i135 => ?_)
              refine gB hC _ _ _ _ _ _ _ qX12_looks_136 rfl ?_
              refine g_getr hC dX12_looks_137 fX12_9 hwn.1.1.1 (by decide) rfl 0 rfl hwn.1.2.1.1 ?_
              refine gB hC _ _ _ _ _ _ _ qX12_looks_140 rfl ?_
              refine g_iald hC dX12_looks_143 hwn.1.1.2.1 (gMd_at hwn.1 _) (by omega) (by omega) (by decide) (fun i143 => ?_)
              refine gB hC _ _ _ _ _ _ _ qX12_looks_144 rfl ?_
              refine g_getr hC dX12_looks_145 fX12_9 hwn.1.1.1 (by decide) rfl 0 rfl hwn.1.2.1.1 ?_
              refine gB hC _ _ _ _ _ _ _ qX12_looks_148 rfl ?_
              refine g_iald hC dX12_looks_151 hwn.1.1.2.1 (gMd_at hwn.1 _) (by omega) (by omega) (by decide) (fun i151 => ?_)
              refine gB hC _ _ _ _ _ _ _ qX12_looks_152 rfl ?_
              refine g_cV1im hC dX12_looks_153 mX12_97 vX12_makes (kX12_makes hwn.1 hM hO) rfl hwn.1.1.1 (by decide) rfl (Nat.le_of_ble_eq_true rfl) (RR rfl rfl rfl rfl) (fun z V153 e153 i153 => ?_)
              have hw153 := gMw_wr hwn e153
              have hM2 := InvC_mk hM hO hH.1
              have e27 : mkN M (M (1496 + aa * 5)) (M (1496 + aa * 5 + 1)) (M (1496 + aa * 5 + 2)) (M (1496 + aa * 5 + 3)) (M (1496 + aa * 5 + 4)) (M (1496 + aa * 5 + 1)) (-1) 7 = M 7 := mkN_old (by omega) (by omega) (by omega) (by decide) (Or.inl (by omega))
              generalize mkN M (M (1496 + aa * 5)) (M (1496 + aa * 5 + 1)) (M (1496 + aa * 5 + 2)) (M (1496 + aa * 5 + 3)) (M (1496 + aa * 5 + 4)) (M (1496 + aa * 5 + 1)) (-1) = M2 at hw153 hM2 e27 hS
              refine gB hC _ _ _ _ _ _ _ qX12_looks_156 rfl ?_
              refine gB hC _ _ _ _ _ _ _ qX12_looks_161 rfl ?_
              refine g_if_ne hC 177 dX12_looks_163 rfl (by first | omega | exact bI_in _) (fun c163 => ?_) (fun c163 => ?_)
              · exact absurd c163 (by decide)
              · refine gB hC _ _ _ _ _ _ _ qX12_looks_166 rfl ?_
                refine g_if_ne hC 177 dX12_looks_168 rfl (by first | omega | exact bI_in _) (fun c168 => ?_) (fun c168 => ?_)
                · 
                  refine gB hC _ _ _ _ _ _ _ qX12_looks_177 rfl ?_
                  refine g_getr hC dX12_looks_178 fX12_9 hw153.1.1.1 (by decide) rfl 0 rfl hw153.1.2.1.1 ?_
                  refine gB hC _ _ _ _ _ _ _ qX12_looks_181 rfl ?_
                  refine g_iald hC dX12_looks_184 hw153.1.1.2.1 (gMd_at hw153.1 _) (by omega) (by omega) (by decide) (fun i184 => ?_)
                  refine gB hC _ _ _ _ _ _ _ qX12_looks_185 rfl ?_
                  refine g_ast hC dX12_looks_187 hw153.1.1.2.1 (by omega) (by omega) (by decide) (by first | omega | exact bI_in _) (fun V187 e187 => ?_)
                  have hw187 := gMw_up hw153 e187
                  refine gB hC _ _ _ _ _ _ _ qX12_looks_188 rfl ?_
                  rw [hw187.2, shP_0 (g := 1496 + aa * 5)]
                  refine g_loop (fun x : Int => 1496 + aa * 5 ≤ x ∧ x ≤ 1496 + (M2 7 - 1) * 5) (fun x => (1496 + (M2 7 - 1) * 5 - x).toNat) 191 (fun x => [(2, b), (0, (many + 1)), (0, aa), (0, 1496 + aa * 5), _, _, (0, x)]) (fun x => wrN V b (shP M2 (1496 + aa * 5) x)) (1496 + aa * 5) ⟨by omega, by omega⟩ ?_
                  rintro kk z ⟨hk0, hk1⟩ ih2
                  have hwk : gMw b V (shP M2 (1496 + aa * 5) kk) Sh (wrN V b (shP M2 (1496 + aa * 5) kk)) := ⟨gMd_w hm rfl, rfl⟩
                  have hs7 := shP_7 M2 (1496 + aa * 5) kk
                  refine gB hC _ _ _ _ _ _ _ qX12_looks_191 rfl ?_
                  refine g_getr hC dX12_looks_197 fX12_9 hwk.1.1.1 (by decide) rfl 0 rfl hwk.1.2.1.1 ?_
                  refine gB hC _ _ _ _ _ _ _ qX12_looks_200 rfl ?_
                  refine g_iald hC dX12_looks_202 hwk.1.1.2.1 (gMd_at hwk.1 _) (by omega) (by omega) (by decide) (fun i202 => ?_)
                  refine gB hC _ _ _ _ _ _ _ qX12_looks_203 rfl ?_
                  refine g_icmp_ge hC 231 dX12_looks_206 rfl (by first | omega | exact bI_in _) (by first | omega | exact bI_in _) (fun c206 => ?_) (fun c206 => ?_)
                  · refine gB hC _ _ _ _ _ _ _ qX12_looks_231 rfl ?_
                    have hkk : kk = 1496 + (M2 7 - 1) * 5 := by omega
                    rw [shP_g hkk]
                    exact ih (shG M2 (1496 + aa * 5), aa, (many + 1), q2, _, _, _, _) _ ⟨InvC_sh hM2 hat (by omega), hS, by show (q2 : Int) = shG M2 (1496 + aa * 5) 7 - aa; unfold shG; rw [if_pos rfl]; omega, hat, by show 0 ≤ (many + 1); omega, by show (many + 1) + (q2 : Int) ≤ 20; omega⟩ (Nat.lt_succ_self _)
                  · refine gB hC _ _ _ _ _ _ _ qX12_looks_209 rfl ?_
                    refine g_getr hC dX12_looks_210 fX12_9 hwk.1.1.1 (by decide) rfl 0 rfl hwk.1.2.1.1 ?_
                    refine gB hC _ _ _ _ _ _ _ qX12_looks_213 rfl ?_
                    refine g_getr hC dX12_looks_216 fX12_9 hwk.1.1.1 (by decide) rfl 0 rfl hwk.1.2.1.1 ?_
                    refine gB hC _ _ _ _ _ _ _ qX12_looks_219 rfl ?_
                    refine g_iald hC dX12_looks_223 hwk.1.1.2.1 (gMd_at hwk.1 _) (by omega) (by omega) (by decide) (fun i223 => ?_)
                    refine g_ast hC dX12_looks_224 hwk.1.1.2.1 (by omega) (by omega) (by decide) (by first | omega | exact bI_in _) (fun V224 e224 => ?_)
                    have hw224 := gMw_up hwk e224
                    refine gB hC _ _ _ _ _ _ _ qX12_looks_225 rfl ?_
                    rw [hw224.2, shP_next (by omega) hk0]
                    exact ih2 (kk + 1) _ ⟨by omega, by omega⟩ (by omega)
                · exact absurd c168 (by decide)
    · refine gB hC _ _ _ _ _ _ _ qX12_looks_40 rfl ?_
      refine gB hC _ _ _ _ _ _ _ qX12_looks_45 rfl ?_
      refine g_if_ne hC 97 dX12_looks_49 rfl (by first | omega | exact bI_in _) (fun c49 => ?_) (fun c49 => ?_)
      · refine gB hC _ _ _ _ _ _ _ qX12_looks_97 rfl ?_
        refine gB hC _ _ _ _ _ _ _ qX12_looks_98 rfl ?_
        refine g_if_eq hC 161 dX12_looks_102 rfl (by first | omega | exact bI_in _) (fun c102 => ?_) (fun c102 => ?_)
        · refine gB hC _ _ _ _ _ _ _ qX12_looks_161 rfl ?_
          refine g_if_ne hC 177 dX12_looks_163 rfl (by first | omega | exact bI_in _) (fun c163 => ?_) (fun c163 => ?_)
          · rw [if_pos (by omega)] at hS
            refine gB hC _ _ _ _ _ _ _ qX12_looks_177 rfl ?_
            refine g_getr hC dX12_looks_178 fX12_9 hwn.1.1.1 (by decide) rfl 0 rfl hwn.1.2.1.1 ?_
            refine gB hC _ _ _ _ _ _ _ qX12_looks_181 rfl ?_
            refine g_iald hC dX12_looks_184 hwn.1.1.2.1 (gMd_at hwn.1 _) (by omega) (by omega) (by decide) (fun i184 => ?_)
            refine gB hC _ _ _ _ _ _ _ qX12_looks_185 rfl ?_
            refine g_ast hC dX12_looks_187 hwn.1.1.2.1 (by omega) (by omega) (by decide) (by first | omega | exact bI_in _) (fun V187 e187 => ?_)
            have hw187 := gMw_up hwn e187
            refine gB hC _ _ _ _ _ _ _ qX12_looks_188 rfl ?_
            rw [hw187.2, shP_0 (g := 1496 + aa * 5)]
            refine g_loop (fun x : Int => 1496 + aa * 5 ≤ x ∧ x ≤ 1496 + (M 7 - 1) * 5) (fun x => (1496 + (M 7 - 1) * 5 - x).toNat) 191 (fun x => [(2, b), (0, many), (0, aa), (0, 1496 + aa * 5), _, _, (0, x)]) (fun x => wrN V b (shP M (1496 + aa * 5) x)) (1496 + aa * 5) ⟨by omega, by omega⟩ ?_
            rintro kk z ⟨hk0, hk1⟩ ih2
            have hwk : gMw b V (shP M (1496 + aa * 5) kk) Sh (wrN V b (shP M (1496 + aa * 5) kk)) := ⟨gMd_w hm rfl, rfl⟩
            have hs7 := shP_7 M (1496 + aa * 5) kk
            refine gB hC _ _ _ _ _ _ _ qX12_looks_191 rfl ?_
            refine g_getr hC dX12_looks_197 fX12_9 hwk.1.1.1 (by decide) rfl 0 rfl hwk.1.2.1.1 ?_
            refine gB hC _ _ _ _ _ _ _ qX12_looks_200 rfl ?_
            refine g_iald hC dX12_looks_202 hwk.1.1.2.1 (gMd_at hwk.1 _) (by omega) (by omega) (by decide) (fun i202 => ?_)
            refine gB hC _ _ _ _ _ _ _ qX12_looks_203 rfl ?_
            refine g_icmp_ge hC 231 dX12_looks_206 rfl (by first | omega | exact bI_in _) (by first | omega | exact bI_in _) (fun c206 => ?_) (fun c206 => ?_)
            · refine gB hC _ _ _ _ _ _ _ qX12_looks_231 rfl ?_
              have hkk : kk = 1496 + (M 7 - 1) * 5 := by omega
              rw [shP_g hkk]
              exact ih (shG M (1496 + aa * 5), aa, many, q2, _, _, _, _) _ ⟨InvC_sh hM hat (by omega), hS, by show (q2 : Int) = shG M (1496 + aa * 5) 7 - aa; unfold shG; rw [if_pos rfl]; omega, hat, by show 0 ≤ many; omega, by show many + (q2 : Int) ≤ 20; omega⟩ (Nat.lt_succ_self _)
            · refine gB hC _ _ _ _ _ _ _ qX12_looks_209 rfl ?_
              refine g_getr hC dX12_looks_210 fX12_9 hwk.1.1.1 (by decide) rfl 0 rfl hwk.1.2.1.1 ?_
              refine gB hC _ _ _ _ _ _ _ qX12_looks_213 rfl ?_
              refine g_getr hC dX12_looks_216 fX12_9 hwk.1.1.1 (by decide) rfl 0 rfl hwk.1.2.1.1 ?_
              refine gB hC _ _ _ _ _ _ _ qX12_looks_219 rfl ?_
              refine g_iald hC dX12_looks_223 hwk.1.1.2.1 (gMd_at hwk.1 _) (by omega) (by omega) (by decide) (fun i223 => ?_)
              refine g_ast hC dX12_looks_224 hwk.1.1.2.1 (by omega) (by omega) (by decide) (by first | omega | exact bI_in _) (fun V224 e224 => ?_)
              have hw224 := gMw_up hwk e224
              refine gB hC _ _ _ _ _ _ _ qX12_looks_225 rfl ?_
              rw [hw224.2, shP_next (by omega) hk0]
              exact ih2 (kk + 1) _ ⟨by omega, by omega⟩ (by omega)
          · exact absurd c163 (by decide)
        · exact absurd c102 (by decide)
      · exact absurd c49 (by decide)
