/-! the law: more sold than rooms (rows laid by wip/p47/l25.py) -/
def gOne : gPo := fun o _ _ _ => o = .inl (some (0, 1))
theorem sh_al {r m : Nat} (h : (r = 1 ∨ r = 3) ∧ m ≤ 2) : Int32.ofInt 1 <<< (Int32.ofInt ((r : Int) + ((m : Int) + 1)) &&& 31) = Int32.ofInt ((2 ^ (r + (m + 1)) : Nat) : Int) ∧ 2 ^ (r + (m + 1)) ≤ 64 ∧ (0 ≤ pwZ 100 (r + (m + 1)) ∧ pwZ 100 (r + (m + 1)) ≤ 1000000000000) := by
  rcases (by omega : (r = 1 ∧ m = 0) ∨ (r = 1 ∧ m = 1) ∨ (r = 1 ∧ m = 2) ∨ (r = 3 ∧ m = 0) ∨ (r = 3 ∧ m = 1) ∨ (r = 3 ∧ m = 2)) with ⟨h1, h2⟩ | ⟨h1, h2⟩ | ⟨h1, h2⟩ | ⟨h1, h2⟩ | ⟨h1, h2⟩ | ⟨h1, h2⟩ <;> subst h1 <;> subst h2 <;> exact ⟨by decide, by decide, by decide, by decide⟩
theorem moT_st {a q : Int} {r m : Nat} (h : (r = 1 ∨ r = 3) ∧ m ≤ 2) (ha : 0 ≤ a ∧ a ≤ 100) : moT (10 * a) q r (m + 1) = if sBT a (100 - a) (r + (m + 1)) r (2 ^ (r + (m + 1))) * 1000 ≤ q * pwZ 100 (r + (m + 1)) then (m : Int) + 1 else moT (10 * a) q r m := by
  have hr := (risk_eq (a := a) (q := q) (r := r) (m := m + 1) (by omega) ha).1
  rw [moT, show ((r : Int) + ((m : Int) + 1)).toNat = r + (m + 1) by omega, show ((r : Int) + ((m : Int) + 1) - r).toNat = m + 1 by omega, show ((r : Int) + ((m : Int) + 1) - 1).toNat = r + (m + 1) - 1 by omega]
  by_cases hc : smT (10 * a) (r + (m + 1)) r (m + 1) ≤ q * pw (r + (m + 1) - 1)
  · rw [if_pos hc, if_pos (hr.mp hc)]
  · rw [if_neg hc, if_neg (fun g => hc (hr.mpr g))]

theorem kL_areSold {E l Sh V z} {q w : Int} {N K : gN0} {P9 : Int → gN0} {c9 : Int} (hx : XR (q + 2) K P9 c9 Sh V) (hL : LB q w N Sh V) (hIN : INV N) (hIK : INV K) (hK : ∀ j, j < 13 ∨ 30 < j → K j = N j) (h1 : N 1 = 2) (h30 : kF N 0 0 = 3) (h31 : kF N 1 0 = 1) : gM E l yL_areSold (.code yL_areSold cL_areSold 15 (some .boolean)) (rmk 16 100 1000 560) [(2, q)] Sh V z (gOne) := by
  refine gM_at (L0 := [(2, q), (9, 0), (9, 0), (9, 0), (9, 0), (9, 0), (9, 0), (9, 0), (9, 0), (9, 0), (9, 0), (9, 0), (9, 0), (9, 0), (9, 0)]) rfl rfl rfl ?_
  intro p e s m args below meth c hC hr hex hnm hz
  have hqw := hL.a0
  have hI := hIN.1
  have hK1 : K 1 = N 1 := hK 1 (by decide)
  have hsc := hI.1
  unfold iScal at hsc
  refine gB hC _ _ _ _ _ _ _ qL_areSold_0 rfl ?_
  refine g_getr hC dL_areSold_1 fL_52 hL.sL (by decide) rfl 1 rfl hL.p1 ?_
  refine gB hC _ _ _ _ _ _ _ qL_areSold_4 rfl ?_
  refine g_dice hC dL_areSold_5 mL_147 vX12_next (kX12_next hL.sD (by omega) (by omega)) rfl hL.sD (by decide) rfl (Nat.le_of_ble_eq_true rfl) (RR rfl rfl rfl rfl) (fun zd5 y5 s5 V5 l5 u5 e5 => ?_)
  have hL5 := LB_dc (by omega) hL e5
  have hx5 := XR_dc (w := w) hx hIK e5
  refine gB hC _ _ _ _ _ _ _ qL_areSold_8 rfl ?_
  refine g_getr hC dL_areSold_12 fL_52 hL5.sL (by decide) rfl 1 rfl hL5.p1 ?_
  refine gB hC _ _ _ _ _ _ _ qL_areSold_15 rfl ?_
  refine g_dice hC dL_areSold_17 mL_147 vX12_next (kX12_next hL5.sD (by omega) (by omega)) rfl hL5.sD (by decide) rfl (Nat.le_of_ble_eq_true rfl) (RR rfl rfl rfl rfl) (fun zd17 y17 s17 V17 l17 u17 e17 => ?_)
  have hL17 := LB_dc (by omega) hL5 e17
  have hx17 := XR_dc (w := w) hx5 hIK e17
  refine gB hC _ _ _ _ _ _ _ qL_areSold_20 rfl ?_
  refine g_getr hC dL_areSold_23 fL_52 hL17.sL (by decide) rfl 1 rfl hL17.p1 ?_
  refine gB hC _ _ _ _ _ _ _ qL_areSold_26 rfl ?_
  refine g_dice hC dL_areSold_29 mL_147 vX12_next (kX12_next hL17.sD (by omega) (by omega)) rfl hL17.sD (by decide) rfl (Nat.le_of_ble_eq_true rfl) (RR rfl rfl rfl rfl) (fun zd29 y29 s29 V29 l29 u29 e29 => ?_)
  have hL29 := LB_dc (by omega) hL17 e29
  have hx29 := XR_dc (w := w) hx17 hIK e29
  refine gB hC _ _ _ _ _ _ _ qL_areSold_32 rfl ?_
  obtain ⟨r, hr9, hr13⟩ : ∃ r : Nat, kF N y5 0 = (r : Int) ∧ (r = 1 ∨ r = 3) := by
    rcases (by omega : y5 = 0 ∨ y5 = 1) with h | h
    · exact ⟨3, by rw [h]; omega, Or.inr rfl⟩
    · exact ⟨1, by rw [h]; omega, Or.inl rfl⟩
  refine g_loop (fun x : Nat × aV × aV × aV × aV × aV × aV => x.1 ≤ 3) (fun x => 3 - x.1) 39 (fun x => [(2, q), (0, y5), (0, 10 * y17), (0, y29), (0, moT (10 * y17) y29 r x.1), (0, (x.1 : Int) + 1), x.2.1, x.2.2.1, (9, 0), x.2.2.2.1, (9, 0), x.2.2.2.2.1, x.2.2.2.2.2.1, (9, 0), x.2.2.2.2.2.2]) (fun _ => V29) (0, (9, 0), (9, 0), (9, 0), (9, 0), (9, 0), (9, 0)) (by show (0 : Nat) ≤ 3; decide) ?_
  rintro ⟨m, a6, a7, a9, a11, a12, a14⟩ z hm ih39
  dsimp only at hm ih39 ⊢
  refine gB hC _ _ _ _ _ _ _ qL_areSold_39 rfl ?_
  refine g_icmp_gt hC 209 dL_areSold_42 rfl (by first | omega | exact cmpZ_in _ _ | exact bI_in _ | exact i32_in _) (by first | omega | exact cmpZ_in _ _ | exact bI_in _ | exact i32_in _) (fun c42 => ?_) (fun c42 => ?_)
  · obtain rfl : m = 3 := by omega
    have hmt := moT_in (10 * y17) y29 (r : Int) 3
    refine gB hC _ _ _ _ _ _ _ qL_areSold_209 rfl ?_
    refine g_getr hC dL_areSold_210 fL_10 hL29.sL (by decide) rfl 0 rfl hL29.p0 ?_
    refine gB hC _ _ _ _ _ _ _ qL_areSold_213 rfl ?_
    refine g_cV1e hC dL_areSold_216 mL_291 vX11_moreToSell (gM_k0 (kX11_moreToSell hx29 hIK (by omega) (by omega) (by omega)) (fk2 (by omega) (by omega))) rfl hL29.sX (by decide) rfl (Nat.le_of_ble_eq_true rfl) (RR rfl rfl rfl rfl) (fun z V216 e216 => ?_)
    rw [show kF K y5 0 = (r : Int) from (hK _ (by omega)).trans hr9]
    refine gB hC _ _ _ _ _ _ _ qL_areSold_219 rfl ?_
    refine g_icmp_ne hC 228 dL_areSold_221 rfl (by first | omega | exact cmpZ_in _ _ | exact bI_in _ | exact i32_in _) (by first | omega | exact cmpZ_in _ _ | exact bI_in _ | exact i32_in _) (fun c221 => ?_) (fun c221 => ?_)
    · exact absurd rfl c221 --stop
    · refine gB hC _ _ _ _ _ _ _ qL_areSold_224 rfl ?_
      refine g_zreturn hC dL_areSold_229 hr ?_ rfl gs_rfl ⟨Nat.le_of_ble_eq_true rfl, Nat.le_of_ble_eq_true rfl⟩
      exact Or.inr rfl
  · refine gB hC _ _ _ _ _ _ _ qL_areSold_45 rfl ?_
    refine g_getr hC dL_areSold_46 fL_23 hL29.sL (by decide) rfl 5 rfl hL29.p5 ?_
    refine gB hC _ _ _ _ _ _ _ qL_areSold_49 rfl ?_
    refine g_iald hC dL_areSold_50 hL29.srm ((hL29.k0 (by omega) (by omega)).trans hr9) (by omega) (by omega) (by decide) (fun i50 => ?_)
    refine gB hC _ _ _ _ _ _ _ qL_areSold_51 rfl ?_
    have hsh := sh_al (r := r) (m := m) (by omega)
    have hpr : 0 ≤ y29 * pwZ 100 (r + (m + 1)) ∧ y29 * pwZ 100 (r + (m + 1)) ≤ 1000 * 1000000000000 := mul_in (by omega) (by omega) (by omega) (by omega)
    have hrk := risk_eq (a := y17) (q := y29) (r := r) (m := m + 1) (by omega) (by omega)
    refine g_loop (fun x : Nat => x ≤ r + (m + 1)) (fun x => r + (m + 1) - x) 65 (fun x => [(2, q), (0, y5), (0, 10 * y17), (0, y29), (0, moT (10 * y17) y29 r m), (0, (m : Int) + 1), (0, ((r : Int) + ((m : Int) + 1))), (1, 0), (9, 0), (1, pwZ 100 x), (9, 0), (0, (x : Int)), a12, (9, 0), a14]) (fun _ => V29) 0 (Nat.zero_le _) ?_
    intro i z hi ih65
    refine gB hC _ _ _ _ _ _ _ qL_areSold_65 rfl ?_
    refine g_icmp_ge hC 86 dL_areSold_69 rfl (by first | omega | exact cmpZ_in _ _ | exact bI_in _ | exact i32_in _) (by first | omega | exact cmpZ_in _ _ | exact bI_in _ | exact i32_in _) (fun c69 => ?_) (fun c69 => ?_)
    · refine gB hC _ _ _ _ _ _ _ qL_areSold_86 rfl ?_
      obtain rfl : i = r + (m + 1) := by omega
      refine g_loop (fun x : Nat × aV × aV => x.1 ≤ 2 ^ (r + (m + 1))) (fun x => 2 ^ (r + (m + 1)) - x.1) 89 (fun x => [(2, q), (0, y5), (0, 10 * y17), (0, y29), (0, moT (10 * y17) y29 r m), (0, (m : Int) + 1), (0, ((r : Int) + ((m : Int) + 1))), (1, sBT y17 (100 - y17) (r + (m + 1)) r x.1), (9, 0), (1, pwZ 100 (r + (m + 1))), (9, 0), (0, (x.1 : Int)), x.2.1, (9, 0), x.2.2]) (fun _ => V29) (0, a12, a14) (Nat.zero_le _) ?_
      rintro ⟨M, b12, b14⟩ z hM ih89
      dsimp only at hM ih89 ⊢
      have hbc : inI (bcF (M : Int)) := by unfold bcF andF; exact i32_in _
      refine gB hC _ _ _ _ _ _ _ qL_areSold_89 rfl ?_
      refine g_ishl hC dL_areSold_94 hsh.1 ?_
      refine g_icmp_ge hC 179 dL_areSold_95 rfl (by first | omega | exact cmpZ_in _ _ | exact bI_in _ | exact i32_in _) (by first | omega | exact cmpZ_in _ _ | exact bI_in _ | exact i32_in _) (fun c95 => ?_) (fun c95 => ?_)
      · obtain rfl : M = 2 ^ (r + (m + 1)) := by omega
        refine gB hC _ _ _ _ _ _ _ qL_areSold_179 rfl ?_
        refine g_ldc2 hC 1000 kL_279 rfl dL_areSold_181 ?_
        refine gB hC _ _ _ _ _ _ _ qL_areSold_184 rfl ?_
        refine g_i2l hC dL_areSold_186 (by first | omega | exact cmpZ_in _ _ | exact bI_in _ | exact i32_in _) ?_
        refine gB hC _ _ _ _ _ _ _ qL_areSold_187 rfl ?_
        refine g_lcmp hC dL_areSold_190 (by first | omega | exact cmpZ_in _ _ | exact bI_in _ | exact i32_in _) (by first | omega | exact cmpZ_in _ _ | exact bI_in _ | exact i32_in _) ?_
        refine g_if_gt hC 199 dL_areSold_191 rfl (by first | omega | exact cmpZ_in _ _ | exact bI_in _ | exact i32_in _) (fun c191 => ?_) (fun c191 => ?_)
        · refine gB hC _ _ _ _ _ _ _ qL_areSold_199 rfl ?_
          refine g_st0 (moT (10 * y17) y29 r (m + 1)) (by rw [moT_st (by omega) (by omega), if_neg (by have := (cmpZ_gt _ _).mp c191; omega)]) ?_
          refine gB hC _ _ _ _ _ _ _ qL_areSold_201 rfl ?_
          exact ih39 (m + 1, _, _, _, _, _, _) _ (by show m + 1 ≤ 3; omega) (by show 3 - (m + 1) < 3 - m; omega)
        · refine gB hC _ _ _ _ _ _ _ qL_areSold_194 rfl ?_
          refine g_st0 (moT (10 * y17) y29 r (m + 1)) (by rw [moT_st (by omega) (by omega), if_pos ((cmpZ_le _ _).mp c191)]) ?_
          refine gB hC _ _ _ _ _ _ _ qL_areSold_201 rfl ?_
          exact ih39 (m + 1, _, _, _, _, _, _) _ (by show m + 1 ≤ 3; omega) (by show 3 - (m + 1) < 3 - m; omega)
      · refine gB hC _ _ _ _ _ _ _ qL_areSold_98 rfl ?_
        refine g_cS1 hC dL_areSold_100 mL_286 sJ6_bitCount_0f7a4 (kJ6_bc) rfl rfl (Nat.le_of_ble_eq_true rfl) (RR rfl rfl rfl rfl) (fun z => ?_)
        refine gB hC _ _ _ _ _ _ _ qL_areSold_103 rfl ?_
        refine g_getr hC dL_areSold_104 fL_23 hL29.sL (by decide) rfl 5 rfl hL29.p5 ?_
        refine gB hC _ _ _ _ _ _ _ qL_areSold_107 rfl ?_
        refine g_iald hC dL_areSold_108 hL29.srm ((hL29.k0 (by omega) (by omega)).trans hr9) (by omega) (by omega) (by decide) (fun i108 => ?_)
        refine g_icmp_gt hC 115 dL_areSold_109 rfl (by first | omega | exact cmpZ_in _ _ | exact bI_in _ | exact i32_in _) (by first | omega | exact cmpZ_in _ _ | exact bI_in _ | exact i32_in _) (fun c109 => ?_) (fun c109 => ?_)
        · refine gB hC _ _ _ _ _ _ _ qL_areSold_115 rfl ?_
          refine g_loop (fun x : Nat => x ≤ r + (m + 1)) (fun x => r + (m + 1) - x) 121 (fun x => [(2, q), (0, y5), (0, 10 * y17), (0, y29), (0, moT (10 * y17) y29 r m), (0, (m : Int) + 1), (0, ((r : Int) + ((m : Int) + 1))), (1, sBT y17 (100 - y17) (r + (m + 1)) r M), (9, 0), (1, pwZ 100 (r + (m + 1))), (9, 0), (0, (M : Int)), (1, wyF y17 (100 - y17) M x), (9, 0), (0, (x : Int))]) (fun _ => V29) 0 (Nat.zero_le _) ?_
          intro i z hi ih121
          refine gB hC _ _ _ _ _ _ _ qL_areSold_121 rfl ?_
          refine g_icmp_ge hC 166 dL_areSold_125 rfl (by first | omega | exact cmpZ_in _ _ | exact bI_in _ | exact i32_in _) (by first | omega | exact cmpZ_in _ _ | exact bI_in _ | exact i32_in _) (fun c125 => ?_) (fun c125 => ?_)
          · obtain rfl : i = r + (m + 1) := by omega
            refine gB hC _ _ _ _ _ _ _ qL_areSold_166 rfl ?_
            refine gB hC _ _ _ _ _ _ _ qL_areSold_173 rfl ?_
            have hse : sBT y17 (100 - y17) (r + (m + 1)) r (M + 1) = sBT y17 (100 - y17) (r + (m + 1)) r M + wyF y17 (100 - y17) M (r + (m + 1)) := by rw [sBT, if_pos (by omega)]
            have h9 := fun z a b => ih89 (M + 1, a, b) z (by show M + 1 ≤ _; omega) (by show 2 ^ (r + (m + 1)) - (M + 1) < 2 ^ (r + (m + 1)) - M; omega)
            simp only [hse] at h9
            exact h9 _ _ _
          · refine gB hC _ _ _ _ _ _ _ qL_areSold_128 rfl ?_
            refine g_ishr hC dL_areSold_134 (Int32.ofInt_toInt _).symm ?_
            refine gB hC _ _ _ _ _ _ _ qL_areSold_135 rfl ?_
            refine g_iand hC dL_areSold_136 (Int32.ofInt_toInt _).symm ?_
            refine gB hC _ _ _ _ _ _ _ qL_areSold_137 rfl ?_
            refine g_icmp_ne hC 149 dL_areSold_138 rfl (by first | omega | exact cmpZ_in _ _ | exact bI_in _ | exact i32_in _) (by first | omega | exact cmpZ_in _ _ | exact bI_in _ | exact i32_in _) (fun c138 => ?_) (fun c138 => ?_)
            · refine gB hC _ _ _ _ _ _ _ qL_areSold_149 rfl ?_
              refine g_idiv hC dL_areSold_154 (by first | omega | exact cmpZ_in _ _ | exact bI_in _ | exact i32_in _) (by first | omega | exact cmpZ_in _ _ | exact bI_in _ | exact i32_in _) (by omega) (by omega) ?_
              refine g_st0 y17 (by omega) ?_
              refine gB hC _ _ _ _ _ _ _ qL_areSold_155 rfl ?_
              refine g_i2l hC dL_areSold_156 (by first | omega | exact cmpZ_in _ _ | exact bI_in _ | exact i32_in _) ?_
              refine gB hC _ _ _ _ _ _ _ qL_areSold_157 rfl ?_
              have hwe : wyF y17 (100 - y17) M (i + 1) = wyF y17 (100 - y17) M i * (100 - y17) := by rw [wyF, if_neg (show ¬ ubT M i = 1 from c138)]
              have h9 := fun z => ih121 (i + 1) z (by omega) (by omega)
              simp only [hwe] at h9
              exact h9 _
            · refine gB hC _ _ _ _ _ _ _ qL_areSold_141 rfl ?_
              refine g_idiv hC dL_areSold_144 (by first | omega | exact cmpZ_in _ _ | exact bI_in _ | exact i32_in _) (by first | omega | exact cmpZ_in _ _ | exact bI_in _ | exact i32_in _) (by omega) (by omega) ?_
              refine g_st0 y17 (by omega) ?_
              refine g_i2l hC dL_areSold_145 (by first | omega | exact cmpZ_in _ _ | exact bI_in _ | exact i32_in _) ?_
              refine gB hC _ _ _ _ _ _ _ qL_areSold_146 rfl ?_
              refine gB hC _ _ _ _ _ _ _ qL_areSold_157 rfl ?_
              have hwe : wyF y17 (100 - y17) M (i + 1) = wyF y17 (100 - y17) M i * y17 := by rw [wyF, if_pos (show ubT M i = 1 from c138)]
              have h9 := fun z => ih121 (i + 1) z (by omega) (by omega)
              simp only [hwe] at h9
              exact h9 _
        · refine gB hC _ _ _ _ _ _ _ qL_areSold_112 rfl ?_
          refine gB hC _ _ _ _ _ _ _ qL_areSold_173 rfl ?_
          have hse : sBT y17 (100 - y17) (r + (m + 1)) r (M + 1) = sBT y17 (100 - y17) (r + (m + 1)) r M := by rw [sBT, if_neg (by omega), Int.add_zero]
          have h9 := fun z a b => ih89 (M + 1, a, b) z (by show M + 1 ≤ _; omega) (by show 2 ^ (r + (m + 1)) - (M + 1) < 2 ^ (r + (m + 1)) - M; omega)
          simp only [hse] at h9
          exact h9 _ _ _
    · refine gB hC _ _ _ _ _ _ _ qL_areSold_72 rfl ?_
      refine g_ldc2 hC 100 kL_284 rfl dL_areSold_74 ?_
      refine gB hC _ _ _ _ _ _ _ qL_areSold_77 rfl ?_
      exact ih65 (i + 1) _ (by omega) (by omega)
