/-! the reference: risks (rows laid by wip/whole/m16.py) -/
theorem kX12_isSafe {E l Sh V z} {b : Int} {N : gN0} {r9 n9 p9 k9 : Int} (hm : gMd b N Sh V) (h1 : 1 ≤ r9) (h2 : r9 ≤ n9) (h3 : n9 ≤ 9) (h4 : 0 ≤ p9 ∧ p9 ≤ 1000) (h5 : 0 ≤ k9 ∧ k9 ≤ 1000) : gM E l yX12_isSafe (.code yX12_isSafe cX12_isSafe 7 (some .boolean)) (rmk 1 0 0 45) [(2, b), (0, r9), (0, n9), (0, p9), (0, k9)] Sh V z (gRc (0, bI (smT p9 n9.toNat r9 (n9 - r9).toNat ≤ k9 * pw (n9 - 1).toNat)) b Sh V) := by
  refine gM_at (L0 := [(2, b), (0, r9), (0, n9), (0, p9), (0, k9), (9, 0), (9, 0)]) rfl rfl rfl ?_
  intro p e s m args below meth c hC hr hex hnm hz
  refine gB hC _ _ _ _ _ _ _ qX12_isSafe_0 rfl ?_
  rw [rwV_0 V (b + 5) (fun _ => 0)]
  refine g_loop (fun x : Nat => x ≤ 44) (fun x => 44 - x) 3 (fun x => [(2, b), (0, r9), (0, n9), (0, p9), (0, k9), (0, (x : Int)), (9, 0)]) (fun x => rwV V (b + 5) (fun _ => 0) (x : Int)) 0 (Nat.zero_le _) ?_
  rintro n z hn ih
  have hmn := gMd_rw hm (fun _ => 0) n
  refine gB hC _ _ _ _ _ _ _ qX12_isSafe_3 rfl ?_
  refine g_icmp_ge hC 24 dX12_isSafe_7 rfl (by first | omega | exact bI_in _) (by first | omega | exact bI_in _) (fun c7 => ?_) (fun c7 => ?_)
  · obtain rfl : n = 44 := by omega
    refine gB hC _ _ _ _ _ _ _ qX12_isSafe_24 rfl ?_
    refine g_getr hC dX12_isSafe_25 fX12_23 hmn.1.1 (by decide) rfl 6 rfl hmn.2.1.2.2.2.2 ?_
    refine gB hC _ _ _ _ _ _ _ qX12_isSafe_28 rfl ?_
    refine g_lst hC dX12_isSafe_30 hmn.1.2.2.2.2.2 (by omega) (by omega) (by decide) (by first | omega | exact bI_in _) (fun V30 e30 => ?_)
    have hm30 := gMd_o hmn e30 (Or.inl ⟨by omega, by omega⟩)
    replace e30 : V30 = up (rwV V (b + 5) (fun _ => 0) 44) (b + 5) 0 1 := e30
    refine gB hC _ _ _ _ _ _ _ qX12_isSafe_31 rfl ?_
    rw [e30, rwV_up (by decide) (by decide)]
    refine g_loop (fun x : Nat × gN0 × aV => (x.1 : Int) ≤ n9 ∧ liOk x.2.1 ∧ ∀ j, 0 ≤ j → j ≤ 10 → vlC x.2.1 j = bnT p9 x.1 j) (fun x => (n9 - (x.1 : Int)).toNat) 34 (fun x => [(2, b), (0, r9), (0, n9), (0, p9), (0, k9), (0, (x.1 : Int)), x.2.2]) (fun x => rwV V (b + 5) x.2.1 44) (0, upN (fun _ => 0) 0 1, (9, 0)) ⟨by show (0 : Int) ≤ n9; omega, fun j j0 j1 => by
      have hj9 : upN (fun _ => (0 : Int)) 0 1 j = if j = 0 then 1 else 0 := rfl
      show 0 ≤ upN (fun _ => (0 : Int)) 0 1 j ∧ upN (fun _ => (0 : Int)) 0 1 j ≤ 999999999
      rw [hj9]
      split <;> omega, fun j j0 j1 => by
      show vlC (upN (fun _ => 0) 0 1) j = (if j = 0 then 1 else 0)
      unfold vlC upN
      by_cases hj : j = 0
      · subst hj; rfl
      · rw [if_neg hj, if_neg (by omega), if_neg (by omega), if_neg (by omega), if_neg (by omega)]; rfl⟩ ?_
    rintro ⟨n, C, a6⟩ z ⟨hn, hli, hvl⟩ ih
    dsimp only at hn hli hvl ih ⊢
    have hpw := pw9_in (d := n) (by omega)
    refine gB hC _ _ _ _ _ _ _ qX12_isSafe_34 rfl ?_
    refine g_icmp_ge hC 81 dX12_isSafe_37 rfl (by first | omega | exact bI_in _) (by first | omega | exact bI_in _) (fun c37 => ?_) (fun c37 => ?_)
    · refine gB hC _ _ _ _ _ _ _ qX12_isSafe_81 rfl ?_
      obtain rfl : n = n9.toNat := by omega
      clear ih
      rw [show C = zzC C ((0 : Nat) : Int) from (zzC_0 C).symm]
      refine g_loop (fun x : Nat => x ≤ 4) (fun x => 4 - x) 84 (fun x => [(2, b), (0, r9), (0, n9), (0, p9), (0, k9), (0, (x : Int)), a6]) (fun x => rwV V (b + 5) (zzC C (x : Int)) 44) 0 (Nat.zero_le _) ?_
      rintro t z ht ih
      refine gB hC _ _ _ _ _ _ _ qX12_isSafe_84 rfl ?_
      refine g_icmp_ge hC 115 dX12_isSafe_87 rfl (by first | omega | exact bI_in _) (by first | omega | exact bI_in _) (fun c87 => ?_) (fun c87 => ?_)
      · refine gB hC _ _ _ _ _ _ _ qX12_isSafe_115 rfl ?_
        obtain rfl : t = 4 := by omega
        clear ih
        refine g_loop (fun x : Nat × Int × gN0 => x.2.1 = r9 + 1 + x.1 ∧ x.2.1 ≤ n9 + 1 ∧ liOk x.2.2 ∧ vlC x.2.2 0 = smT p9 n9.toNat r9 x.1 ∧ (∀ j, 1 ≤ j → j ≤ 9 → vlC x.2.2 j = bnT p9 n9.toNat j) ∧ vlC x.2.2 10 = 0) (fun x => (n9 + 1 - x.2.1).toNat) 120 (fun x => [(2, b), (0, r9), (0, n9), (0, p9), (0, k9), (0, x.2.1), a6]) (fun x => rwV V (b + 5) x.2.2 44) (0, r9 + 1, zzC C ((4 : Nat) : Int)) ⟨by show r9 + 1 = r9 + 1 + ((0 : Nat) : Int); omega, by show r9 + 1 ≤ n9 + 1; omega, fun j j0 j1 => by
          have := hli j j0 j1
          show 0 ≤ zzC C _ j ∧ zzC C _ j ≤ _
          unfold zzC
          split <;> omega, rfl, fun j j0 j1 => by
          rw [← hvl j (by omega) (by omega)]
          show vlC (zzC C _) j = _
          unfold vlC zzC
          rw [if_neg (by omega), if_neg (by omega), if_neg (by omega), if_neg (by omega)], rfl⟩ ?_
        clear hvl hli
        rintro ⟨m, k, D⟩ z ⟨hk, hkn, hli, hv0, hvj, hv10⟩ ih
        dsimp only at hk hkn hli hv0 hvj hv10 ih ⊢
        refine gB hC _ _ _ _ _ _ _ qX12_isSafe_120 rfl ?_
        refine g_icmp_gt hC 141 dX12_isSafe_123 rfl (by first | omega | exact bI_in _) (by first | omega | exact bI_in _) (fun c123 => ?_) (fun c123 => ?_)
        · refine gB hC _ _ _ _ _ _ _ qX12_isSafe_141 rfl ?_
          refine g_getr hC dX12_isSafe_142 fX12_23 (gMd_rw hm D 44).1.1 (by decide) rfl 6 rfl (gMd_rw hm D 44).2.1.2.2.2.2 ?_
          refine gB hC _ _ _ _ _ _ _ qX12_isSafe_145 rfl ?_
          refine g_i2l hC dX12_isSafe_149 (by first | omega | exact bI_in _) ?_
          refine g_lst hC dX12_isSafe_150 (gMd_rw hm D 44).1.2.2.2.2.2 (by omega) (by omega) (by decide) (by first | omega | exact bI_in _) (fun V150 e150 => ?_)
          have hm150 := gMd_o (gMd_rw hm D 44) e150 (Or.inl ⟨by omega, by omega⟩)
          refine gB hC _ _ _ _ _ _ _ qX12_isSafe_151 rfl ?_
          have hv0 : vlC D 0 = smT p9 n9.toNat r9 (n9 - r9).toNat := by rw [hv0, show m = (n9 - r9).toNat by omega]
          rw [e150, rwV_up (by decide) (by decide)]
          clear ih
          refine g_loop (fun x : Nat × gN0 => (x.1 : Int) + 1 ≤ n9 ∧ liOk x.2 ∧ vlC x.2 0 = smT p9 n9.toNat r9 (n9 - r9).toNat ∧ vlC x.2 10 = k9 * pw x.1) (fun x => (n9 - (x.1 : Int)).toNat) 154 (fun x => [(2, b), (0, r9), (0, n9), (0, p9), (0, k9), (0, (x.1 : Int) + 1), a6]) (fun x => rwV V (b + 5) x.2 44) (0, upN D 40 k9) ⟨by show ((0 : Nat) : Int) + 1 ≤ n9; omega, fun j j0 j1 => by
            have := hli j j0 j1
            show 0 ≤ upN D 40 k9 j ∧ upN D 40 k9 j ≤ _
            unfold upN
            split <;> omega, hv0, by
            have hz : vlC (upN D 40 k9) 10 = k9 + D 41 * 1000000000 + D 42 * 1000000000000000000 + D 43 * 1000000000000000000000000000 := rfl
            have hz2 : vlC D 10 = D 40 + D 41 * 1000000000 + D 42 * 1000000000000000000 + D 43 * 1000000000000000000000000000 := rfl
            have g0 := hli 40 (by decide) (by decide)
            have g1 := hli 41 (by decide) (by decide)
            have g2 := hli 42 (by decide) (by decide)
            have g3 := hli 43 (by decide) (by decide)
            show vlC (upN D 40 k9) 10 = k9 * 1
            omega⟩ ?_
          clear hv0 hv10 hvj hli
          rintro ⟨q, D⟩ z ⟨hq, hli, hv0, hv10⟩ ih
          dsimp only at hq hli hv0 hv10 ih ⊢
          refine gB hC _ _ _ _ _ _ _ qX12_isSafe_154 rfl ?_
          refine g_icmp_ge hC 177 dX12_isSafe_157 rfl (by first | omega | exact bI_in _) (by first | omega | exact bI_in _) (fun c157 => ?_) (fun c157 => ?_)
          · refine gB hC _ _ _ _ _ _ _ qX12_isSafe_177 rfl ?_
            have hv10 : vlC D 10 = k9 * pw (n9 - 1).toNat := by rw [hv10, show q = (n9 - 1).toNat by omega]
            clear ih hq
            refine g_loop (fun x : Int => -1 ≤ x ∧ x ≤ 3 ∧ ∀ i, x < i → i ≤ 3 → D i = D (40 + i)) (fun x => (x + 1).toNat) 180 (fun x => [(2, b), (0, r9), (0, n9), (0, p9), (0, k9), (0, x), a6]) (fun _ => rwV V (b + 5) D 44) 3 ⟨by decide, by decide, fun i a c => by omega⟩ ?_
            rintro n z ⟨hn0, hn1, hq⟩ ih
            have hat : ∀ j, 0 ≤ j → j < 44 → rwV V (b + 5) D 44 (b + 5) j = D j := fun j a c => rwV_at a c
            refine gB hC _ _ _ _ _ _ _ qX12_isSafe_180 rfl ?_
            refine g_if_lt hC 239 dX12_isSafe_182 rfl (by first | omega | exact bI_in _) (fun c182 => ?_) (fun c182 => ?_)
            · refine gB hC _ _ _ _ _ _ _ qX12_isSafe_239 rfl ?_
              refine g_zreturn hC dX12_isSafe_240 hr ?_ ⟨?_, rfl, ?_⟩ gs_rfl ⟨Nat.le_of_ble_eq_true rfl, Nat.le_of_ble_eq_true rfl⟩
              · first | exact Or.inl rfl | exact Or.inr rfl | exact bI_01 _
              · have v0 : vlC D 0 = D 0 + D 1 * 1000000000 + D 2 * 1000000000000000000 + D 3 * 1000000000000000000000000000 := rfl
                have v10 : vlC D 10 = D 40 + D 41 * 1000000000 + D 42 * 1000000000000000000 + D 43 * 1000000000000000000000000000 := rfl
                have l0 := hli 0 (by decide) (by decide)
                have l1 := hli 1 (by decide) (by decide)
                have l2 := hli 2 (by decide) (by decide)
                have l3 := hli 3 (by decide) (by decide)
                have g0 := hli 40 (by decide) (by decide)
                have g1 := hli 41 (by decide) (by decide)
                have g2 := hli 42 (by decide) (by decide)
                have g3 := hli 43 (by decide) (by decide)
                have q0 := hq 0
                have q1 := hq 1
                have q2 := hq 2
                have q3 := hq 3
                simp only [Int.reduceAdd] at q0 q1 q2 q3
                rw [← hv0, ← hv10]
                have hcmp := @cmpZ_lt9 (D n) (D (40 + n))
                have hcm0 := @cmpZ_0 (D n) (D (40 + n))
                have hn9 : n = -1 ∨ n = 0 ∨ n = 1 ∨ n = 2 ∨ n = 3 := by omega
                first
                | (rw [bI_t (by rcases hn9 with rfl | rfl | rfl | rfl | rfl <;> first | omega | (simp only [Int.reduceAdd] at *; omega))]; done)
                | (rw [bI_f (by rcases hn9 with rfl | rfl | rfl | rfl | rfl <;> first | omega | (simp only [Int.reduceAdd] at *; omega))]; done)
              · exact ⟨D, by rw [← rwV_0 V (b + 5) (fun _ => 0)]⟩
            · refine gB hC _ _ _ _ _ _ _ qX12_isSafe_185 rfl ?_
              refine g_getr hC dX12_isSafe_186 fX12_23 (gMd_rw hm D 44).1.1 (by decide) rfl 6 rfl (gMd_rw hm D 44).2.1.2.2.2.2 ?_
              refine gB hC _ _ _ _ _ _ _ qX12_isSafe_189 rfl ?_
              refine g_lald hC dX12_isSafe_191 (gMd_rw hm D 44).1.2.2.2.2.2 (hat _ (by omega) (by omega)) (by omega) (by omega) (by decide) (fun i191 => ?_)
              refine gB hC _ _ _ _ _ _ _ qX12_isSafe_192 rfl ?_
              refine g_getr hC dX12_isSafe_193 fX12_23 (gMd_rw hm D 44).1.1 (by decide) rfl 6 rfl (gMd_rw hm D 44).2.1.2.2.2.2 ?_
              refine gB hC _ _ _ _ _ _ _ qX12_isSafe_196 rfl ?_
              refine g_lald hC dX12_isSafe_201 (gMd_rw hm D 44).1.2.2.2.2.2 (hat _ (by omega) (by omega)) (by omega) (by omega) (by decide) (fun i201 => ?_)
              refine g_lcmp hC dX12_isSafe_202 (by first | omega | exact bI_in _) (by first | omega | exact bI_in _) ?_
              have hcz := cmpZ_in9 (D n) (D (40 + n))
              refine g_if_eq hC 233 dX12_isSafe_203 rfl (by first | omega | exact bI_in _) (fun c203 => ?_) (fun c203 => ?_)
              · refine gB hC _ _ _ _ _ _ _ qX12_isSafe_233 rfl ?_
                exact ih (n - 1) z ⟨by omega, by omega, fun i a c => by
                  by_cases hi : i = n
                  · subst hi; exact cmpZ_0.mp c203
                  · exact hq i (by omega) c⟩ (by omega)
              · refine gB hC _ _ _ _ _ _ _ qX12_isSafe_206 rfl ?_
                refine g_getr hC dX12_isSafe_207 fX12_23 (gMd_rw hm D 44).1.1 (by decide) rfl 6 rfl (gMd_rw hm D 44).2.1.2.2.2.2 ?_
                refine gB hC _ _ _ _ _ _ _ qX12_isSafe_210 rfl ?_
                refine g_lald hC dX12_isSafe_212 (gMd_rw hm D 44).1.2.2.2.2.2 (hat _ (by omega) (by omega)) (by omega) (by omega) (by decide) (fun i212 => ?_)
                refine gB hC _ _ _ _ _ _ _ qX12_isSafe_213 rfl ?_
                refine g_getr hC dX12_isSafe_214 fX12_23 (gMd_rw hm D 44).1.1 (by decide) rfl 6 rfl (gMd_rw hm D 44).2.1.2.2.2.2 ?_
                refine gB hC _ _ _ _ _ _ _ qX12_isSafe_217 rfl ?_
                refine g_lald hC dX12_isSafe_222 (gMd_rw hm D 44).1.2.2.2.2.2 (hat _ (by omega) (by omega)) (by omega) (by omega) (by decide) (fun i222 => ?_)
                refine g_lcmp hC dX12_isSafe_223 (by first | omega | exact bI_in _) (by first | omega | exact bI_in _) ?_
                have hcz2 := cmpZ_in9 (D n) (D (40 + n))
                refine g_if_ge hC 231 dX12_isSafe_224 rfl (by first | omega | exact bI_in _) (fun c224 => ?_) (fun c224 => ?_)
                · refine gB hC _ _ _ _ _ _ _ qX12_isSafe_231 rfl ?_
                  refine g_zreturn hC dX12_isSafe_232 hr ?_ ⟨?_, rfl, ?_⟩ gs_rfl ⟨Nat.le_of_ble_eq_true rfl, Nat.le_of_ble_eq_true rfl⟩
                  · first | exact Or.inl rfl | exact Or.inr rfl | exact bI_01 _
                  · have v0 : vlC D 0 = D 0 + D 1 * 1000000000 + D 2 * 1000000000000000000 + D 3 * 1000000000000000000000000000 := rfl
                    have v10 : vlC D 10 = D 40 + D 41 * 1000000000 + D 42 * 1000000000000000000 + D 43 * 1000000000000000000000000000 := rfl
                    have l0 := hli 0 (by decide) (by decide)
                    have l1 := hli 1 (by decide) (by decide)
                    have l2 := hli 2 (by decide) (by decide)
                    have l3 := hli 3 (by decide) (by decide)
                    have g0 := hli 40 (by decide) (by decide)
                    have g1 := hli 41 (by decide) (by decide)
                    have g2 := hli 42 (by decide) (by decide)
                    have g3 := hli 43 (by decide) (by decide)
                    have q0 := hq 0
                    have q1 := hq 1
                    have q2 := hq 2
                    have q3 := hq 3
                    simp only [Int.reduceAdd] at q0 q1 q2 q3
                    rw [← hv0, ← hv10]
                    have hcmp := @cmpZ_lt9 (D n) (D (40 + n))
                    have hcm0 := @cmpZ_0 (D n) (D (40 + n))
                    have hn9 : n = -1 ∨ n = 0 ∨ n = 1 ∨ n = 2 ∨ n = 3 := by omega
                    first
                    | (rw [bI_t (by rcases hn9 with rfl | rfl | rfl | rfl | rfl <;> first | omega | (simp only [Int.reduceAdd] at *; omega))]; done)
                    | (rw [bI_f (by rcases hn9 with rfl | rfl | rfl | rfl | rfl <;> first | omega | (simp only [Int.reduceAdd] at *; omega))]; done)
                  · exact ⟨D, by rw [← rwV_0 V (b + 5) (fun _ => 0)]⟩
                · refine gB hC _ _ _ _ _ _ _ qX12_isSafe_227 rfl ?_
                  refine g_zreturn hC dX12_isSafe_232 hr ?_ ⟨?_, rfl, ?_⟩ gs_rfl ⟨Nat.le_of_ble_eq_true rfl, Nat.le_of_ble_eq_true rfl⟩
                  · first | exact Or.inl rfl | exact Or.inr rfl | exact bI_01 _
                  · have v0 : vlC D 0 = D 0 + D 1 * 1000000000 + D 2 * 1000000000000000000 + D 3 * 1000000000000000000000000000 := rfl
                    have v10 : vlC D 10 = D 40 + D 41 * 1000000000 + D 42 * 1000000000000000000 + D 43 * 1000000000000000000000000000 := rfl
                    have l0 := hli 0 (by decide) (by decide)
                    have l1 := hli 1 (by decide) (by decide)
                    have l2 := hli 2 (by decide) (by decide)
                    have l3 := hli 3 (by decide) (by decide)
                    have g0 := hli 40 (by decide) (by decide)
                    have g1 := hli 41 (by decide) (by decide)
                    have g2 := hli 42 (by decide) (by decide)
                    have g3 := hli 43 (by decide) (by decide)
                    have q0 := hq 0
                    have q1 := hq 1
                    have q2 := hq 2
                    have q3 := hq 3
                    simp only [Int.reduceAdd] at q0 q1 q2 q3
                    rw [← hv0, ← hv10]
                    have hcmp := @cmpZ_lt9 (D n) (D (40 + n))
                    have hcm0 := @cmpZ_0 (D n) (D (40 + n))
                    have hn9 : n = -1 ∨ n = 0 ∨ n = 1 ∨ n = 2 ∨ n = 3 := by omega
                    first
                    | (rw [bI_t (by rcases hn9 with rfl | rfl | rfl | rfl | rfl <;> first | omega | (simp only [Int.reduceAdd] at *; omega))]; done)
                    | (rw [bI_f (by rcases hn9 with rfl | rfl | rfl | rfl | rfl <;> first | omega | (simp only [Int.reduceAdd] at *; omega))]; done)
                  · exact ⟨D, by rw [← rwV_0 V (b + 5) (fun _ => 0)]⟩
          · refine gB hC _ _ _ _ _ _ _ qX12_isSafe_160 rfl ?_
            refine g_ldc2 hC 1000 kX12_171 rfl dX12_isSafe_163 ?_
            refine gB hC _ _ _ _ _ _ _ qX12_isSafe_166 rfl ?_
            refine g_cV0m hC dX12_isSafe_168 mX12_192 vX12_mixes (kX12_mixes (V0 := V) (C := D) hm rfl hli ⟨by omega, by omega⟩ (by omega) (by omega) ⟨by decide, by decide⟩ ⟨by decide, by decide⟩) rfl (gMd_rw hm D 44).1.1 (by decide) rfl (Nat.le_of_ble_eq_true rfl) (RR rfl rfl rfl rfl) (fun z V168 e168 => ?_)
            
            refine gB hC _ _ _ _ _ _ _ qX12_isSafe_171 rfl ?_
            have hpq := pw9_in (d := q) (by omega)
            have hmm := mul_in (a := k9) (b := pw q) (A := 1000) (B := 1000000000000000000000000000) (by omega) (by omega) (by omega) (by omega)
            have hmv := mx_val (C := D) (to := 10) (by9 := 1000) (other := -1) (oby := 0) hli ⟨by decide, by decide⟩ (by decide) ⟨by decide, by decide⟩ ⟨by decide, by decide⟩ (by decide) (by rw [if_pos (by decide), hv10]; omega)
            rw [e168]
            exact ih (q + 1, _) z ⟨by show ((q + 1 : Nat) : Int) + 1 ≤ n9; omega, (mxT_in hli ⟨by decide, by decide⟩ (by decide) ⟨by decide, by decide⟩ ⟨by decide, by decide⟩ 4 (Nat.le_refl _)).1, (mx_oth (by decide)).trans hv0, by show vlC (mxT D 10 1000 (-1) 0 4).1 10 = k9 * (pw q * 1000); rw [hmv, if_pos (by decide), hv10, Int.mul_assoc]; omega⟩ (by show (n9 - ((q + 1 : Nat) : Int)).toNat < (n9 - (q : Int)).toNat; omega)
        · refine gB hC _ _ _ _ _ _ _ qX12_isSafe_126 rfl ?_
          refine g_cV0m hC dX12_isSafe_132 mX12_192 vX12_mixes (kX12_mixes (V0 := V) (C := D) hm rfl hli ⟨by omega, by omega⟩ (by omega) (by omega) ⟨by decide, by decide⟩ ⟨by decide, by decide⟩) rfl (gMd_rw hm D 44).1.1 (by decide) rfl (Nat.le_of_ble_eq_true rfl) (RR rfl rfl rfl rfl) (fun z V132 e132 => ?_)
          
          refine gB hC _ _ _ _ _ _ _ qX12_isSafe_135 rfl ?_
          have vk := hvj k (by omega) (by omega)
          have hsb := smT_in h4.1 h4.2 n9.toNat r9 m
          have hbb := bnT_in h4.1 h4.2 n9.toNat k
          have hmm := mul_in (a := (m : Int)) (b := pw n9.toNat) (A := 9) (B := 1000000000000000000000000000) (by omega) (by omega) (by omega) (by omega)
          have hbe : vlC D 0 * 1 + (if k < 0 then 0 else vlC D k * 1) = smT p9 n9.toNat r9 (m + 1) := by rw [if_neg (by omega), hv0, vk, smT, hk]; omega
          have hs2 := smT_in h4.1 h4.2 n9.toNat r9 (m + 1)
          have hmv := mx_val (C := D) (to := 0) (by9 := 1) (other := k) (oby := 1) hli ⟨by decide, by decide⟩ (by omega) ⟨by decide, by decide⟩ ⟨by decide, by decide⟩ (by omega) (by rw [if_neg (by omega), hv0, vk]; omega)
          rw [e132]
          exact ih (m + 1, k + 1, _) z ⟨by show k + 1 = r9 + 1 + ((m + 1 : Nat) : Int); omega, by show k + 1 ≤ n9 + 1; omega, (mxT_in hli ⟨by decide, by decide⟩ (by omega) ⟨by decide, by decide⟩ ⟨by decide, by decide⟩ 4 (Nat.le_refl _)).1, hmv.trans hbe, fun j j0 j1 => (mx_oth (by omega)).trans (hvj j j0 j1), (mx_oth (by decide)).trans hv10⟩ (by show (n9 + 1 - (k + 1)).toNat < (n9 + 1 - k).toNat; omega)
      · refine gB hC _ _ _ _ _ _ _ qX12_isSafe_90 rfl ?_
        refine g_getr hC dX12_isSafe_91 fX12_23 (gMd_rw hm (zzC C t) 44).1.1 (by decide) rfl 6 rfl (gMd_rw hm (zzC C t) 44).2.1.2.2.2.2 ?_
        refine gB hC _ _ _ _ _ _ _ qX12_isSafe_94 rfl ?_
        refine g_lst hC dX12_isSafe_97 (gMd_rw hm (zzC C t) 44).1.2.2.2.2.2 (by omega) (by omega) (by decide) (by first | omega | exact bI_in _) (fun V97 e97 => ?_)
        have hm97 := gMd_o (gMd_rw hm (zzC C t) 44) e97 (Or.inl ⟨by omega, by omega⟩)
        replace e97 : V97 = up (rwV V (b + 5) (zzC C t) 44) (b + 5) t 0 := e97
        refine gB hC _ _ _ _ _ _ _ qX12_isSafe_98 rfl ?_
        refine g_getr hC dX12_isSafe_99 fX12_23 hm97.1.1 (by decide) rfl 6 rfl hm97.2.1.2.2.2.2 ?_
        refine gB hC _ _ _ _ _ _ _ qX12_isSafe_102 rfl ?_
        refine g_lst hC dX12_isSafe_108 hm97.1.2.2.2.2.2 (by omega) (by omega) (by decide) (by first | omega | exact bI_in _) (fun V108 e108 => ?_)
        have hm108 := gMd_o hm97 e108 (Or.inl ⟨by omega, by omega⟩)
        replace e108 : V108 = up V97 (b + 5) (40 + t) 0 := e108
        refine gB hC _ _ _ _ _ _ _ qX12_isSafe_109 rfl ?_
        rw [e108, e97, rwV_up (by omega) (by omega), rwV_up (by omega) (by omega), zzC_next C (by omega) (by omega)]
        exact ih (t + 1) z (by omega) (by omega)
    · refine gB hC _ _ _ _ _ _ _ qX12_isSafe_40 rfl ?_
      have hpw1 := pw9_in (d := n + 1) (by omega)
      refine g_loop (fun x : Int × gN0 => -1 ≤ x.1 ∧ x.1 ≤ n + 1 ∧ liOk x.2 ∧ ∀ j, 0 ≤ j → j ≤ 10 → vlC x.2 j = if x.1 < j then bnT p9 (n + 1) j else bnT p9 n j) (fun x => (x.1 + 1).toNat) 46 (fun x => [(2, b), (0, r9), (0, n9), (0, p9), (0, k9), (0, (n : Int)), (0, x.1)]) (fun x => rwV V (b + 5) x.2 44) ((n : Int) + 1, C) ⟨by show -1 ≤ (n : Int) + 1; omega, Int.le_refl _, hli, fun j j0 j1 => by
        dsimp only
        rw [hvl j j0 j1]
        split
        · rw [bnT_0 p9 n j (by omega), bnT_0 p9 (n + 1) j (by omega)]
        · rfl⟩ ?_
      clear hvl hli
      rintro ⟨k, C⟩ z ⟨hk0, hk1, hli, hvl⟩ ih2
      dsimp only at hk0 hk1 hli hvl ih2 ⊢
      refine gB hC _ _ _ _ _ _ _ qX12_isSafe_46 rfl ?_
      refine g_if_lt hC 75 dX12_isSafe_48 rfl (by first | omega | exact bI_in _) (fun c48 => ?_) (fun c48 => ?_)
      · refine gB hC _ _ _ _ _ _ _ qX12_isSafe_75 rfl ?_
        exact ih (n + 1, C, _) z ⟨by show ((n + 1 : Nat) : Int) ≤ n9; omega, hli, fun j j0 j1 => by rw [hvl j j0 j1, if_pos (by omega)]⟩ (by show (n9 - ((n + 1 : Nat) : Int)).toNat < (n9 - (n : Int)).toNat; omega)
      · refine gB hC _ _ _ _ _ _ _ qX12_isSafe_51 rfl ?_
        refine g_i2l hC dX12_isSafe_59 (by first | omega | exact bI_in _) ?_
        refine gB hC _ _ _ _ _ _ _ qX12_isSafe_60 rfl ?_
        refine g_i2l hC dX12_isSafe_65 (by first | omega | exact bI_in _) ?_
        refine g_cV0m hC dX12_isSafe_66 mX12_192 vX12_mixes (kX12_mixes (V0 := V) (C := C) hm rfl hli ⟨by omega, by omega⟩ (by omega) (by omega) ⟨by omega, by omega⟩ ⟨by omega, by omega⟩) rfl (gMd_rw hm C 44).1.1 (by decide) rfl (Nat.le_of_ble_eq_true rfl) (RR rfl rfl rfl rfl) (fun z V66 e66 => ?_)
        
        refine gB hC _ _ _ _ _ _ _ qX12_isSafe_69 rfl ?_
        have vk := hvl k (by omega) (by omega)
        rw [if_neg (by omega)] at vk
        have hb1 := bnT_in h4.1 h4.2 (n + 1) k
        have hbe : vlC C k * (1000 - p9) + (if k - 1 < 0 then 0 else vlC C (k - 1) * p9) = bnT p9 (n + 1) k := by
          rw [bnT, vk]
          by_cases hk9 : k - 1 < 0
          · rw [if_pos hk9, if_pos hk9]
          · have vk1 := hvl (k - 1) (by omega) (by omega)
            rw [if_neg (by omega)] at vk1
            rw [if_neg hk9, if_neg hk9, vk1]
        have hmv := mx_val (C := C) (to := k) (by9 := 1000 - p9) (other := k - 1) (oby := p9) hli ⟨by omega, by omega⟩ (by omega) ⟨by omega, by omega⟩ h4 (by omega) (by rw [hbe]; omega)
        rw [e66]
        exact ih2 (k - 1, _) z ⟨by show -1 ≤ k - 1; omega, by show k - 1 ≤ _; omega, (mxT_in hli ⟨by omega, by omega⟩ (by omega) ⟨by omega, by omega⟩ h4 4 (Nat.le_refl _)).1, fun j j0 j1 => by
          dsimp only
          by_cases hj : j = k
          · subst hj; rw [hmv, hbe, if_pos (by omega)]
          · rw [mx_oth hj, hvl j j0 j1]
            by_cases hj2 : k < j
            · rw [if_pos hj2, if_pos (by omega)]
            · rw [if_neg hj2, if_neg (by omega)]⟩ (by show (k - 1 + 1).toNat < (k + 1).toNat; omega)
  · refine gB hC _ _ _ _ _ _ _ qX12_isSafe_10 rfl ?_
    refine g_getr hC dX12_isSafe_11 fX12_23 hmn.1.1 (by decide) rfl 6 rfl hmn.2.1.2.2.2.2 ?_
    refine gB hC _ _ _ _ _ _ _ qX12_isSafe_14 rfl ?_
    refine g_lst hC dX12_isSafe_17 hmn.1.2.2.2.2.2 (by omega) (by omega) (by decide) (by first | omega | exact bI_in _) (fun V17 e17 => ?_)
    have hm17 := gMd_o hmn e17 (Or.inl ⟨by omega, by omega⟩)
    replace e17 : V17 = up (rwV V (b + 5) (fun _ => 0) (n : Int)) (b + 5) n 0 := e17
    refine gB hC _ _ _ _ _ _ _ qX12_isSafe_18 rfl ?_
    rw [e17, rwV_1 (by omega)]
    exact ih (n + 1) z (by omega) (by omega)
