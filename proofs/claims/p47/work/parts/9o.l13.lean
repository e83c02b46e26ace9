/-! the law: all told alike (rows laid by wip/p47/l13.py) -/
def bsm (N : gN0) : Nat → Int
  | 0 => 0
  | n + 1 => bsm N n + N (9 + n)
theorem stZ_0 (N : gN0) (s : Int) : stZ N s 0 = sF N s 0 := by simp [stZ]
theorem stZ_3 (N : gN0) (s : Int) : stZ N s 3 = sF N s 3 := by simp [stZ]
theorem stZ_4 (N : gN0) (s : Int) : stZ N s 4 = sPr N s := by simp [stZ]
theorem stZ_5 (N : gN0) (s : Int) : stZ N s 5 = sF N s 6 := by simp [stZ]
theorem stZ_6 (N : gN0) (s : Int) : stZ N s 6 = sTx N s := by simp [stZ]
theorem bsm_in {N : gN0} (h : InvC N) (hb : bOk N) : ∀ n : Nat, n ≤ 4 → -3000000000 ≤ bsm N n ∧ bsm N n ≤ 3000000000 := by
  have hphi := Phi_in h
  unfold bOk at hb
  have e0 : bsm N 0 = 0 := rfl
  have e1 : bsm N 1 = 0 + N 9 := rfl
  have e2 : bsm N 2 = 0 + N 9 + N 10 := rfl
  have e3 : bsm N 3 = 0 + N 9 + N 10 + N 11 := rfl
  have e4 : bsm N 4 = 0 + N 9 + N 10 + N 11 + N 12 := rfl
  intro n hn
  rcases (by omega : n = 0 ∨ n = 1 ∨ n = 2 ∨ n = 3 ∨ n = 4) with h | h | h | h | h <;> subst h <;> omega
theorem bsm_4 {N : gN0} (hb : bOk N) : bsm N 4 = 0 := by
  unfold bOk at hb
  have e4 : bsm N 4 = 0 + N 9 + N 10 + N 11 + N 12 := rfl
  omega

theorem kL_isSame {E l Sh V z} {q w : Int} {N : gN0} {P9 : Int → gN0} {c9 : Int} (hx : XR (q + 2) N P9 c9 Sh V) (hL : LB q w N Sh V) (hW : LW q w N V) (hI0 : INV N) (hd : N 0 ≤ 8900) : gM E l yL_isSame (.code yL_isSame cL_isSame 4 (some .boolean)) (rmk 10 0 0 440) [(2, q)] Sh V z (gR (some (0, 1)) Sh V) := by
  refine gM_at (L0 := [(2, q), (9, 0), (9, 0), (9, 0)]) rfl rfl rfl ?_
  intro p e s m args below meth c hC hr hex hnm hz
  have hI := hI0.1
  have hsc := hI.1
  unfold iScal at hsc
  have hb9 := hI0.2.1
  have hphi := Phi_in hI
  have hb8 := hb9
  unfold bOk at hb8
  refine gB hC _ _ _ _ _ _ _ qL_isSame_0 rfl ?_
  refine g_loop (fun x : Nat × aV × aV => (x.1 : Int) ≤ N 5) (fun x => (N 5 - x.1).toNat) 2 (fun x => [(2, q), (0, (x.1 : Int)), x.2.1, x.2.2]) (fun _ => V) (0, (9, 0), (9, 0)) (by show (0 : Int) ≤ N 5; omega) ?_
  rintro ⟨t, a2, a3⟩ z ht ih
  dsimp only at ht ih ⊢
  refine gB hC _ _ _ _ _ _ _ qL_isSame_2 rfl ?_
  refine g_getiv hC dL_isSame_4 fL_56 hL.sL (by decide) rfl 17 rfl hL.v17 (fun i4 => ?_)
  refine g_icmp_ge hC 116 dL_isSame_7 rfl (by first | omega | exact cmpZ_in _ _ | exact bI_in _) (by first | omega | exact cmpZ_in _ _ | exact bI_in _) (fun c7 => ?_) (fun c7 => ?_)
  · refine gB hC _ _ _ _ _ _ _ qL_isSame_116 rfl ?_
    refine g_loop (fun x : Nat => x ≤ 4) (fun x => 4 - x) 120 (fun x => [(2, q), (1, bsm N x), (9, 0), (0, (x : Int))]) (fun _ => V) 0 (by decide) ?_
    intro b z hb ih2
    have hbs := bsm_in hI hb9 b hb
    refine gB hC _ _ _ _ _ _ _ qL_isSame_120 rfl ?_
    refine g_icmp_ge hC 162 dL_isSame_122 rfl (by first | omega | exact cmpZ_in _ _ | exact bI_in _) (by first | omega | exact cmpZ_in _ _ | exact bI_in _) (fun c122 => ?_) (fun c122 => ?_)
    · obtain rfl : b = 4 := by omega
      rw [bsm_4 hb9]
      refine gB hC _ _ _ _ _ _ _ qL_isSame_162 rfl ?_
      refine g_lcmp hC dL_isSame_164 (by first | omega | exact cmpZ_in _ _ | exact bI_in _) (by first | omega | exact cmpZ_in _ _ | exact bI_in _) ?_
      refine g_if_ne hC 219 dL_isSame_165 rfl (by first | omega | exact cmpZ_in _ _ | exact bI_in _) (fun c165 => ?_) (fun c165 => ?_)
      · exact absurd (cmpZ_0.mpr rfl) c165 --stop
      · refine gB hC _ _ _ _ _ _ _ qL_isSame_168 rfl ?_
        refine g_getr hC dL_isSame_169 fL_10 hL.sL (by decide) rfl 0 rfl hL.p0 ?_
        refine g_cV1i hC dL_isSame_172 mL_133 vX11_waiting (kX11_waiting0 hx hI0) rfl hL.sX (by decide) rfl (Nat.le_of_ble_eq_true rfl) (RR rfl rfl rfl rfl) (fun z i172 => ?_)
        refine gB hC _ _ _ _ _ _ _ qL_isSame_175 rfl ?_
        refine g_getiv hC dL_isSame_176 fL_111 hL.sL (by decide) rfl 20 rfl hW.v20 (fun i176 => ?_)
        refine g_icmp_ne hC 219 dL_isSame_179 rfl (by first | omega | exact cmpZ_in _ _ | exact bI_in _) (by first | omega | exact cmpZ_in _ _ | exact bI_in _) (fun c179 => ?_) (fun c179 => ?_)
        · exact absurd rfl c179 --stop
        · refine gB hC _ _ _ _ _ _ _ qL_isSame_182 rfl ?_
          refine g_getr hC dL_isSame_183 fL_10 hL.sL (by decide) rfl 0 rfl hL.p0 ?_
          refine g_cV1i hC dL_isSame_186 mL_136 vX11_refusedNight (kX11_refusedNight0 hx hI0) rfl hL.sX (by decide) rfl (Nat.le_of_ble_eq_true rfl) (RR rfl rfl rfl rfl) (fun z i186 => ?_)
          refine gB hC _ _ _ _ _ _ _ qL_isSame_189 rfl ?_
          refine g_getiv hC dL_isSame_190 fL_139 hL.sL (by decide) rfl 22 rfl hL.v22 (fun i190 => ?_)
          refine g_icmp_ne hC 219 dL_isSame_193 rfl (by first | omega | exact cmpZ_in _ _ | exact bI_in _) (by first | omega | exact cmpZ_in _ _ | exact bI_in _) (fun c193 => ?_) (fun c193 => ?_)
          · exact absurd rfl c193 --stop
          · refine gB hC _ _ _ _ _ _ _ qL_isSame_196 rfl ?_
            refine g_getr hC dL_isSame_197 fL_10 hL.sL (by decide) rfl 0 rfl hL.p0 ?_
            refine g_cV1i hC dL_isSame_200 mL_142 vX11_today (kX11_today0 hx hI0) rfl hL.sX (by decide) rfl (Nat.le_of_ble_eq_true rfl) (RR rfl rfl rfl rfl) (fun z i200 => ?_)
            refine gB hC _ _ _ _ _ _ _ qL_isSame_203 rfl ?_
            refine g_getr hC dL_isSame_204 fL_16 hL.sL (by decide) rfl 2 rfl hL.p2 ?_
            refine gB hC _ _ _ _ _ _ _ qL_isSame_207 rfl ?_
            refine g_getiv hC dL_isSame_208 fL_114 hL.sL (by decide) rfl 4 rfl hL.v4 (fun i208 => ?_)
            refine g_iald hC dL_isSame_211 hL.sdt (hL.dt (by omega) (by omega)) (by omega) (by omega) (by decide) (fun i211 => ?_)
            refine g_icmp_ne hC 219 dL_isSame_212 rfl (by first | omega | exact cmpZ_in _ _ | exact bI_in _) (by first | omega | exact cmpZ_in _ _ | exact bI_in _) (fun c212 => ?_) (fun c212 => ?_)
            · exact absurd (by rw [show (8822 : Int) + (N 0 - 8822) = N 0 by omega]) c212 --stop
            · refine gB hC _ _ _ _ _ _ _ qL_isSame_215 rfl ?_
              refine g_zreturn hC dL_isSame_220 hr ?_ ⟨rfl, rfl, rfl⟩ gs_rfl ⟨Nat.le_of_ble_eq_true rfl, Nat.le_of_ble_eq_true rfl⟩
              exact Or.inr rfl
    · refine gB hC _ _ _ _ _ _ _ qL_isSame_125 rfl ?_
      refine g_getr hC dL_isSame_127 fL_10 hL.sL (by decide) rfl 0 rfl hL.p0 ?_
      refine gB hC _ _ _ _ _ _ _ qL_isSame_130 rfl ?_
      refine g_cV1l hC dL_isSame_131 mL_129 vX11_book (kX11_book0 hx hI0 (by omega) (by omega)) rfl hL.sX (by decide) rfl (Nat.le_of_ble_eq_true rfl) (RR rfl rfl rfl rfl) (fun z i131 => ?_)
      refine gB hC _ _ _ _ _ _ _ qL_isSame_134 rfl ?_
      refine g_getr hC dL_isSame_137 fL_10 hL.sL (by decide) rfl 0 rfl hL.p0 ?_
      refine gB hC _ _ _ _ _ _ _ qL_isSame_140 rfl ?_
      refine g_cV1l hC dL_isSame_141 mL_129 vX11_book (kX11_book0 hx hI0 (by omega) (by omega)) rfl hL.sX (by decide) rfl (Nat.le_of_ble_eq_true rfl) (RR rfl rfl rfl rfl) (fun z i141 => ?_)
      refine gB hC _ _ _ _ _ _ _ qL_isSame_144 rfl ?_
      refine g_getr hC dL_isSame_145 fL_48 hL.sL (by decide) rfl 21 rfl hL.p21 ?_
      refine gB hC _ _ _ _ _ _ _ qL_isSame_148 rfl ?_
      refine g_lald hC dL_isSame_149 hL.sbk (hL.b (by omega) (by omega)) (by omega) (by omega) (by decide) (fun i149 => ?_)
      refine g_lcmp hC dL_isSame_150 (by first | omega | exact cmpZ_in _ _ | exact bI_in _) (by first | omega | exact cmpZ_in _ _ | exact bI_in _) ?_
      refine g_if_eq hC 156 dL_isSame_151 rfl (by first | omega | exact cmpZ_in _ _ | exact bI_in _) (fun c151 => ?_) (fun c151 => ?_)
      · refine gB hC _ _ _ _ _ _ _ qL_isSame_156 rfl ?_
        refine ih2 (b + 1) _ (by omega) (by omega)
      · exact absurd (cmpZ_0.mpr rfl) c151 --stop
  · have hso := (hI.2.2.2.1 t (by omega) (by omega)).1
    have hspr := sPr_in (hI.2.2.2.1 t (by omega) (by omega))
    have hstx := sTx_in (hI.2.2.2.1 t (by omega) (by omega))
    have htx : sTx N t = pNt N t * sF N t 3 := Int.mul_comm _ _
    refine gB hC _ _ _ _ _ _ _ qL_isSame_10 rfl ?_
    refine g_getr hC dL_isSame_11 fL_39 hL.sL (by decide) rfl 15 rfl hL.p15 ?_
    refine gB hC _ _ _ _ _ _ _ qL_isSame_14 rfl ?_
    refine g_aald hC (j := 8) dL_isSame_15 hL.ssO (by decide) (hL.ps (by omega) (by omega)) (by omega) (by omega) (by decide) ?_
    refine gB hC _ _ _ _ _ _ _ qL_isSame_16 rfl ?_
    refine g_getr hC dL_isSame_18 fL_10 hL.sL (by decide) rfl 0 rfl hL.p0 ?_
    refine gB hC _ _ _ _ _ _ _ qL_isSame_21 rfl ?_
    refine g_cV1i hC dL_isSame_23 mL_124 vX11_stayAt (kX11_stayAt0 hx hI0 (by omega) (by omega) (by decide) (by decide)) rfl hL.sX (by decide) rfl (Nat.le_of_ble_eq_true rfl) (RR rfl rfl rfl rfl) (fun z i23 => ?_)
    rw [stZ_0] at i23 ⊢
    refine gB hC _ _ _ _ _ _ _ qL_isSame_26 rfl ?_
    refine g_iald hC dL_isSame_28 (hL.ssR (by omega) (by omega)) (hL.t0 (by omega) (by omega)) (by omega) (by omega) (by decide) (fun i28 => ?_)
    refine g_icmp_ne hC 108 dL_isSame_29 rfl (by first | omega | exact cmpZ_in _ _ | exact bI_in _) (by first | omega | exact cmpZ_in _ _ | exact bI_in _) (fun c29 => ?_) (fun c29 => ?_)
    · exact absurd rfl c29 --stop
    · refine gB hC _ _ _ _ _ _ _ qL_isSame_32 rfl ?_
      refine g_getr hC dL_isSame_33 fL_10 hL.sL (by decide) rfl 0 rfl hL.p0 ?_
      refine gB hC _ _ _ _ _ _ _ qL_isSame_36 rfl ?_
      refine g_cV1i hC dL_isSame_38 mL_124 vX11_stayAt (kX11_stayAt0 hx hI0 (by omega) (by omega) (by decide) (by decide)) rfl hL.sX (by decide) rfl (Nat.le_of_ble_eq_true rfl) (RR rfl rfl rfl rfl) (fun z i38 => ?_)
      rw [stZ_3] at i38 ⊢
      refine gB hC _ _ _ _ _ _ _ qL_isSame_41 rfl ?_
      refine g_iald hC dL_isSame_43 (hL.ssR (by omega) (by omega)) (hL.t3 (by omega) (by omega)) (by omega) (by omega) (by decide) (fun i43 => ?_)
      refine g_icmp_ne hC 108 dL_isSame_44 rfl (by first | omega | exact cmpZ_in _ _ | exact bI_in _) (by first | omega | exact cmpZ_in _ _ | exact bI_in _) (fun c44 => ?_) (fun c44 => ?_)
      · exact absurd rfl c44 --stop
      · refine gB hC _ _ _ _ _ _ _ qL_isSame_47 rfl ?_
        refine g_getr hC dL_isSame_48 fL_10 hL.sL (by decide) rfl 0 rfl hL.p0 ?_
        refine gB hC _ _ _ _ _ _ _ qL_isSame_51 rfl ?_
        refine g_cV1i hC dL_isSame_53 mL_124 vX11_stayAt (kX11_stayAt0 hx hI0 (by omega) (by omega) (by decide) (by decide)) rfl hL.sX (by decide) rfl (Nat.le_of_ble_eq_true rfl) (RR rfl rfl rfl rfl) (fun z i53 => ?_)
        rw [stZ_4] at i53 ⊢
        refine gB hC _ _ _ _ _ _ _ qL_isSame_56 rfl ?_
        refine g_cV1i hC dL_isSame_58 mL_127 vL_price_ (kL_price_ hL hI (by omega) (by omega)) rfl hL.sL (by decide) rfl (Nat.le_of_ble_eq_true rfl) (RR rfl rfl rfl rfl) (fun z i58 => ?_)
        refine g_icmp_ne hC 108 dL_isSame_61 rfl (by first | omega | exact cmpZ_in _ _ | exact bI_in _) (by first | omega | exact cmpZ_in _ _ | exact bI_in _) (fun c61 => ?_) (fun c61 => ?_)
        · exact absurd rfl c61 --stop
        · refine gB hC _ _ _ _ _ _ _ qL_isSame_64 rfl ?_
          refine g_iald hC dL_isSame_66 (hL.ssR (by omega) (by omega)) (hL.t0 (by omega) (by omega)) (by omega) (by omega) (by decide) (fun i66 => ?_)
          refine gB hC _ _ _ _ _ _ _ qL_isSame_67 rfl ?_
          refine g_icmp_ge hC 87 dL_isSame_68 rfl (by first | omega | exact cmpZ_in _ _ | exact bI_in _) (by first | omega | exact cmpZ_in _ _ | exact bI_in _) (fun c68 => ?_) (fun c68 => ?_)
          · refine gB hC _ _ _ _ _ _ _ qL_isSame_87 rfl ?_
            refine g_getr hC dL_isSame_88 fL_10 hL.sL (by decide) rfl 0 rfl hL.p0 ?_
            refine gB hC _ _ _ _ _ _ _ qL_isSame_91 rfl ?_
            refine g_cV1i hC dL_isSame_94 mL_124 vX11_stayAt (kX11_stayAt0 hx hI0 (by omega) (by omega) (by decide) (by decide)) rfl hL.sX (by decide) rfl (Nat.le_of_ble_eq_true rfl) (RR rfl rfl rfl rfl) (fun z i94 => ?_)
            rw [stZ_6] at i94 ⊢
            refine gB hC _ _ _ _ _ _ _ qL_isSame_97 rfl ?_
            refine g_iald hC dL_isSame_100 (hL.ssR (by omega) (by omega)) (hL.t7 (by omega) (by omega)) (by omega) (by omega) (by decide) (fun i100 => ?_)
            refine gB hC _ _ _ _ _ _ _ qL_isSame_101 rfl ?_
            refine g_iald hC dL_isSame_103 (hL.ssR (by omega) (by omega)) (hL.t3 (by omega) (by omega)) (by omega) (by omega) (by decide) (fun i103 => ?_)
            refine gB hC _ _ _ _ _ _ _ qL_isSame_104 rfl ?_
            refine g_icmp_eq hC 110 dL_isSame_105 rfl (by first | omega | exact cmpZ_in _ _ | exact bI_in _) (by first | omega | exact cmpZ_in _ _ | exact bI_in _) (fun c105 => ?_) (fun c105 => ?_)
            · refine gB hC _ _ _ _ _ _ _ qL_isSame_110 rfl ?_
              refine ih (t + 1, _, _) _ (by show ((t + 1 : Nat) : Int) ≤ N 5; omega) (by show (N 5 - ((t + 1 : Nat) : Int)).toNat < (N 5 - t).toNat; omega)
            · exact absurd htx c105 --stop
          · refine gB hC _ _ _ _ _ _ _ qL_isSame_71 rfl ?_
            refine g_getr hC dL_isSame_72 fL_10 hL.sL (by decide) rfl 0 rfl hL.p0 ?_
            refine gB hC _ _ _ _ _ _ _ qL_isSame_75 rfl ?_
            refine g_cV1i hC dL_isSame_77 mL_124 vX11_stayAt (kX11_stayAt0 hx hI0 (by omega) (by omega) (by decide) (by decide)) rfl hL.sX (by decide) rfl (Nat.le_of_ble_eq_true rfl) (RR rfl rfl rfl rfl) (fun z i77 => ?_)
            rw [stZ_5] at i77 ⊢
            refine gB hC _ _ _ _ _ _ _ qL_isSame_80 rfl ?_
            refine g_iald hC dL_isSame_83 (hL.ssR (by omega) (by omega)) (hL.t6 (by omega) (by omega)) (by omega) (by omega) (by decide) (fun i83 => ?_)
            refine g_icmp_ne hC 108 dL_isSame_84 rfl (by first | omega | exact cmpZ_in _ _ | exact bI_in _) (by first | omega | exact cmpZ_in _ _ | exact bI_in _) (fun c84 => ?_) (fun c84 => ?_)
            · exact absurd rfl c84 --stop
            · refine gB hC _ _ _ _ _ _ _ qL_isSame_87 rfl ?_
              refine g_getr hC dL_isSame_88 fL_10 hL.sL (by decide) rfl 0 rfl hL.p0 ?_
              refine gB hC _ _ _ _ _ _ _ qL_isSame_91 rfl ?_
              refine g_cV1i hC dL_isSame_94 mL_124 vX11_stayAt (kX11_stayAt0 hx hI0 (by omega) (by omega) (by decide) (by decide)) rfl hL.sX (by decide) rfl (Nat.le_of_ble_eq_true rfl) (RR rfl rfl rfl rfl) (fun z i94 => ?_)
              rw [stZ_6] at i94 ⊢
              refine gB hC _ _ _ _ _ _ _ qL_isSame_97 rfl ?_
              refine g_iald hC dL_isSame_100 (hL.ssR (by omega) (by omega)) (hL.t7 (by omega) (by omega)) (by omega) (by omega) (by decide) (fun i100 => ?_)
              refine gB hC _ _ _ _ _ _ _ qL_isSame_101 rfl ?_
              refine g_iald hC dL_isSame_103 (hL.ssR (by omega) (by omega)) (hL.t3 (by omega) (by omega)) (by omega) (by omega) (by decide) (fun i103 => ?_)
              refine gB hC _ _ _ _ _ _ _ qL_isSame_104 rfl ?_
              refine g_icmp_eq hC 110 dL_isSame_105 rfl (by first | omega | exact cmpZ_in _ _ | exact bI_in _) (by first | omega | exact cmpZ_in _ _ | exact bI_in _) (fun c105 => ?_) (fun c105 => ?_)
              · refine gB hC _ _ _ _ _ _ _ qL_isSame_110 rfl ?_
                refine ih (t + 1, _, _) _ (by show ((t + 1 : Nat) : Int) ≤ N 5; omega) (by show (N 5 - ((t + 1 : Nat) : Int)).toNat < (N 5 - t).toNat; omega)
              · exact absurd htx c105 --stop
