/-! the law: rooms (rows laid by wip/p47/l15.py) -/
theorem kL_areRooms {E l Sh V z} {q w : Int} {N : gN0} {P9 : Int → gN0} {c9 : Int} {k0 : Int} (hx : XR (q + 2) N P9 c9 Sh V) (hL : LB q w N Sh V) (hW : LW q w N V) (hI0 : INV N) (hd : N 0 ≤ 8900) (h1 : N 1 = 2) (h2 : N 2 ≤ 1) (h3 : 0 ≤ k0 ∧ k0 < 2) : gM E l yL_areRooms (.code yL_areRooms cL_areRooms 8 (some .boolean)) (rmk 12 0 0 520) [(2, q), (0, k0)] Sh V z (gRe (some (0, 1)) (fun V' => XR (q + 2) N P9 c9 Sh V' ∧ LB q w N Sh V' ∧ LW q w N V') Sh) := by
  refine gM_at (L0 := [(2, q), (0, k0), (9, 0), (9, 0), (9, 0), (9, 0), (9, 0), (9, 0)]) rfl rfl rfl ?_
  intro p e s m args below meth c hC hr hex hnm hz
  have hI := hI0.1
  have hsc := hI.1
  unfold iScal at hsc
  have hko := hI.2.1 k0 h3.1 (by omega)
  unfold kOk at hko
  have hqw := hL.a0
  refine gB hC _ _ _ _ _ _ _ qL_areRooms_0 rfl ?_
  refine g_loop (fun x : gV × Nat × Int × aV × aV × aV => LB q w N Sh x.1 ∧ LW q w N x.1 ∧ XR (q + 2) N P9 c9 Sh x.1 ∧ (x.2.1 : Int) ≤ N 5 ∧ x.2.2.1 = moN N k0 0 36524 x.2.1) (fun x => (N 5 - x.2.1).toNat) 7 (fun x => [(2, q), (0, k0), (0, x.2.2.1), (0, (erI N (rhA N k0) k0 x.2.1).2), (0, (x.2.1 : Int)), x.2.2.2.1, x.2.2.2.2.1, x.2.2.2.2.2]) (fun x => x.1) (V, 0, 0, (9, 0), (9, 0), (9, 0)) ⟨hL, hW, hx, by show (0 : Int) ≤ N 5; omega, (cnt_00 hI k0).symm⟩ ?_
  rintro ⟨V1, t, mo, a5, a6, a7⟩ z ⟨hL1, hW1, hx1, ht, hmo9⟩ ih7
  dsimp only at hL1 hW1 hx1 ht hmo9 ih7 ⊢
  subst hmo9
  have her := erI_in N (rhA N k0) k0 t
  have hmo := moN_in hI k0 0 36524 t
  refine gB hC _ _ _ _ _ _ _ qL_areRooms_7 rfl ?_
  refine g_getiv hC dL_areRooms_10 fL_56 hL1.sL (by decide) rfl 17 rfl hL1.v17 (fun i10 => ?_)
  refine g_icmp_ge hC 212 dL_areRooms_13 rfl (by first | omega | exact cmpZ_in _ _ | exact bI_in _) (by first | omega | exact cmpZ_in _ _ | exact bI_in _) (fun c13 => ?_) (fun c13 => ?_)
  · obtain rfl : t = (N 5).toNat := by omega
    have hwo := (er_all (k := k0) hI (by omega)).symm.trans (er_mo hI (by omega) (rhA N k0))
    refine gB hC _ _ _ _ _ _ _ qL_areRooms_212 rfl ?_
    refine g_getiv hC dL_areRooms_213 fL_114 hL1.sL (by decide) rfl 4 rfl hL1.v4 (fun i213 => ?_)
    refine gB hC _ _ _ _ _ _ _ qL_areRooms_216 rfl ?_
    refine g_getr hC dL_areRooms_217 fL_52 hL1.sL (by decide) rfl 1 rfl hL1.p1 ?_
    refine gB hC _ _ _ _ _ _ _ qL_areRooms_220 rfl ?_
    refine g_dice hC dL_areRooms_222 mL_147 vX12_next (kX12_next hL1.sD (by omega) (by omega)) rfl hL1.sD (by decide) rfl (Nat.le_of_ble_eq_true rfl) (RR rfl rfl rfl rfl) (fun zd222 y222 s222 V222 l222 u222 e222 => ?_)
    have hL222 := LB_dc (by omega) hL1 e222
    have hW222 := LW_dc (by omega) hL1 e222 hW1
    have hx222 := XR_dc (w := w) hx1 hI0 e222
    have hdd := dayZ_dateZ (d := 8822 + (N 0 - 8822 + y222)) (by omega) (by omega)
    have hdn : dayZ (dateZ (8822 + (N 0 - 8822 + y222))) ≠ -1 := by rw [hdd]; omega
    have hdz := dateZ_in (d := 8822 + (N 0 - 8822 + y222)) (by omega) (by omega)
    refine gB hC _ _ _ _ _ _ _ qL_areRooms_225 rfl ?_
    refine g_getr hC dL_areRooms_229 fL_10 hL222.sL (by decide) rfl 0 rfl hL222.p0 ?_
    refine gB hC _ _ _ _ _ _ _ qL_areRooms_232 rfl ?_
    refine g_cV1i hC dL_areRooms_233 mL_152 vX11_needed (kX11_needed0 hx222 hI0 (by omega) (by omega)) rfl hL222.sX (by decide) rfl (Nat.le_of_ble_eq_true rfl) (RR rfl rfl rfl rfl) (fun z i233 => ?_)
    refine gB hC _ _ _ _ _ _ _ qL_areRooms_236 rfl ?_
    refine g_icmp_ne hC 313 dL_areRooms_237 rfl (by first | omega | exact cmpZ_in _ _ | exact bI_in _) (by first | omega | exact cmpZ_in _ _ | exact bI_in _) (fun c237 => ?_) (fun c237 => ?_)
    · exact absurd rfl c237 --stop
    · refine gB hC _ _ _ _ _ _ _ qL_areRooms_240 rfl ?_
      refine g_getr hC dL_areRooms_243 fL_23 hL222.sL (by decide) rfl 5 rfl hL222.p5 ?_
      refine gB hC _ _ _ _ _ _ _ qL_areRooms_246 rfl ?_
      refine g_iald hC dL_areRooms_247 hL222.srm (hL222.k0 (by omega) (by omega)) (by omega) (by omega) (by decide) (fun i247 => ?_)
      refine g_icmp_le hC 255 dL_areRooms_248 rfl (by first | omega | exact cmpZ_in _ _ | exact bI_in _) (by first | omega | exact cmpZ_in _ _ | exact bI_in _) (fun c248 => ?_) (fun c248 => ?_)
      · refine gB hC _ _ _ _ _ _ _ qL_areRooms_255 rfl ?_
        refine g_icmp_ne hC 313 dL_areRooms_256 rfl (by first | omega | exact cmpZ_in _ _ | exact bI_in _) (by first | omega | exact cmpZ_in _ _ | exact bI_in _) (fun c256 => ?_) (fun c256 => ?_)
        · exact absurd (by rw [hwo]; first | rw [bI_t (by omega)] | rw [bI_f (by omega)]) c256 --stop
        · refine gB hC _ _ _ _ _ _ _ qL_areRooms_259 rfl ?_
          refine g_getr hC dL_areRooms_260 fL_10 hL222.sL (by decide) rfl 0 rfl hL222.p0 ?_
          refine gB hC _ _ _ _ _ _ _ qL_areRooms_263 rfl ?_
          refine g_getr hC dL_areRooms_265 fL_16 hL222.sL (by decide) rfl 2 rfl hL222.p2 ?_
          refine gB hC _ _ _ _ _ _ _ qL_areRooms_268 rfl ?_
          refine g_iald hC dL_areRooms_270 hL222.sdt (hL222.dt (by omega) (by omega)) (by omega) (by omega) (by decide) (fun i270 => ?_)
          refine g_cV1i hC dL_areRooms_271 mL_155 vX11_count (kX11_count0 hx222 hI0 (by omega) (by omega) (by omega) hdn) rfl hL222.sX (by decide) rfl (Nat.le_of_ble_eq_true rfl) (RR rfl rfl rfl rfl) (fun z i271 => ?_)
          rw [hdd] at i271 ⊢
          refine gB hC _ _ _ _ _ _ _ qL_areRooms_274 rfl ?_
          refine g_cV1i hC dL_areRooms_278 mL_77 vL_count (kL_count hL222 hI (by omega) (by omega)) rfl hL222.sL (by decide) rfl (Nat.le_of_ble_eq_true rfl) (RR rfl rfl rfl rfl) (fun z i278 => ?_)
          refine g_icmp_ne hC 313 dL_areRooms_281 rfl (by first | omega | exact cmpZ_in _ _ | exact bI_in _) (by first | omega | exact cmpZ_in _ _ | exact bI_in _) (fun c281 => ?_) (fun c281 => ?_)
          · exact absurd rfl c281 --stop
          · refine gB hC _ _ _ _ _ _ _ qL_areRooms_284 rfl ?_
            refine g_getr hC dL_areRooms_285 fL_10 hL222.sL (by decide) rfl 0 rfl hL222.p0 ?_
            refine gB hC _ _ _ _ _ _ _ qL_areRooms_288 rfl ?_
            refine g_getr hC dL_areRooms_290 fL_16 hL222.sL (by decide) rfl 2 rfl hL222.p2 ?_
            refine gB hC _ _ _ _ _ _ _ qL_areRooms_293 rfl ?_
            refine g_iald hC dL_areRooms_295 hL222.sdt (hL222.dt (by omega) (by omega)) (by omega) (by omega) (by decide) (fun i295 => ?_)
            refine g_cV1i hC dL_areRooms_296 mL_156 vX11_priceOf (kX11_priceOf0 hx222 hI0 (by omega) (by omega) (by omega) hdn) rfl hL222.sX (by decide) rfl (Nat.le_of_ble_eq_true rfl) (RR rfl rfl rfl rfl) (fun z i296 => ?_)
            rw [hdd] at i296 ⊢
            refine gB hC _ _ _ _ _ _ _ qL_areRooms_299 rfl ?_
            refine g_cV1i hC dL_areRooms_303 mL_99 vL_price (kL_price hL222 hI (by omega) (by omega) (by omega) (by omega) (by omega)) rfl hL222.sL (by decide) rfl (Nat.le_of_ble_eq_true rfl) (RR rfl rfl rfl rfl) (fun z i303 => ?_)
            refine g_icmp_ne hC 313 dL_areRooms_306 rfl (by first | omega | exact cmpZ_in _ _ | exact bI_in _) (by first | omega | exact cmpZ_in _ _ | exact bI_in _) (fun c306 => ?_) (fun c306 => ?_)
            · exact absurd rfl c306 --stop
            · refine gB hC _ _ _ _ _ _ _ qL_areRooms_309 rfl ?_
              refine g_zreturn hC dL_areRooms_314 hr ?_ ⟨rfl, rfl, ?_⟩ gs_rfl ⟨Nat.le_of_ble_eq_true rfl, Nat.le_of_ble_eq_true rfl⟩
              exact Or.inr rfl
              exact ⟨hx222, hL222, hW222⟩
      · refine gB hC _ _ _ _ _ _ _ qL_areRooms_251 rfl ?_
        refine g_icmp_ne hC 313 dL_areRooms_256 rfl (by first | omega | exact cmpZ_in _ _ | exact bI_in _) (by first | omega | exact cmpZ_in _ _ | exact bI_in _) (fun c256 => ?_) (fun c256 => ?_)
        · exact absurd (by rw [hwo]; first | rw [bI_t (by omega)] | rw [bI_f (by omega)]) c256 --stop
        · refine gB hC _ _ _ _ _ _ _ qL_areRooms_259 rfl ?_
          refine g_getr hC dL_areRooms_260 fL_10 hL222.sL (by decide) rfl 0 rfl hL222.p0 ?_
          refine gB hC _ _ _ _ _ _ _ qL_areRooms_263 rfl ?_
          refine g_getr hC dL_areRooms_265 fL_16 hL222.sL (by decide) rfl 2 rfl hL222.p2 ?_
          refine gB hC _ _ _ _ _ _ _ qL_areRooms_268 rfl ?_
          refine g_iald hC dL_areRooms_270 hL222.sdt (hL222.dt (by omega) (by omega)) (by omega) (by omega) (by decide) (fun i270 => ?_)
          refine g_cV1i hC dL_areRooms_271 mL_155 vX11_count (kX11_count0 hx222 hI0 (by omega) (by omega) (by omega) hdn) rfl hL222.sX (by decide) rfl (Nat.le_of_ble_eq_true rfl) (RR rfl rfl rfl rfl) (fun z i271 => ?_)
          rw [hdd] at i271 ⊢
          refine gB hC _ _ _ _ _ _ _ qL_areRooms_274 rfl ?_
          refine g_cV1i hC dL_areRooms_278 mL_77 vL_count (kL_count hL222 hI (by omega) (by omega)) rfl hL222.sL (by decide) rfl (Nat.le_of_ble_eq_true rfl) (RR rfl rfl rfl rfl) (fun z i278 => ?_)
          refine g_icmp_ne hC 313 dL_areRooms_281 rfl (by first | omega | exact cmpZ_in _ _ | exact bI_in _) (by first | omega | exact cmpZ_in _ _ | exact bI_in _) (fun c281 => ?_) (fun c281 => ?_)
          · exact absurd rfl c281 --stop
          · refine gB hC _ _ _ _ _ _ _ qL_areRooms_284 rfl ?_
            refine g_getr hC dL_areRooms_285 fL_10 hL222.sL (by decide) rfl 0 rfl hL222.p0 ?_
            refine gB hC _ _ _ _ _ _ _ qL_areRooms_288 rfl ?_
            refine g_getr hC dL_areRooms_290 fL_16 hL222.sL (by decide) rfl 2 rfl hL222.p2 ?_
            refine gB hC _ _ _ _ _ _ _ qL_areRooms_293 rfl ?_
            refine g_iald hC dL_areRooms_295 hL222.sdt (hL222.dt (by omega) (by omega)) (by omega) (by omega) (by decide) (fun i295 => ?_)
            refine g_cV1i hC dL_areRooms_296 mL_156 vX11_priceOf (kX11_priceOf0 hx222 hI0 (by omega) (by omega) (by omega) hdn) rfl hL222.sX (by decide) rfl (Nat.le_of_ble_eq_true rfl) (RR rfl rfl rfl rfl) (fun z i296 => ?_)
            rw [hdd] at i296 ⊢
            refine gB hC _ _ _ _ _ _ _ qL_areRooms_299 rfl ?_
            refine g_cV1i hC dL_areRooms_303 mL_99 vL_price (kL_price hL222 hI (by omega) (by omega) (by omega) (by omega) (by omega)) rfl hL222.sL (by decide) rfl (Nat.le_of_ble_eq_true rfl) (RR rfl rfl rfl rfl) (fun z i303 => ?_)
            refine g_icmp_ne hC 313 dL_areRooms_306 rfl (by first | omega | exact cmpZ_in _ _ | exact bI_in _) (by first | omega | exact cmpZ_in _ _ | exact bI_in _) (fun c306 => ?_) (fun c306 => ?_)
            · exact absurd rfl c306 --stop
            · refine gB hC _ _ _ _ _ _ _ qL_areRooms_309 rfl ?_
              refine g_zreturn hC dL_areRooms_314 hr ?_ ⟨rfl, rfl, ?_⟩ gs_rfl ⟨Nat.le_of_ble_eq_true rfl, Nat.le_of_ble_eq_true rfl⟩
              exact Or.inr rfl
              exact ⟨hx222, hL222, hW222⟩
  · have hso := (hI.2.2.2.1 t (by omega) (by omega)).1
    refine gB hC _ _ _ _ _ _ _ qL_areRooms_16 rfl ?_
    refine g_cV1 hC dL_areRooms_19 mL_60 vL_isAlive (kL_isAlive hL1 hI (by omega) (by omega)) rfl hL1.sL (by decide) rfl (Nat.le_of_ble_eq_true rfl) (RR rfl rfl rfl rfl) (fun z => ?_)
    refine g_if_eq hC 206 dL_areRooms_22 rfl (by first | omega | exact cmpZ_in _ _ | exact bI_in _) (fun c22 => ?_) (fun c22 => ?_)
    · have c22 := bI_0.mp c22
      refine gB hC _ _ _ _ _ _ _ qL_areRooms_206 rfl ?_
      have hmn : moN N k0 0 36524 t = moN N k0 0 36524 (t + 1) := by rw [moN, if_neg (fun h => by omega)]
      have h9 := fun z a b d => ih7 (V1, t + 1, moN N k0 0 36524 t, a, b, d) z ⟨hL1, hW1, hx1, by show ((t + 1 : Nat) : Int) ≤ N 5; omega, hmn⟩ (by show (N 5 - ((t + 1 : Nat) : Int)).toNat < (N 5 - t).toNat; omega)
      have hen : (erI N (rhA N k0) k0 (t + 1)).2 = (erI N (rhA N k0) k0 t).2 := by rw [erI, if_neg (fun h => by omega)]
      simp only [hen] at h9
      exact h9 _ _ _ _
    · have c22 := bI_n0.mp c22
      refine gB hC _ _ _ _ _ _ _ qL_areRooms_25 rfl ?_
      refine g_getr hC dL_areRooms_26 fL_39 hL1.sL (by decide) rfl 15 rfl hL1.p15 ?_
      refine gB hC _ _ _ _ _ _ _ qL_areRooms_29 rfl ?_
      refine g_aald hC (j := 8) dL_areRooms_31 hL1.ssO (by decide) (hL1.ps (by omega) (by omega)) (by omega) (by omega) (by decide) ?_
      refine gB hC _ _ _ _ _ _ _ qL_areRooms_32 rfl ?_
      refine g_iald hC dL_areRooms_33 (hL1.ssR (by omega) (by omega)) (hL1.t1 (by omega) (by omega)) (by omega) (by omega) (by decide) (fun i33 => ?_)
      refine gB hC _ _ _ _ _ _ _ qL_areRooms_34 rfl ?_
      refine g_icmp_eq hC 41 dL_areRooms_35 rfl (by first | omega | exact cmpZ_in _ _ | exact bI_in _) (by first | omega | exact cmpZ_in _ _ | exact bI_in _) (fun c35 => ?_) (fun c35 => ?_)
      · refine gB hC _ _ _ _ _ _ _ qL_areRooms_41 rfl ?_
        refine g_getr hC dL_areRooms_45 fL_39 hL1.sL (by decide) rfl 15 rfl hL1.p15 ?_
        refine gB hC _ _ _ _ _ _ _ qL_areRooms_48 rfl ?_
        refine g_aald hC (j := 8) dL_areRooms_50 hL1.ssO (by decide) (hL1.ps (by omega) (by omega)) (by omega) (by omega) (by decide) ?_
        refine gB hC _ _ _ _ _ _ _ qL_areRooms_51 rfl ?_
        refine g_iald hC dL_areRooms_52 (hL1.ssR (by omega) (by omega)) (hL1.t2 (by omega) (by omega)) (by omega) (by omega) (by decide) (fun i52 => ?_)
        refine g_cV1i hC dL_areRooms_53 mL_77 vL_count (kL_count hL1 hI (by omega) (by omega)) rfl hL1.sL (by decide) rfl (Nat.le_of_ble_eq_true rfl) (RR rfl rfl rfl rfl) (fun z i53 => ?_)
        rw [show (8822 : Int) + (sF N t 2 - 8822) = sF N t 2 by omega] at i53 ⊢
        refine g_max hC dL_areRooms_56 mL_94 (by first | omega | exact cmpZ_in _ _ | exact bI_in _) (by first | omega | exact cmpZ_in _ _ | exact bI_in _) ⟨Nat.le_of_ble_eq_true rfl, Nat.le_of_ble_eq_true rfl, Nat.le_of_ble_eq_true rfl, Nat.le_of_ble_eq_true rfl⟩ ?_
        refine gB hC _ _ _ _ _ _ _ qL_areRooms_59 rfl ?_
        refine g_getr hC dL_areRooms_61 fL_10 hL1.sL (by decide) rfl 0 rfl hL1.p0 ?_
        refine gB hC _ _ _ _ _ _ _ qL_areRooms_64 rfl ?_
        refine g_cV1e hC dL_areRooms_66 mL_144 vX11_roomOf (kX11_roomOf0 hx1 hI0 (by omega) (by omega) c22) rfl hL1.sX (by decide) rfl (Nat.le_of_ble_eq_true rfl) (RR rfl rfl rfl rfl) (fun z V66 e66 => ?_)
        rw [c35]
        refine g_st0 (rhA N k0 t) rfl ?_
        have hrr66 := rhA_in N (k := k0) (by omega) t
        have hx66 := e66.1
        have hL66 := LB_x (by omega) hL1 e66.2
        have hW66 := LW_x (by omega) hL1 e66.2 hW1
        refine gB hC _ _ _ _ _ _ _ qL_areRooms_69 rfl ?_
        refine g_if_ne hC 80 dL_areRooms_72 rfl (by first | omega | exact cmpZ_in _ _ | exact bI_in _) (fun c72 => ?_) (fun c72 => ?_)
        · refine gB hC _ _ _ _ _ _ _ qL_areRooms_80 rfl ?_
          refine g_st0 ((erI N (rhA N k0) k0 (t + 1)).2) (by rw [erI, if_pos ⟨c22, c35⟩]; show _ = if _ then (1 : Int) else 0; first | (rw [if_pos (by omega)]; done) | (rw [if_neg (by omega)]; done)) ?_
          refine gB hC _ _ _ _ _ _ _ qL_areRooms_85 rfl ?_
          refine g_getr hC dL_areRooms_89 fL_23 hL66.sL (by decide) rfl 5 rfl hL66.p5 ?_
          refine gB hC _ _ _ _ _ _ _ qL_areRooms_92 rfl ?_
          refine g_iald hC dL_areRooms_93 hL66.srm (hL66.k0 (by omega) (by omega)) (by omega) (by omega) (by decide) (fun i93 => ?_)
          refine g_icmp_lt hC 99 dL_areRooms_94 rfl (by first | omega | exact cmpZ_in _ _ | exact bI_in _) (by first | omega | exact cmpZ_in _ _ | exact bI_in _) (fun c94 => ?_) (fun c94 => ?_)
          · refine gB hC _ _ _ _ _ _ _ qL_areRooms_99 rfl ?_
            refine g_loop (fun x : gV × Nat × aV => LB q w N Sh x.1 ∧ LW q w N x.1 ∧ XR (q + 2) N P9 c9 Sh x.1 ∧ (x.2.1 : Int) ≤ t) (fun x => t - x.2.1) 102 (fun x => [(2, q), (0, k0), (0, max (moN N k0 0 36524 t) (cnt N k0 (sF N t 2))), (0, (erI N (rhA N k0) k0 (t + 1)).2), (0, (t : Int)), (0, rhA N k0 t), (0, (x.2.1 : Int)), x.2.2]) (fun x => x.1) (V66, 0, a7) ⟨hL66, hW66, hx66, by show (0 : Int) ≤ t; omega⟩ ?_
            rintro ⟨V2, u, b7⟩ z ⟨hL2, hW2, hx2, hu⟩ ih102
            dsimp only at hL2 hW2 hx2 hu ih102 ⊢
            refine gB hC _ _ _ _ _ _ _ qL_areRooms_102 rfl ?_
            refine g_icmp_ge hC 206 dL_areRooms_106 rfl (by first | omega | exact cmpZ_in _ _ | exact bI_in _) (by first | omega | exact cmpZ_in _ _ | exact bI_in _) (fun c106 => ?_) (fun c106 => ?_)
            · refine gB hC _ _ _ _ _ _ _ qL_areRooms_206 rfl ?_
              have hmn : max (moN N k0 0 36524 t) (cnt N k0 (sF N t 2)) = moN N k0 0 36524 (t + 1) := by rw [moN, if_pos ⟨c22, c35, by omega, by omega⟩]
              have h9 := fun z a b d => ih7 (V2, t + 1, max (moN N k0 0 36524 t) (cnt N k0 (sF N t 2)), a, b, d) z ⟨hL2, hW2, hx2, by show ((t + 1 : Nat) : Int) ≤ N 5; omega, hmn⟩ (by show (N 5 - ((t + 1 : Nat) : Int)).toNat < (N 5 - t).toNat; omega)
              exact h9 _ _ _ _
            · have hsu := (hI.2.2.2.1 u (by omega) (by omega)).1
              refine gB hC _ _ _ _ _ _ _ qL_areRooms_109 rfl ?_
              refine g_cV1 hC dL_areRooms_112 mL_60 vL_isAlive (kL_isAlive hL2 hI (by omega) (by omega)) rfl hL2.sL (by decide) rfl (Nat.le_of_ble_eq_true rfl) (RR rfl rfl rfl rfl) (fun z => ?_)
              refine g_if_eq hC 171 dL_areRooms_115 rfl (by first | omega | exact cmpZ_in _ _ | exact bI_in _) (fun c115 => ?_) (fun c115 => ?_)
              · have c115 := bI_0.mp c115
                refine gB hC _ _ _ _ _ _ _ qL_areRooms_171 rfl ?_
                refine gB hC _ _ _ _ _ _ _ qL_areRooms_172 rfl ?_
                refine g_if_eq hC 200 dL_areRooms_176 rfl (by first | omega | exact cmpZ_in _ _ | exact bI_in _) (fun c176 => ?_) (fun c176 => ?_)
                · refine gB hC _ _ _ _ _ _ _ qL_areRooms_200 rfl ?_
                  exact ih102 (V2, u + 1, _) _ ⟨hL2, hW2, hx2, by show ((u + 1 : Nat) : Int) ≤ t; omega⟩ (by show t - (u + 1) < t - u; omega)
                · exact absurd c176 (by decide)
              · have c115 := bI_n0.mp c115
                refine gB hC _ _ _ _ _ _ _ qL_areRooms_118 rfl ?_
                refine g_getr hC dL_areRooms_119 fL_39 hL2.sL (by decide) rfl 15 rfl hL2.p15 ?_
                refine gB hC _ _ _ _ _ _ _ qL_areRooms_122 rfl ?_
                refine g_aald hC (j := 8) dL_areRooms_124 hL2.ssO (by decide) (hL2.ps (by omega) (by omega)) (by omega) (by omega) (by decide) ?_
                refine gB hC _ _ _ _ _ _ _ qL_areRooms_125 rfl ?_
                refine g_iald hC dL_areRooms_126 (hL2.ssR (by omega) (by omega)) (hL2.t1 (by omega) (by omega)) (by omega) (by omega) (by decide) (fun i126 => ?_)
                refine gB hC _ _ _ _ _ _ _ qL_areRooms_127 rfl ?_
                refine g_icmp_ne hC 171 dL_areRooms_128 rfl (by first | omega | exact cmpZ_in _ _ | exact bI_in _) (by first | omega | exact cmpZ_in _ _ | exact bI_in _) (fun c128 => ?_) (fun c128 => ?_)
                · refine gB hC _ _ _ _ _ _ _ qL_areRooms_171 rfl ?_
                  refine gB hC _ _ _ _ _ _ _ qL_areRooms_172 rfl ?_
                  refine g_if_eq hC 200 dL_areRooms_176 rfl (by first | omega | exact cmpZ_in _ _ | exact bI_in _) (fun c176 => ?_) (fun c176 => ?_)
                  · refine gB hC _ _ _ _ _ _ _ qL_areRooms_200 rfl ?_
                    exact ih102 (V2, u + 1, _) _ ⟨hL2, hW2, hx2, by show ((u + 1 : Nat) : Int) ≤ t; omega⟩ (by show t - (u + 1) < t - u; omega)
                  · exact absurd c176 (by decide)
                · refine gB hC _ _ _ _ _ _ _ qL_areRooms_131 rfl ?_
                  refine g_getr hC dL_areRooms_132 fL_39 hL2.sL (by decide) rfl 15 rfl hL2.p15 ?_
                  refine gB hC _ _ _ _ _ _ _ qL_areRooms_135 rfl ?_
                  refine g_aald hC (j := 8) dL_areRooms_137 hL2.ssO (by decide) (hL2.ps (by omega) (by omega)) (by omega) (by omega) (by decide) ?_
                  refine gB hC _ _ _ _ _ _ _ qL_areRooms_138 rfl ?_
                  refine g_iald hC dL_areRooms_139 (hL2.ssR (by omega) (by omega)) (hL2.t2 (by omega) (by omega)) (by omega) (by omega) (by decide) (fun i139 => ?_)
                  refine gB hC _ _ _ _ _ _ _ qL_areRooms_140 rfl ?_
                  refine g_cV1i hC dL_areRooms_143 mL_64 vL_last (kL_last hL2 hI (by omega) (by omega)) rfl hL2.sL (by decide) rfl (Nat.le_of_ble_eq_true rfl) (RR rfl rfl rfl rfl) (fun z i143 => ?_)
                  refine g_icmp_gt hC 171 dL_areRooms_146 rfl (by first | omega | exact cmpZ_in _ _ | exact bI_in _) (by first | omega | exact cmpZ_in _ _ | exact bI_in _) (fun c146 => ?_) (fun c146 => ?_)
                  · refine gB hC _ _ _ _ _ _ _ qL_areRooms_171 rfl ?_
                    refine gB hC _ _ _ _ _ _ _ qL_areRooms_172 rfl ?_
                    refine g_if_eq hC 200 dL_areRooms_176 rfl (by first | omega | exact cmpZ_in _ _ | exact bI_in _) (fun c176 => ?_) (fun c176 => ?_)
                    · refine gB hC _ _ _ _ _ _ _ qL_areRooms_200 rfl ?_
                      exact ih102 (V2, u + 1, _) _ ⟨hL2, hW2, hx2, by show ((u + 1 : Nat) : Int) ≤ t; omega⟩ (by show t - (u + 1) < t - u; omega)
                    · exact absurd c176 (by decide)
                  · refine gB hC _ _ _ _ _ _ _ qL_areRooms_149 rfl ?_
                    refine g_getr hC dL_areRooms_150 fL_39 hL2.sL (by decide) rfl 15 rfl hL2.p15 ?_
                    refine gB hC _ _ _ _ _ _ _ qL_areRooms_153 rfl ?_
                    refine g_aald hC (j := 8) dL_areRooms_155 hL2.ssO (by decide) (hL2.ps (by omega) (by omega)) (by omega) (by omega) (by decide) ?_
                    refine gB hC _ _ _ _ _ _ _ qL_areRooms_156 rfl ?_
                    refine g_iald hC dL_areRooms_157 (hL2.ssR (by omega) (by omega)) (hL2.t2 (by omega) (by omega)) (by omega) (by omega) (by decide) (fun i157 => ?_)
                    refine gB hC _ _ _ _ _ _ _ qL_areRooms_158 rfl ?_
                    refine g_cV1i hC dL_areRooms_161 mL_64 vL_last (kL_last hL2 hI (by omega) (by omega)) rfl hL2.sL (by decide) rfl (Nat.le_of_ble_eq_true rfl) (RR rfl rfl rfl rfl) (fun z i161 => ?_)
                    refine g_icmp_gt hC 171 dL_areRooms_164 rfl (by first | omega | exact cmpZ_in _ _ | exact bI_in _) (by first | omega | exact cmpZ_in _ _ | exact bI_in _) (fun c164 => ?_) (fun c164 => ?_)
                    · refine gB hC _ _ _ _ _ _ _ qL_areRooms_171 rfl ?_
                      refine gB hC _ _ _ _ _ _ _ qL_areRooms_172 rfl ?_
                      refine g_if_eq hC 200 dL_areRooms_176 rfl (by first | omega | exact cmpZ_in _ _ | exact bI_in _) (fun c176 => ?_) (fun c176 => ?_)
                      · refine gB hC _ _ _ _ _ _ _ qL_areRooms_200 rfl ?_
                        exact ih102 (V2, u + 1, _) _ ⟨hL2, hW2, hx2, by show ((u + 1 : Nat) : Int) ≤ t; omega⟩ (by show t - (u + 1) < t - u; omega)
                      · exact absurd c176 (by decide)
                    · refine gB hC _ _ _ _ _ _ _ qL_areRooms_167 rfl ?_
                      refine gB hC _ _ _ _ _ _ _ qL_areRooms_172 rfl ?_
                      refine g_if_eq hC 200 dL_areRooms_176 rfl (by first | omega | exact cmpZ_in _ _ | exact bI_in _) (fun c176 => ?_) (fun c176 => ?_)
                      · exact absurd c176 (by decide)
                      · refine gB hC _ _ _ _ _ _ _ qL_areRooms_179 rfl ?_
                        refine g_if_lt hC 200 dL_areRooms_181 rfl (by first | omega | exact cmpZ_in _ _ | exact bI_in _) (fun c181 => ?_) (fun c181 => ?_)
                        · refine gB hC _ _ _ _ _ _ _ qL_areRooms_200 rfl ?_
                          exact ih102 (V2, u + 1, _) _ ⟨hL2, hW2, hx2, by show ((u + 1 : Nat) : Int) ≤ t; omega⟩ (by show t - (u + 1) < t - u; omega)
                        · refine gB hC _ _ _ _ _ _ _ qL_areRooms_184 rfl ?_
                          refine g_getr hC dL_areRooms_185 fL_10 hL2.sL (by decide) rfl 0 rfl hL2.p0 ?_
                          refine gB hC _ _ _ _ _ _ _ qL_areRooms_188 rfl ?_
                          refine g_cV1e hC dL_areRooms_190 mL_144 vX11_roomOf (kX11_roomOf0 hx2 hI0 (by omega) (by omega) c115) rfl hL2.sX (by decide) rfl (Nat.le_of_ble_eq_true rfl) (RR rfl rfl rfl rfl) (fun z V190 e190 => ?_)
                          rw [c128]
                          refine g_st0 (rhA N k0 u) rfl ?_
                          have hrr190 := rhA_in N (k := k0) (by omega) u
                          have hx190 := e190.1
                          have hL190 := LB_x (by omega) hL2 e190.2
                          have hW190 := LW_x (by omega) hL2 e190.2 hW2
                          refine gB hC _ _ _ _ _ _ _ qL_areRooms_193 rfl ?_
                          refine g_icmp_ne hC 200 dL_areRooms_195 rfl (by first | omega | exact cmpZ_in _ _ | exact bI_in _) (by first | omega | exact cmpZ_in _ _ | exact bI_in _) (fun c195 => ?_) (fun c195 => ?_)
                          · refine gB hC _ _ _ _ _ _ _ qL_areRooms_200 rfl ?_
                            exact ih102 (V190, u + 1, _) _ ⟨hL190, hW190, hx190, by show ((u + 1 : Nat) : Int) ≤ t; omega⟩ (by show t - (u + 1) < t - u; omega)
                          · exact absurd (rhA_un hI (by omega : (u : Int) ≠ t) c195 (by omega) (by omega) (by omega) (by omega) (by omega)) (fun h => h) --stop
          · exact absurd c94 (by omega) --stop
        · refine gB hC _ _ _ _ _ _ _ qL_areRooms_75 rfl ?_
          refine g_if_ge hC 84 dL_areRooms_77 rfl (by first | omega | exact cmpZ_in _ _ | exact bI_in _) (fun c77 => ?_) (fun c77 => ?_)
          · refine gB hC _ _ _ _ _ _ _ qL_areRooms_84 rfl ?_
            refine g_st0 ((erI N (rhA N k0) k0 (t + 1)).2) (by rw [erI, if_pos ⟨c22, c35⟩]; show _ = if _ then (1 : Int) else 0; first | (rw [if_pos (by omega)]; done) | (rw [if_neg (by omega)]; done)) ?_
            refine gB hC _ _ _ _ _ _ _ qL_areRooms_85 rfl ?_
            refine g_getr hC dL_areRooms_89 fL_23 hL66.sL (by decide) rfl 5 rfl hL66.p5 ?_
            refine gB hC _ _ _ _ _ _ _ qL_areRooms_92 rfl ?_
            refine g_iald hC dL_areRooms_93 hL66.srm (hL66.k0 (by omega) (by omega)) (by omega) (by omega) (by decide) (fun i93 => ?_)
            refine g_icmp_lt hC 99 dL_areRooms_94 rfl (by first | omega | exact cmpZ_in _ _ | exact bI_in _) (by first | omega | exact cmpZ_in _ _ | exact bI_in _) (fun c94 => ?_) (fun c94 => ?_)
            · refine gB hC _ _ _ _ _ _ _ qL_areRooms_99 rfl ?_
              refine g_loop (fun x : gV × Nat × aV => LB q w N Sh x.1 ∧ LW q w N x.1 ∧ XR (q + 2) N P9 c9 Sh x.1 ∧ (x.2.1 : Int) ≤ t) (fun x => t - x.2.1) 102 (fun x => [(2, q), (0, k0), (0, max (moN N k0 0 36524 t) (cnt N k0 (sF N t 2))), (0, (erI N (rhA N k0) k0 (t + 1)).2), (0, (t : Int)), (0, rhA N k0 t), (0, (x.2.1 : Int)), x.2.2]) (fun x => x.1) (V66, 0, a7) ⟨hL66, hW66, hx66, by show (0 : Int) ≤ t; omega⟩ ?_
              rintro ⟨V2, u, b7⟩ z ⟨hL2, hW2, hx2, hu⟩ ih102
              dsimp only at hL2 hW2 hx2 hu ih102 ⊢
              refine gB hC _ _ _ _ _ _ _ qL_areRooms_102 rfl ?_
              refine g_icmp_ge hC 206 dL_areRooms_106 rfl (by first | omega | exact cmpZ_in _ _ | exact bI_in _) (by first | omega | exact cmpZ_in _ _ | exact bI_in _) (fun c106 => ?_) (fun c106 => ?_)
              · refine gB hC _ _ _ _ _ _ _ qL_areRooms_206 rfl ?_
                have hmn : max (moN N k0 0 36524 t) (cnt N k0 (sF N t 2)) = moN N k0 0 36524 (t + 1) := by rw [moN, if_pos ⟨c22, c35, by omega, by omega⟩]
                have h9 := fun z a b d => ih7 (V2, t + 1, max (moN N k0 0 36524 t) (cnt N k0 (sF N t 2)), a, b, d) z ⟨hL2, hW2, hx2, by show ((t + 1 : Nat) : Int) ≤ N 5; omega, hmn⟩ (by show (N 5 - ((t + 1 : Nat) : Int)).toNat < (N 5 - t).toNat; omega)
                exact h9 _ _ _ _
              · have hsu := (hI.2.2.2.1 u (by omega) (by omega)).1
                refine gB hC _ _ _ _ _ _ _ qL_areRooms_109 rfl ?_
                refine g_cV1 hC dL_areRooms_112 mL_60 vL_isAlive (kL_isAlive hL2 hI (by omega) (by omega)) rfl hL2.sL (by decide) rfl (Nat.le_of_ble_eq_true rfl) (RR rfl rfl rfl rfl) (fun z => ?_)
                refine g_if_eq hC 171 dL_areRooms_115 rfl (by first | omega | exact cmpZ_in _ _ | exact bI_in _) (fun c115 => ?_) (fun c115 => ?_)
                · have c115 := bI_0.mp c115
                  refine gB hC _ _ _ _ _ _ _ qL_areRooms_171 rfl ?_
                  refine gB hC _ _ _ _ _ _ _ qL_areRooms_172 rfl ?_
                  refine g_if_eq hC 200 dL_areRooms_176 rfl (by first | omega | exact cmpZ_in _ _ | exact bI_in _) (fun c176 => ?_) (fun c176 => ?_)
                  · refine gB hC _ _ _ _ _ _ _ qL_areRooms_200 rfl ?_
                    exact ih102 (V2, u + 1, _) _ ⟨hL2, hW2, hx2, by show ((u + 1 : Nat) : Int) ≤ t; omega⟩ (by show t - (u + 1) < t - u; omega)
                  · exact absurd c176 (by decide)
                · have c115 := bI_n0.mp c115
                  refine gB hC _ _ _ _ _ _ _ qL_areRooms_118 rfl ?_
                  refine g_getr hC dL_areRooms_119 fL_39 hL2.sL (by decide) rfl 15 rfl hL2.p15 ?_
                  refine gB hC _ _ _ _ _ _ _ qL_areRooms_122 rfl ?_
                  refine g_aald hC (j := 8) dL_areRooms_124 hL2.ssO (by decide) (hL2.ps (by omega) (by omega)) (by omega) (by omega) (by decide) ?_
                  refine gB hC _ _ _ _ _ _ _ qL_areRooms_125 rfl ?_
                  refine g_iald hC dL_areRooms_126 (hL2.ssR (by omega) (by omega)) (hL2.t1 (by omega) (by omega)) (by omega) (by omega) (by decide) (fun i126 => ?_)
                  refine gB hC _ _ _ _ _ _ _ qL_areRooms_127 rfl ?_
                  refine g_icmp_ne hC 171 dL_areRooms_128 rfl (by first | omega | exact cmpZ_in _ _ | exact bI_in _) (by first | omega | exact cmpZ_in _ _ | exact bI_in _) (fun c128 => ?_) (fun c128 => ?_)
                  · refine gB hC _ _ _ _ _ _ _ qL_areRooms_171 rfl ?_
                    refine gB hC _ _ _ _ _ _ _ qL_areRooms_172 rfl ?_
                    refine g_if_eq hC 200 dL_areRooms_176 rfl (by first | omega | exact cmpZ_in _ _ | exact bI_in _) (fun c176 => ?_) (fun c176 => ?_)
                    · refine gB hC _ _ _ _ _ _ _ qL_areRooms_200 rfl ?_
                      exact ih102 (V2, u + 1, _) _ ⟨hL2, hW2, hx2, by show ((u + 1 : Nat) : Int) ≤ t; omega⟩ (by show t - (u + 1) < t - u; omega)
                    · exact absurd c176 (by decide)
                  · refine gB hC _ _ _ _ _ _ _ qL_areRooms_131 rfl ?_
                    refine g_getr hC dL_areRooms_132 fL_39 hL2.sL (by decide) rfl 15 rfl hL2.p15 ?_
                    refine gB hC _ _ _ _ _ _ _ qL_areRooms_135 rfl ?_
                    refine g_aald hC (j := 8) dL_areRooms_137 hL2.ssO (by decide) (hL2.ps (by omega) (by omega)) (by omega) (by omega) (by decide) ?_
                    refine gB hC _ _ _ _ _ _ _ qL_areRooms_138 rfl ?_
                    refine g_iald hC dL_areRooms_139 (hL2.ssR (by omega) (by omega)) (hL2.t2 (by omega) (by omega)) (by omega) (by omega) (by decide) (fun i139 => ?_)
                    refine gB hC _ _ _ _ _ _ _ qL_areRooms_140 rfl ?_
                    refine g_cV1i hC dL_areRooms_143 mL_64 vL_last (kL_last hL2 hI (by omega) (by omega)) rfl hL2.sL (by decide) rfl (Nat.le_of_ble_eq_true rfl) (RR rfl rfl rfl rfl) (fun z i143 => ?_)
                    refine g_icmp_gt hC 171 dL_areRooms_146 rfl (by first | omega | exact cmpZ_in _ _ | exact bI_in _) (by first | omega | exact cmpZ_in _ _ | exact bI_in _) (fun c146 => ?_) (fun c146 => ?_)
                    · refine gB hC _ _ _ _ _ _ _ qL_areRooms_171 rfl ?_
                      refine gB hC _ _ _ _ _ _ _ qL_areRooms_172 rfl ?_
                      refine g_if_eq hC 200 dL_areRooms_176 rfl (by first | omega | exact cmpZ_in _ _ | exact bI_in _) (fun c176 => ?_) (fun c176 => ?_)
                      · refine gB hC _ _ _ _ _ _ _ qL_areRooms_200 rfl ?_
                        exact ih102 (V2, u + 1, _) _ ⟨hL2, hW2, hx2, by show ((u + 1 : Nat) : Int) ≤ t; omega⟩ (by show t - (u + 1) < t - u; omega)
                      · exact absurd c176 (by decide)
                    · refine gB hC _ _ _ _ _ _ _ qL_areRooms_149 rfl ?_
                      refine g_getr hC dL_areRooms_150 fL_39 hL2.sL (by decide) rfl 15 rfl hL2.p15 ?_
                      refine gB hC _ _ _ _ _ _ _ qL_areRooms_153 rfl ?_
                      refine g_aald hC (j := 8) dL_areRooms_155 hL2.ssO (by decide) (hL2.ps (by omega) (by omega)) (by omega) (by omega) (by decide) ?_
                      refine gB hC _ _ _ _ _ _ _ qL_areRooms_156 rfl ?_
                      refine g_iald hC dL_areRooms_157 (hL2.ssR (by omega) (by omega)) (hL2.t2 (by omega) (by omega)) (by omega) (by omega) (by decide) (fun i157 => ?_)
                      refine gB hC _ _ _ _ _ _ _ qL_areRooms_158 rfl ?_
                      refine g_cV1i hC dL_areRooms_161 mL_64 vL_last (kL_last hL2 hI (by omega) (by omega)) rfl hL2.sL (by decide) rfl (Nat.le_of_ble_eq_true rfl) (RR rfl rfl rfl rfl) (fun z i161 => ?_)
                      refine g_icmp_gt hC 171 dL_areRooms_164 rfl (by first | omega | exact cmpZ_in _ _ | exact bI_in _) (by first | omega | exact cmpZ_in _ _ | exact bI_in _) (fun c164 => ?_) (fun c164 => ?_)
                      · refine gB hC _ _ _ _ _ _ _ qL_areRooms_171 rfl ?_
                        refine gB hC _ _ _ _ _ _ _ qL_areRooms_172 rfl ?_
                        refine g_if_eq hC 200 dL_areRooms_176 rfl (by first | omega | exact cmpZ_in _ _ | exact bI_in _) (fun c176 => ?_) (fun c176 => ?_)
                        · refine gB hC _ _ _ _ _ _ _ qL_areRooms_200 rfl ?_
                          exact ih102 (V2, u + 1, _) _ ⟨hL2, hW2, hx2, by show ((u + 1 : Nat) : Int) ≤ t; omega⟩ (by show t - (u + 1) < t - u; omega)
                        · exact absurd c176 (by decide)
                      · refine gB hC _ _ _ _ _ _ _ qL_areRooms_167 rfl ?_
                        refine gB hC _ _ _ _ _ _ _ qL_areRooms_172 rfl ?_
                        refine g_if_eq hC 200 dL_areRooms_176 rfl (by first | omega | exact cmpZ_in _ _ | exact bI_in _) (fun c176 => ?_) (fun c176 => ?_)
                        · exact absurd c176 (by decide)
                        · refine gB hC _ _ _ _ _ _ _ qL_areRooms_179 rfl ?_
                          refine g_if_lt hC 200 dL_areRooms_181 rfl (by first | omega | exact cmpZ_in _ _ | exact bI_in _) (fun c181 => ?_) (fun c181 => ?_)
                          · refine gB hC _ _ _ _ _ _ _ qL_areRooms_200 rfl ?_
                            exact ih102 (V2, u + 1, _) _ ⟨hL2, hW2, hx2, by show ((u + 1 : Nat) : Int) ≤ t; omega⟩ (by show t - (u + 1) < t - u; omega)
                          · refine gB hC _ _ _ _ _ _ _ qL_areRooms_184 rfl ?_
                            refine g_getr hC dL_areRooms_185 fL_10 hL2.sL (by decide) rfl 0 rfl hL2.p0 ?_
                            refine gB hC _ _ _ _ _ _ _ qL_areRooms_188 rfl ?_
                            refine g_cV1e hC dL_areRooms_190 mL_144 vX11_roomOf (kX11_roomOf0 hx2 hI0 (by omega) (by omega) c115) rfl hL2.sX (by decide) rfl (Nat.le_of_ble_eq_true rfl) (RR rfl rfl rfl rfl) (fun z V190 e190 => ?_)
                            rw [c128]
                            refine g_st0 (rhA N k0 u) rfl ?_
                            have hrr190 := rhA_in N (k := k0) (by omega) u
                            have hx190 := e190.1
                            have hL190 := LB_x (by omega) hL2 e190.2
                            have hW190 := LW_x (by omega) hL2 e190.2 hW2
                            refine gB hC _ _ _ _ _ _ _ qL_areRooms_193 rfl ?_
                            refine g_icmp_ne hC 200 dL_areRooms_195 rfl (by first | omega | exact cmpZ_in _ _ | exact bI_in _) (by first | omega | exact cmpZ_in _ _ | exact bI_in _) (fun c195 => ?_) (fun c195 => ?_)
                            · refine gB hC _ _ _ _ _ _ _ qL_areRooms_200 rfl ?_
                              exact ih102 (V190, u + 1, _) _ ⟨hL190, hW190, hx190, by show ((u + 1 : Nat) : Int) ≤ t; omega⟩ (by show t - (u + 1) < t - u; omega)
                            · exact absurd (rhA_un hI (by omega : (u : Int) ≠ t) c195 (by omega) (by omega) (by omega) (by omega) (by omega)) (fun h => h) --stop
            · exact absurd c94 (by omega) --stop
          · refine gB hC _ _ _ _ _ _ _ qL_areRooms_80 rfl ?_
            refine g_st0 ((erI N (rhA N k0) k0 (t + 1)).2) (by rw [erI, if_pos ⟨c22, c35⟩]; show _ = if _ then (1 : Int) else 0; first | (rw [if_pos (by omega)]; done) | (rw [if_neg (by omega)]; done)) ?_
            refine gB hC _ _ _ _ _ _ _ qL_areRooms_85 rfl ?_
            refine g_getr hC dL_areRooms_89 fL_23 hL66.sL (by decide) rfl 5 rfl hL66.p5 ?_
            refine gB hC _ _ _ _ _ _ _ qL_areRooms_92 rfl ?_
            refine g_iald hC dL_areRooms_93 hL66.srm (hL66.k0 (by omega) (by omega)) (by omega) (by omega) (by decide) (fun i93 => ?_)
            refine g_icmp_lt hC 99 dL_areRooms_94 rfl (by first | omega | exact cmpZ_in _ _ | exact bI_in _) (by first | omega | exact cmpZ_in _ _ | exact bI_in _) (fun c94 => ?_) (fun c94 => ?_)
            · refine gB hC _ _ _ _ _ _ _ qL_areRooms_99 rfl ?_
              refine g_loop (fun x : gV × Nat × aV => LB q w N Sh x.1 ∧ LW q w N x.1 ∧ XR (q + 2) N P9 c9 Sh x.1 ∧ (x.2.1 : Int) ≤ t) (fun x => t - x.2.1) 102 (fun x => [(2, q), (0, k0), (0, max (moN N k0 0 36524 t) (cnt N k0 (sF N t 2))), (0, (erI N (rhA N k0) k0 (t + 1)).2), (0, (t : Int)), (0, rhA N k0 t), (0, (x.2.1 : Int)), x.2.2]) (fun x => x.1) (V66, 0, a7) ⟨hL66, hW66, hx66, by show (0 : Int) ≤ t; omega⟩ ?_
              rintro ⟨V2, u, b7⟩ z ⟨hL2, hW2, hx2, hu⟩ ih102
              dsimp only at hL2 hW2 hx2 hu ih102 ⊢
              refine gB hC _ _ _ _ _ _ _ qL_areRooms_102 rfl ?_
              refine g_icmp_ge hC 206 dL_areRooms_106 rfl (by first | omega | exact cmpZ_in _ _ | exact bI_in _) (by first | omega | exact cmpZ_in _ _ | exact bI_in _) (fun c106 => ?_) (fun c106 => ?_)
              · refine gB hC _ _ _ _ _ _ _ qL_areRooms_206 rfl ?_
                have hmn : max (moN N k0 0 36524 t) (cnt N k0 (sF N t 2)) = moN N k0 0 36524 (t + 1) := by rw [moN, if_pos ⟨c22, c35, by omega, by omega⟩]
                have h9 := fun z a b d => ih7 (V2, t + 1, max (moN N k0 0 36524 t) (cnt N k0 (sF N t 2)), a, b, d) z ⟨hL2, hW2, hx2, by show ((t + 1 : Nat) : Int) ≤ N 5; omega, hmn⟩ (by show (N 5 - ((t + 1 : Nat) : Int)).toNat < (N 5 - t).toNat; omega)
                exact h9 _ _ _ _
              · have hsu := (hI.2.2.2.1 u (by omega) (by omega)).1
                refine gB hC _ _ _ _ _ _ _ qL_areRooms_109 rfl ?_
                refine g_cV1 hC dL_areRooms_112 mL_60 vL_isAlive (kL_isAlive hL2 hI (by omega) (by omega)) rfl hL2.sL (by decide) rfl (Nat.le_of_ble_eq_true rfl) (RR rfl rfl rfl rfl) (fun z => ?_)
                refine g_if_eq hC 171 dL_areRooms_115 rfl (by first | omega | exact cmpZ_in _ _ | exact bI_in _) (fun c115 => ?_) (fun c115 => ?_)
                · have c115 := bI_0.mp c115
                  refine gB hC _ _ _ _ _ _ _ qL_areRooms_171 rfl ?_
                  refine gB hC _ _ _ _ _ _ _ qL_areRooms_172 rfl ?_
                  refine g_if_eq hC 200 dL_areRooms_176 rfl (by first | omega | exact cmpZ_in _ _ | exact bI_in _) (fun c176 => ?_) (fun c176 => ?_)
                  · refine gB hC _ _ _ _ _ _ _ qL_areRooms_200 rfl ?_
                    exact ih102 (V2, u + 1, _) _ ⟨hL2, hW2, hx2, by show ((u + 1 : Nat) : Int) ≤ t; omega⟩ (by show t - (u + 1) < t - u; omega)
                  · exact absurd c176 (by decide)
                · have c115 := bI_n0.mp c115
                  refine gB hC _ _ _ _ _ _ _ qL_areRooms_118 rfl ?_
                  refine g_getr hC dL_areRooms_119 fL_39 hL2.sL (by decide) rfl 15 rfl hL2.p15 ?_
                  refine gB hC _ _ _ _ _ _ _ qL_areRooms_122 rfl ?_
                  refine g_aald hC (j := 8) dL_areRooms_124 hL2.ssO (by decide) (hL2.ps (by omega) (by omega)) (by omega) (by omega) (by decide) ?_
                  refine gB hC _ _ _ _ _ _ _ qL_areRooms_125 rfl ?_
                  refine g_iald hC dL_areRooms_126 (hL2.ssR (by omega) (by omega)) (hL2.t1 (by omega) (by omega)) (by omega) (by omega) (by decide) (fun i126 => ?_)
                  refine gB hC _ _ _ _ _ _ _ qL_areRooms_127 rfl ?_
                  refine g_icmp_ne hC 171 dL_areRooms_128 rfl (by first | omega | exact cmpZ_in _ _ | exact bI_in _) (by first | omega | exact cmpZ_in _ _ | exact bI_in _) (fun c128 => ?_) (fun c128 => ?_)
                  · refine gB hC _ _ _ _ _ _ _ qL_areRooms_171 rfl ?_
                    refine gB hC _ _ _ _ _ _ _ qL_areRooms_172 rfl ?_
                    refine g_if_eq hC 200 dL_areRooms_176 rfl (by first | omega | exact cmpZ_in _ _ | exact bI_in _) (fun c176 => ?_) (fun c176 => ?_)
                    · refine gB hC _ _ _ _ _ _ _ qL_areRooms_200 rfl ?_
                      exact ih102 (V2, u + 1, _) _ ⟨hL2, hW2, hx2, by show ((u + 1 : Nat) : Int) ≤ t; omega⟩ (by show t - (u + 1) < t - u; omega)
                    · exact absurd c176 (by decide)
                  · refine gB hC _ _ _ _ _ _ _ qL_areRooms_131 rfl ?_
                    refine g_getr hC dL_areRooms_132 fL_39 hL2.sL (by decide) rfl 15 rfl hL2.p15 ?_
                    refine gB hC _ _ _ _ _ _ _ qL_areRooms_135 rfl ?_
                    refine g_aald hC (j := 8) dL_areRooms_137 hL2.ssO (by decide) (hL2.ps (by omega) (by omega)) (by omega) (by omega) (by decide) ?_
                    refine gB hC _ _ _ _ _ _ _ qL_areRooms_138 rfl ?_
                    refine g_iald hC dL_areRooms_139 (hL2.ssR (by omega) (by omega)) (hL2.t2 (by omega) (by omega)) (by omega) (by omega) (by decide) (fun i139 => ?_)
                    refine gB hC _ _ _ _ _ _ _ qL_areRooms_140 rfl ?_
                    refine g_cV1i hC dL_areRooms_143 mL_64 vL_last (kL_last hL2 hI (by omega) (by omega)) rfl hL2.sL (by decide) rfl (Nat.le_of_ble_eq_true rfl) (RR rfl rfl rfl rfl) (fun z i143 => ?_)
                    refine g_icmp_gt hC 171 dL_areRooms_146 rfl (by first | omega | exact cmpZ_in _ _ | exact bI_in _) (by first | omega | exact cmpZ_in _ _ | exact bI_in _) (fun c146 => ?_) (fun c146 => ?_)
                    · refine gB hC _ _ _ _ _ _ _ qL_areRooms_171 rfl ?_
                      refine gB hC _ _ _ _ _ _ _ qL_areRooms_172 rfl ?_
                      refine g_if_eq hC 200 dL_areRooms_176 rfl (by first | omega | exact cmpZ_in _ _ | exact bI_in _) (fun c176 => ?_) (fun c176 => ?_)
                      · refine gB hC _ _ _ _ _ _ _ qL_areRooms_200 rfl ?_
                        exact ih102 (V2, u + 1, _) _ ⟨hL2, hW2, hx2, by show ((u + 1 : Nat) : Int) ≤ t; omega⟩ (by show t - (u + 1) < t - u; omega)
                      · exact absurd c176 (by decide)
                    · refine gB hC _ _ _ _ _ _ _ qL_areRooms_149 rfl ?_
                      refine g_getr hC dL_areRooms_150 fL_39 hL2.sL (by decide) rfl 15 rfl hL2.p15 ?_
                      refine gB hC _ _ _ _ _ _ _ qL_areRooms_153 rfl ?_
                      refine g_aald hC (j := 8) dL_areRooms_155 hL2.ssO (by decide) (hL2.ps (by omega) (by omega)) (by omega) (by omega) (by decide) ?_
                      refine gB hC _ _ _ _ _ _ _ qL_areRooms_156 rfl ?_
                      refine g_iald hC dL_areRooms_157 (hL2.ssR (by omega) (by omega)) (hL2.t2 (by omega) (by omega)) (by omega) (by omega) (by decide) (fun i157 => ?_)
                      refine gB hC _ _ _ _ _ _ _ qL_areRooms_158 rfl ?_
                      refine g_cV1i hC dL_areRooms_161 mL_64 vL_last (kL_last hL2 hI (by omega) (by omega)) rfl hL2.sL (by decide) rfl (Nat.le_of_ble_eq_true rfl) (RR rfl rfl rfl rfl) (fun z i161 => ?_)
                      refine g_icmp_gt hC 171 dL_areRooms_164 rfl (by first | omega | exact cmpZ_in _ _ | exact bI_in _) (by first | omega | exact cmpZ_in _ _ | exact bI_in _) (fun c164 => ?_) (fun c164 => ?_)
                      · refine gB hC _ _ _ _ _ _ _ qL_areRooms_171 rfl ?_
                        refine gB hC _ _ _ _ _ _ _ qL_areRooms_172 rfl ?_
                        refine g_if_eq hC 200 dL_areRooms_176 rfl (by first | omega | exact cmpZ_in _ _ | exact bI_in _) (fun c176 => ?_) (fun c176 => ?_)
                        · refine gB hC _ _ _ _ _ _ _ qL_areRooms_200 rfl ?_
                          exact ih102 (V2, u + 1, _) _ ⟨hL2, hW2, hx2, by show ((u + 1 : Nat) : Int) ≤ t; omega⟩ (by show t - (u + 1) < t - u; omega)
                        · exact absurd c176 (by decide)
                      · refine gB hC _ _ _ _ _ _ _ qL_areRooms_167 rfl ?_
                        refine gB hC _ _ _ _ _ _ _ qL_areRooms_172 rfl ?_
                        refine g_if_eq hC 200 dL_areRooms_176 rfl (by first | omega | exact cmpZ_in _ _ | exact bI_in _) (fun c176 => ?_) (fun c176 => ?_)
                        · exact absurd c176 (by decide)
                        · refine gB hC _ _ _ _ _ _ _ qL_areRooms_179 rfl ?_
                          refine g_if_lt hC 200 dL_areRooms_181 rfl (by first | omega | exact cmpZ_in _ _ | exact bI_in _) (fun c181 => ?_) (fun c181 => ?_)
                          · refine gB hC _ _ _ _ _ _ _ qL_areRooms_200 rfl ?_
                            exact ih102 (V2, u + 1, _) _ ⟨hL2, hW2, hx2, by show ((u + 1 : Nat) : Int) ≤ t; omega⟩ (by show t - (u + 1) < t - u; omega)
                          · refine gB hC _ _ _ _ _ _ _ qL_areRooms_184 rfl ?_
                            refine g_getr hC dL_areRooms_185 fL_10 hL2.sL (by decide) rfl 0 rfl hL2.p0 ?_
                            refine gB hC _ _ _ _ _ _ _ qL_areRooms_188 rfl ?_
                            refine g_cV1e hC dL_areRooms_190 mL_144 vX11_roomOf (kX11_roomOf0 hx2 hI0 (by omega) (by omega) c115) rfl hL2.sX (by decide) rfl (Nat.le_of_ble_eq_true rfl) (RR rfl rfl rfl rfl) (fun z V190 e190 => ?_)
                            rw [c128]
                            refine g_st0 (rhA N k0 u) rfl ?_
                            have hrr190 := rhA_in N (k := k0) (by omega) u
                            have hx190 := e190.1
                            have hL190 := LB_x (by omega) hL2 e190.2
                            have hW190 := LW_x (by omega) hL2 e190.2 hW2
                            refine gB hC _ _ _ _ _ _ _ qL_areRooms_193 rfl ?_
                            refine g_icmp_ne hC 200 dL_areRooms_195 rfl (by first | omega | exact cmpZ_in _ _ | exact bI_in _) (by first | omega | exact cmpZ_in _ _ | exact bI_in _) (fun c195 => ?_) (fun c195 => ?_)
                            · refine gB hC _ _ _ _ _ _ _ qL_areRooms_200 rfl ?_
                              exact ih102 (V190, u + 1, _) _ ⟨hL190, hW190, hx190, by show ((u + 1 : Nat) : Int) ≤ t; omega⟩ (by show t - (u + 1) < t - u; omega)
                            · exact absurd (rhA_un hI (by omega : (u : Int) ≠ t) c195 (by omega) (by omega) (by omega) (by omega) (by omega)) (fun h => h) --stop
            · exact absurd c94 (by omega) --stop
      · refine gB hC _ _ _ _ _ _ _ qL_areRooms_38 rfl ?_
        refine gB hC _ _ _ _ _ _ _ qL_areRooms_206 rfl ?_
        have hmn : moN N k0 0 36524 t = moN N k0 0 36524 (t + 1) := by rw [moN, if_neg (fun h => by omega)]
        have h9 := fun z a b d => ih7 (V1, t + 1, moN N k0 0 36524 t, a, b, d) z ⟨hL1, hW1, hx1, by show ((t + 1 : Nat) : Int) ≤ N 5; omega, hmn⟩ (by show (N 5 - ((t + 1 : Nat) : Int)).toNat < (N 5 - t).toNat; omega)
        have hen : (erI N (rhA N k0) k0 (t + 1)).2 = (erI N (rhA N k0) k0 t).2 := by rw [erI, if_neg (fun h => by omega)]
        simp only [hen] at h9
        exact h9 _ _ _ _
