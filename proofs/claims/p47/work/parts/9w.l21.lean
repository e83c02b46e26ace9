/-! the law: a row of offers (rows laid by wip/p47/l21.py) -/
theorem inc_lim {K : gN0} {p inc lim : Int} (hinc : inc = if offC K p then K 24 + p else -1) (h24 : 0 ≤ K 24) (hp : 0 ≤ p) (h23 : 0 < K 23) (hl : limZ K (K 22) (K 23) = lim) : 0 ≤ inc ↔ lim ≤ p := by
  by_cases hoc : offC K p
  · rw [if_pos hoc] at hinc; have := hoc.2; omega
  · rw [if_neg hoc] at hinc
    have h3 : ¬ (0 < K 23 ∧ limZ K (K 22) (K 23) ≤ p) := hoc
    omega
def rcN (c : Nat) : Nat → Nat
  | 0 => 0
  | j + 1 => rcN c j + c
theorem rcN_le (c : Nat) : ∀ j : Nat, j ≤ 2 → rcN c j + c ≤ 3 * c := by
  intro j hj
  rcases (by omega : j = 0 ∨ j = 1 ∨ j = 2) with h | h | h <;> subst h <;> simp only [rcN] <;> omega
def rmS (r : Room) : Room := rmk (r.frames + 2) (3 * r.cells) (3 * r.slots) (r.locals + 40)
def suB (N f pr od : gN0) (D R n : Nat) : Nat → Int
  | 0 => 0
  | j + 1 => suB N f pr od D R n j + od j * vaO N (upN f n (pr j)) D R (n + 1)
/-- what a row of offers begun brings -/
def brC (E : gE) (l : Launch) (q w : Int) (N pr od : gN0) (D R n : Nat) (rm : Room) : Prop := ∀ (Sh : gSh) (V : gV) (z : Int) (K : gN0) (P9 : Int → gN0) (c9 pa oa ca : Int) (f : gN0), XR (q + 2) K P9 c9 Sh V → LB q w N Sh V → INV K → AgO N K → Sh pa = some (100, 3) → Sh oa = some (100, 3) → Sh ca = some (100, 3) → (w + 152 ≤ pa ∧ w + 152 ≤ oa ∧ w + 152 ≤ ca ∧ pa ≠ ca ∧ oa ≠ ca) → (∀ i, 0 ≤ i → i < 3 → V pa i = pr i ∧ V oa i = od i) → (∀ i : Int, 0 ≤ i → i < n → V ca i = f i) → (∀ i : Int, 0 ≤ i → i < 3 → 0 ≤ f i ∧ f i ≤ 100000) →
  gM E l yL_brings (.code yL_brings cL_brings 10 (some .long)) rm [(2, q), (2, pa), (2, oa), (0, (D : Int)), (0, (R : Int)), (2, ca), (0, (n : Int))] Sh V z (gRe (some (1, vaO N f D R n)) (fun V' => (∃ (K' : gN0) (P' : Int → gN0) (c' : Int), AgO N K' ∧ INV K' ∧ XR (q + 2) K' P' c' Sh V') ∧ LB q w N Sh V' ∧ (V' pa = V pa ∧ V' oa = V oa) ∧ ∀ i : Int, 0 ≤ i → i < n → V' ca i = V ca i) Sh)

theorem kL_brings0 {E l Sh V z} {q w : Int} {N K : gN0} {P9 : Int → gN0} {c9 : Int} {pr od f : gN0} {D R n : Nat} {pa oa ca : Int} (hx : XR (q + 2) K P9 c9 Sh V) (hL : LB q w N Sh V) (hI0 : INV K) (hA : AgO N K) (hpa : Sh pa = some (100, 3)) (hoa : Sh oa = some (100, 3)) (hca : Sh ca = some (100, 3)) (hne : w + 152 ≤ pa ∧ w + 152 ≤ oa ∧ w + 152 ≤ ca ∧ pa ≠ ca ∧ oa ≠ ca) (hpo : ∀ i, 0 ≤ i → i < 3 → V pa i = pr i ∧ V oa i = od i) (hc : ∀ i : Int, 0 ≤ i → i < n → V ca i = f i) (hf : ∀ i : Int, 0 ≤ i → i < 3 → 0 ≤ f i ∧ f i ≤ 100000) (hIN : INV N) (hD : 1 ≤ D ∧ D ≤ 3) (hR : 1 ≤ R ∧ R ≤ 3) (hn : n = D) : gM E l yL_brings (.code yL_brings cL_brings 10 (some .long)) (rmk 13 420 4200 480) [(2, q), (2, pa), (2, oa), (0, (D : Int)), (0, (R : Int)), (2, ca), (0, (n : Int))] Sh V z (gRe (some (1, vaO N f D R n)) (fun V' => (∃ (K' : gN0) (P' : Int → gN0) (c' : Int), AgO N K' ∧ INV K' ∧ XR (q + 2) K' P' c' Sh V') ∧ LB q w N Sh V' ∧ (V' pa = V pa ∧ V' oa = V oa) ∧ ∀ i : Int, 0 ≤ i → i < n → V' ca i = V ca i) Sh) := by
  refine gM_at (L0 := [(2, q), (2, pa), (2, oa), (0, (D : Int)), (0, (R : Int)), (2, ca), (0, (n : Int)), (9, 0), (9, 0), (9, 0)]) rfl rfl rfl ?_
  intro p e s m args below meth c hC hr hex hnm hz
  have hqw := hL.a0
  have hIc := hIN.1
  have hsc := hIc.1
  unfold iScal at hsc
  refine gB hC _ _ _ _ _ _ _ qL_brings_0 rfl ?_
  refine g_icmp_ge hC 69 dL_brings_3 rfl (by first | omega | exact cmpZ_in _ _ | exact bI_in _) (by first | omega | exact cmpZ_in _ _ | exact bI_in _) (fun c3 => ?_) (fun c3 => ?_)
  · refine gB hC _ _ _ _ _ _ _ qL_brings_69 rfl ?_
    refine g_getr hC dL_brings_70 fL_10 hL.sL (by decide) rfl 0 rfl hL.p0 ?_
    refine gB hC _ _ _ _ _ _ _ qL_brings_73 rfl ?_
    refine g_cV1e hC dL_brings_76 mL_261 vX11_sell (xsell hx hI0 (by omega) (by omega)) rfl hL.sX (by decide) rfl (Nat.le_of_ble_eq_true rfl) (RSL rfl rfl (by dsimp only [rmk]; omega) (by dsimp only [rmk]; omega)) (fun z V76 e76 => ?_)
    have hx76 := e76.1
    have hL76 := LB_x (by omega) hL e76.2
    have hk76 : ∀ a sh, Sh a = some sh → w ≤ a → V76 a = V a := fun a sh h1 h2 => e76.2 a sh h1 (Or.inr (by omega))
    have hli : inI (limZ (selN K D R) D R) := by unfold limZ wI; exact i32_in _
    have hO76 := OKs_0 (f := f) hA hI0 hD hR
    obtain ⟨lim, hlim⟩ : ∃ x, x = limZ (selN K D R) D R := ⟨_, rfl⟩
    rw [← hlim] at hO76 hli
    rw [← hlim]
    refine gB hC _ _ _ _ _ _ _ qL_brings_79 rfl ?_
    refine g_kn9 (k1 := 60 + 60 * 0) (n1 := 600 + 600 * 0) (by dsimp only [rmk]; omega) (by dsimp only [rmk]; omega) ?_
    refine g_loopB (fun x : gV × Nat × gN0 × (Int → gN0) × Int × aV => XR (q + 2) x.2.2.1 x.2.2.2.1 x.2.2.2.2.1 Sh x.1 ∧ LB q w N Sh x.1 ∧ OKs N f D R lim x.2.2.1 x.2.1 ∧ x.2.1 ≤ D ∧ ∀ a sh, Sh a = some sh → w ≤ a → x.1 a = V a) (fun x => D - x.2.1) 84 (fun x => [(2, q), (2, pa), (2, oa), (0, (D : Int)), (0, (R : Int)), (2, ca), (0, (n : Int)), (0, lim), (0, (x.2.1 : Int)), x.2.2.2.2.2]) (fun x => x.1) (fun x => 60 + 60 * x.2.1) (fun x => 600 + 600 * x.2.1) (V76, 0, selN K D R, _, _, (9, 0)) ⟨hx76, hL76, hO76, by show (0 : Nat) ≤ D; omega, hk76⟩ ?_
    rintro ⟨V1, k, K1, P1, c1, a9⟩ z ⟨hx1, hL1, hO1, hk, hk1⟩ ih84
    dsimp only at hx1 hL1 hO1 hk hk1 ih84 ⊢
    have hoo := hO1.2.1.2.2
    have hoK := hO1
    unfold oOk at hoo
    unfold OKs at hoK
    refine gB hC _ _ _ _ _ _ _ qL_brings_84 rfl ?_
    refine g_icmp_ge hC 147 dL_brings_87 rfl (by first | omega | exact cmpZ_in _ _ | exact bI_in _) (by first | omega | exact cmpZ_in _ _ | exact bI_in _) (fun c87 => ?_) (fun c87 => ?_)
    · obtain rfl : k = D := by omega
      have hhs := OKs_hs hO1 hD hR hf
      have hwi : inI (wI (seT K1 (min (K1 25) (K1 26)).toNat).1) := by unfold wI; exact i32_in _
      refine gB hC _ _ _ _ _ _ _ qL_brings_147 rfl ?_
      refine g_getr hC dL_brings_148 fL_10 hL1.sL (by decide) rfl 0 rfl hL1.p0 ?_
      refine gB hC _ _ _ _ _ _ _ qL_brings_151 rfl ?_
      refine g_cV1e hC dL_brings_152 mL_269 vX11_saleAt (gM_k0 (kX11_saleAt hx1 hO1.2.1 (by omega)) (fk2 (by omega) hO1.2.2.1)) rfl hL1.sX (by decide) rfl (Nat.le_of_ble_eq_true rfl) (RSL rfl rfl (by dsimp only [rmk]; omega) (by dsimp only [rmk]; omega)) (fun z V152 e152 => ?_)
      have hx152 := e152.1
      have hL152 := LB_x (by omega) hL1 e152.2
      have hk152 : ∀ a sh, Sh a = some sh → w ≤ a → V152 a = V a := fun a sh h1 h2 => (e152.2 a sh h1 (Or.inr (by omega))).trans (hk1 a sh h1 h2)
      refine g_st0 (K1 24) (by rw [if_pos (by decide)]; rfl) ?_
      refine gB hC _ _ _ _ _ _ _ qL_brings_155 rfl ?_
      refine g_getr hC dL_brings_156 fL_10 hL152.sL (by decide) rfl 0 rfl hL152.p0 ?_
      refine gB hC _ _ _ _ _ _ _ qL_brings_159 rfl ?_
      refine g_cV1e hC dL_brings_160 mL_269 vX11_saleAt (gM_k0 (kX11_saleAt hx152 hO1.2.1 (by omega)) (fk2 (by omega) hO1.2.2.1)) rfl hL152.sX (by decide) rfl (Nat.le_of_ble_eq_true rfl) (RSL rfl rfl (by dsimp only [rmk]; omega) (by dsimp only [rmk]; omega)) (fun z V160 e160 => ?_)
      have hx160 := e160.1
      have hL160 := LB_x (by omega) hL152 e160.2
      have hk160 : ∀ a sh, Sh a = some sh → w ≤ a → V160 a = V a := fun a sh h1 h2 => (e160.2 a sh h1 (Or.inr (by omega))).trans (hk152 a sh h1 h2)
      refine g_st0 (wI (seT K1 (min (K1 25) (K1 26)).toNat).1) (by rw [if_neg (by decide)]) ?_
      refine g_icmp_le hC 172 dL_brings_163 rfl (by first | omega | exact cmpZ_in _ _ | exact bI_in _) (by first | omega | exact cmpZ_in _ _ | exact bI_in _) (fun c163 => ?_) (fun c163 => ?_)
      · refine gB hC _ _ _ _ _ _ _ qL_brings_172 rfl ?_
        refine g_getr hC dL_brings_173 fL_10 hL160.sL (by decide) rfl 0 rfl hL160.p0 ?_
        refine gB hC _ _ _ _ _ _ _ qL_brings_176 rfl ?_
        refine g_cV1e hC dL_brings_177 mL_269 vX11_saleAt (gM_k0 (kX11_saleAt hx160 hO1.2.1 (by omega)) (fk2 (by omega) hO1.2.2.1)) rfl hL160.sX (by decide) rfl (Nat.le_of_ble_eq_true rfl) (RSL rfl rfl (by dsimp only [rmk]; omega) (by dsimp only [rmk]; omega)) (fun z V177 e177 => ?_)
        have hx177 := e177.1
        have hL177 := LB_x (by omega) hL160 e177.2
        have hk177 : ∀ a sh, Sh a = some sh → w ≤ a → V177 a = V a := fun a sh h1 h2 => (e177.2 a sh h1 (Or.inr (by omega))).trans (hk160 a sh h1 h2)
        refine g_st0 (K1 24) (by rw [if_pos (by decide)]; rfl) ?_
        refine g_i2l hC dL_brings_180 (by first | omega | exact cmpZ_in _ _ | exact bI_in _) ?_
        refine g_lreturn hC dL_brings_181 hr ⟨?_, rfl, ?_⟩ gs_rfl ⟨(by dsimp only [rmk]; omega), (by dsimp only [rmk]; omega)⟩
        · rw [hoK.2.2.2.2.2.1]; unfold vaO; rw [hn, Nat.sub_self, inc_0r]; rw [show pw 0 = 1 from rfl, Int.mul_one, Int.add_zero]
        · exact ⟨⟨K1, _, _, hO1.1, hO1.2.1, hx177⟩, hL177, ⟨hk177 pa _ hpa (by omega), hk177 oa _ hoa (by omega)⟩, fun i i0 i1 => by rw [hk177 ca _ hca (by omega)]⟩
      · exact absurd c163 (Int.not_lt.mpr hhs.1) --stop
    · refine gB hC _ _ _ _ _ _ _ qL_brings_90 rfl ?_
      refine g_getr hC dL_brings_91 fL_10 hL1.sL (by decide) rfl 0 rfl hL1.p0 ?_
      
      refine gB hC _ _ _ _ _ _ _ qL_brings_94 rfl ?_
      refine g_iald hC dL_brings_98 hca (show V1 ca (k : Int) = f k by rw [hk1 ca _ hca (by omega)]; exact hc k (by omega) (by omega)) (by omega) (by omega) (by decide) (fun i98 => ?_)
      refine g_cV1e hC dL_brings_99 mL_264 vX11_offer (xoffer hx1 hO1.2.1 (hf k (by omega) (by omega)) ⟨hO1.2.2.1, by omega⟩) rfl hL1.sX (by decide) rfl (Nat.le_of_ble_eq_true rfl) (RSL rfl rfl (by dsimp only [rmk]; omega) (by dsimp only [rmk]; omega)) (fun z V99 e99 => ?_)
      have hx99 := e99.1
      have hL99 := LB_x (by omega) hL1 e99.2
      have hk99 : ∀ a sh, Sh a = some sh → w ≤ a → V99 a = V a := fun a sh h1 h2 => (e99.2 a sh h1 (Or.inr (by omega))).trans (hk1 a sh h1 h2)
      have hO99 := OKs_st hIN.2.2 hO1 (by omega) (by omega) (hf k (by omega) (by omega))
      obtain ⟨K2, hK2⟩ : ∃ x, x = (if offC K1 (f k) then offT K1 (f k) else offN K1 (f k)) := ⟨_, rfl⟩
      rw [← hK2] at hx99 hO99
      obtain ⟨inc, hinc⟩ : ∃ x, x = (if offC K1 (f k) then K1 24 + f k else -1) := ⟨_, rfl⟩
      rw [← hinc]
      have hfk := hf k (by omega) (by omega)
      have hib : -1 ≤ inc ∧ inc ≤ 1000000 := by rw [hinc]; split <;> omega
      refine gB hC _ _ _ _ _ _ _ qL_brings_102 rfl ?_
      refine g_if_ne hC 141 dL_brings_106 rfl (by first | omega | exact cmpZ_in _ _ | exact bI_in _) (fun c106 => ?_) (fun c106 => ?_)
      · refine gB hC _ _ _ _ _ _ _ qL_brings_141 rfl ?_
        refine g_kn9 (k1 := 60 + 60 * (k + 1)) (n1 := 600 + 600 * (k + 1)) (by dsimp only [rmk]; omega) (by dsimp only [rmk]; omega) ?_
        exact ih84 (V99, k + 1, K2, kpP P1 c1 K1, min (c1 + 1) 6, _) _ ⟨hx99, hL99, hO99, by show k + 1 ≤ D; omega, hk99⟩ (by show D - (k + 1) < D - k; omega)
      · refine gB hC _ _ _ _ _ _ _ qL_brings_109 rfl ?_
        refine g_if_lt hC 118 dL_brings_111 rfl (by first | omega | exact cmpZ_in _ _ | exact bI_in _) (fun c111 => ?_) (fun c111 => ?_)
        · refine gB hC _ _ _ _ _ _ _ qL_brings_118 rfl ?_
          refine gB hC _ _ _ _ _ _ _ qL_brings_119 rfl ?_
          refine g_iald hC dL_brings_123 hca (show V99 ca (k : Int) = f k by rw [hk99 ca _ hca (by omega)]; exact hc k (by omega) (by omega)) (by omega) (by omega) (by decide) (fun i123 => ?_)
          refine gB hC _ _ _ _ _ _ _ qL_brings_124 rfl ?_
          refine g_icmp_lt hC 133 dL_brings_126 rfl (by first | omega | exact cmpZ_in _ _ | exact bI_in _) (by first | omega | exact cmpZ_in _ _ | exact bI_in _) (fun c126 => ?_) (fun c126 => ?_)
          · refine gB hC _ _ _ _ _ _ _ qL_brings_133 rfl ?_
            refine g_icmp_eq hC 141 dL_brings_134 rfl (by first | omega | exact cmpZ_in _ _ | exact bI_in _) (by first | omega | exact cmpZ_in _ _ | exact bI_in _) (fun c134 => ?_) (fun c134 => ?_)
            · refine gB hC _ _ _ _ _ _ _ qL_brings_141 rfl ?_
              refine g_kn9 (k1 := 60 + 60 * (k + 1)) (n1 := 600 + 600 * (k + 1)) (by dsimp only [rmk]; omega) (by dsimp only [rmk]; omega) ?_
              exact ih84 (V99, k + 1, K2, kpP P1 c1 K1, min (c1 + 1) 6, _) _ ⟨hx99, hL99, hO99, by show k + 1 ≤ D; omega, hk99⟩ (by show D - (k + 1) < D - k; omega)
            · first | exact absurd rfl c134 | (exfalso; have hl9 := hoK.2.2.2.2.2.2.2.2.2 (by omega); have hz : k = 0 := (by omega); have h5 := hoK.2.2.2.2.1; have hr : (ofS N f D R 0).1 = R := rfl; rw [hz] at h5; have h3 := inc_lim hinc (by omega) (by omega) (by omega) hl9; omega) --stop
          · refine gB hC _ _ _ _ _ _ _ qL_brings_129 rfl ?_
            refine g_icmp_eq hC 141 dL_brings_134 rfl (by first | omega | exact cmpZ_in _ _ | exact bI_in _) (by first | omega | exact cmpZ_in _ _ | exact bI_in _) (fun c134 => ?_) (fun c134 => ?_)
            · refine gB hC _ _ _ _ _ _ _ qL_brings_141 rfl ?_
              refine g_kn9 (k1 := 60 + 60 * (k + 1)) (n1 := 600 + 600 * (k + 1)) (by dsimp only [rmk]; omega) (by dsimp only [rmk]; omega) ?_
              exact ih84 (V99, k + 1, K2, kpP P1 c1 K1, min (c1 + 1) 6, _) _ ⟨hx99, hL99, hO99, by show k + 1 ≤ D; omega, hk99⟩ (by show D - (k + 1) < D - k; omega)
            · first | exact absurd rfl c134 | (exfalso; have hl9 := hoK.2.2.2.2.2.2.2.2.2 (by omega); have hz : k = 0 := (by omega); have h5 := hoK.2.2.2.2.1; have hr : (ofS N f D R 0).1 = R := rfl; rw [hz] at h5; have h3 := inc_lim hinc (by omega) (by omega) (by omega) hl9; omega) --stop
        · refine gB hC _ _ _ _ _ _ _ qL_brings_114 rfl ?_
          refine gB hC _ _ _ _ _ _ _ qL_brings_119 rfl ?_
          refine g_iald hC dL_brings_123 hca (show V99 ca (k : Int) = f k by rw [hk99 ca _ hca (by omega)]; exact hc k (by omega) (by omega)) (by omega) (by omega) (by decide) (fun i123 => ?_)
          refine gB hC _ _ _ _ _ _ _ qL_brings_124 rfl ?_
          refine g_icmp_lt hC 133 dL_brings_126 rfl (by first | omega | exact cmpZ_in _ _ | exact bI_in _) (by first | omega | exact cmpZ_in _ _ | exact bI_in _) (fun c126 => ?_) (fun c126 => ?_)
          · refine gB hC _ _ _ _ _ _ _ qL_brings_133 rfl ?_
            refine g_icmp_eq hC 141 dL_brings_134 rfl (by first | omega | exact cmpZ_in _ _ | exact bI_in _) (by first | omega | exact cmpZ_in _ _ | exact bI_in _) (fun c134 => ?_) (fun c134 => ?_)
            · refine gB hC _ _ _ _ _ _ _ qL_brings_141 rfl ?_
              refine g_kn9 (k1 := 60 + 60 * (k + 1)) (n1 := 600 + 600 * (k + 1)) (by dsimp only [rmk]; omega) (by dsimp only [rmk]; omega) ?_
              exact ih84 (V99, k + 1, K2, kpP P1 c1 K1, min (c1 + 1) 6, _) _ ⟨hx99, hL99, hO99, by show k + 1 ≤ D; omega, hk99⟩ (by show D - (k + 1) < D - k; omega)
            · first | exact absurd rfl c134 | (exfalso; have hl9 := hoK.2.2.2.2.2.2.2.2.2 (by omega); have hz : k = 0 := (by omega); have h5 := hoK.2.2.2.2.1; have hr : (ofS N f D R 0).1 = R := rfl; rw [hz] at h5; have h3 := inc_lim hinc (by omega) (by omega) (by omega) hl9; omega) --stop
          · refine gB hC _ _ _ _ _ _ _ qL_brings_129 rfl ?_
            refine g_icmp_eq hC 141 dL_brings_134 rfl (by first | omega | exact cmpZ_in _ _ | exact bI_in _) (by first | omega | exact cmpZ_in _ _ | exact bI_in _) (fun c134 => ?_) (fun c134 => ?_)
            · refine gB hC _ _ _ _ _ _ _ qL_brings_141 rfl ?_
              refine g_kn9 (k1 := 60 + 60 * (k + 1)) (n1 := 600 + 600 * (k + 1)) (by dsimp only [rmk]; omega) (by dsimp only [rmk]; omega) ?_
              exact ih84 (V99, k + 1, K2, kpP P1 c1 K1, min (c1 + 1) 6, _) _ ⟨hx99, hL99, hO99, by show k + 1 ≤ D; omega, hk99⟩ (by show D - (k + 1) < D - k; omega)
            · first | exact absurd rfl c134 | (exfalso; have hl9 := hoK.2.2.2.2.2.2.2.2.2 (by omega); have hz : k = 0 := (by omega); have h5 := hoK.2.2.2.2.1; have hr : (ofS N f D R 0).1 = R := rfl; rw [hz] at h5; have h3 := inc_lim hinc (by omega) (by omega) (by omega) hl9; omega) --stop
  · exact absurd c3 (by omega) --stop
