/-! the law: all rows of offers (rows laid by wip/p47/l22.py) -/
theorem kL_bringsS {E l Sh V z} {q w : Int} {N K : gN0} {P9 : Int → gN0} {c9 : Int} {pr od f : gN0} {D R n : Nat} {pa oa ca : Int} (hx : XR (q + 2) K P9 c9 Sh V) (hL : LB q w N Sh V) (hI0 : INV K) (hA : AgO N K) (hpa : Sh pa = some (100, 3)) (hoa : Sh oa = some (100, 3)) (hca : Sh ca = some (100, 3)) (hne : w + 152 ≤ pa ∧ w + 152 ≤ oa ∧ w + 152 ≤ ca ∧ pa ≠ ca ∧ oa ≠ ca) (hpo : ∀ i, 0 ≤ i → i < 3 → V pa i = pr i ∧ V oa i = od i) (hc : ∀ i : Int, 0 ≤ i → i < n → V ca i = f i) (hf : ∀ i : Int, 0 ≤ i → i < 3 → 0 ≤ f i ∧ f i ≤ 100000) (hIN : INV N) (hD : 1 ≤ D ∧ D ≤ 3) (hR : 1 ≤ R ∧ R ≤ 3) (hn : n < D) (rm0 : Room) (ihB : brC E l q w N pr od D R (n + 1) rm0) (h14 : N 14 = 0) (h15 : N 15 = 0) (hw : pr 0 = N 17 ∧ pr 1 = N 20 ∧ pr 2 = 0 ∧ od 0 = N 13 ∧ od 1 = N 16 ∧ od 2 = 1000 - N 13 - N 16) (hb : (0 ≤ pr 0 ∧ pr 0 ≤ 2000) ∧ (0 ≤ pr 1 ∧ pr 1 ≤ 2000)) : gM E l yL_brings (.code yL_brings cL_brings 10 (some .long)) (rmS rm0) [(2, q), (2, pa), (2, oa), (0, (D : Int)), (0, (R : Int)), (2, ca), (0, (n : Int))] Sh V z (gRe (some (1, vaO N f D R n)) (fun V' => (∃ (K' : gN0) (P' : Int → gN0) (c' : Int), AgO N K' ∧ INV K' ∧ XR (q + 2) K' P' c' Sh V') ∧ LB q w N Sh V' ∧ (V' pa = V pa ∧ V' oa = V oa) ∧ ∀ i : Int, 0 ≤ i → i < n → V' ca i = V ca i) Sh) := by
  refine gM_at (L0 := [(2, q), (2, pa), (2, oa), (0, (D : Int)), (0, (R : Int)), (2, ca), (0, (n : Int)), (9, 0), (9, 0), (9, 0)]) rfl rfl rfl ?_
  intro p e s m args below meth c hC hr hex hnm hz
  have hqw := hL.a0
  have hIc := hIN.1
  have hsc := hIc.1
  unfold iScal at hsc
  refine gB hC _ _ _ _ _ _ _ qL_brings_0 rfl ?_
  refine g_icmp_ge hC 69 dL_brings_3 rfl (by first | omega | exact cmpZ_in _ _ | exact bI_in _) (by first | omega | exact cmpZ_in _ _ | exact bI_in _) (fun c3 => ?_) (fun c3 => ?_)
  · exact absurd c3 (by omega) --stop
  · refine gB hC _ _ _ _ _ _ _ qL_brings_6 rfl ?_
    refine g_kn9 (k1 := rcN rm0.cells 0) (n1 := rcN rm0.slots 0) (Nat.le_refl _) (Nat.le_refl _) ?_
    refine g_loopB (fun x : gV × Nat × gN0 × (Int → gN0) × Int => XR (q + 2) x.2.2.1 x.2.2.2.1 x.2.2.2.2 Sh x.1 ∧ LB q w N Sh x.1 ∧ INV x.2.2.1 ∧ AgO N x.2.2.1 ∧ x.2.1 ≤ 3 ∧ (x.1 pa = V pa ∧ x.1 oa = V oa) ∧ ∀ i : Int, 0 ≤ i → i < n → x.1 ca i = V ca i) (fun x => 3 - x.2.1) 12 (fun x => [(2, q), (2, pa), (2, oa), (0, (D : Int)), (0, (R : Int)), (2, ca), (0, (n : Int)), (1, suB N f pr od D R n x.2.1), (9, 0), (0, (x.2.1 : Int))]) (fun x => x.1) (fun x => rcN rm0.cells x.2.1) (fun x => rcN rm0.slots x.2.1) (V, 0, K, P9, c9) ⟨hx, hL, hI0, hA, by show (0 : Nat) ≤ 3; decide, ⟨rfl, rfl⟩, fun _ _ _ => rfl⟩ ?_
    rintro ⟨V1, j, K1, P1, c1⟩ z ⟨hx1, hL1, hI1, hA1, hj, hk1, hc1⟩ ih12
    dsimp only at hx1 hL1 hI1 hA1 hj hk1 hc1 ih12 ⊢
    refine gB hC _ _ _ _ _ _ _ qL_brings_12 rfl ?_
    refine g_icmp_ge hC 66 dL_brings_15 rfl (by first | omega | exact cmpZ_in _ _ | exact bI_in _) (by first | omega | exact cmpZ_in _ _ | exact bI_in _) (fun c15 => ?_) (fun c15 => ?_)
    · obtain rfl : j = 3 := by omega
      refine gB hC _ _ _ _ _ _ _ qL_brings_66 rfl ?_
      refine g_lreturn hC dL_brings_68 hr ⟨?_, rfl, ?_⟩ gs_rfl ⟨by show rcN rm0.cells 3 ≤ 3 * rm0.cells; simp only [rcN]; omega, by show rcN rm0.slots 3 ≤ 3 * rm0.slots; simp only [rcN]; omega⟩
      · rw [← vaO_all (a := upN f n (pr 0)) (b := upN f n (pr 1)) (c := upN f n (pr 2)) (g := f) hIN.2.2 h14 h15 hn (fun i i0 i1 => upN_ne (by omega)) (fun i i0 i1 => upN_ne (by omega)) (fun i i0 i1 => upN_ne (by omega)) ((upN_eq _ _ _).trans hw.1) ((upN_eq _ _ _).trans hw.2.1) ((upN_eq _ _ _).trans hw.2.2.1), ← hw.2.2.2.2.2, ← hw.2.2.2.1, ← hw.2.2.2.2.1, ← Int.zero_add (od 0 * _)]; rfl
      · exact ⟨⟨K1, P1, c1, hA1, hI1, hx1⟩, hL1, hk1, hc1⟩
    · have hpj := hpo (j : Int) (by omega) (by omega)
      have hjj : (j : Int) = 0 ∨ (j : Int) = 1 ∨ (j : Int) = 2 := by omega
      have hoo := hIN.2.2
      unfold oOk at hoo
      have hodj : 0 ≤ od (j : Int) ∧ od (j : Int) ≤ 1000 ∧ 0 ≤ pr (j : Int) ∧ pr (j : Int) ≤ 2000 := by rcases hjj with h | h | h <;> rw [h] <;> omega
      refine gB hC _ _ _ _ _ _ _ qL_brings_18 rfl ?_
      refine g_iald hC dL_brings_25 hpa (show V1 pa (j : Int) = pr (j : Int) by rw [hk1.1]; exact hpj.1) (by omega) (by omega) (by decide) (fun i25 => ?_)
      refine g_ast hC dL_brings_26 hca (by omega) (by omega) (by decide) (by first | omega | exact cmpZ_in _ _ | exact bI_in _) (fun V26 e26 => ?_)
      have hL26 := LB_p (by omega) hL1 hne.2.2.1 e26
      have hx26 := XR_r0 hx1 hI1 hqw e26 (Or.inr (by omega))
      have hk26 : V26 pa = V pa ∧ V26 oa = V oa := ⟨by rw [e26, up_row _ _ _ hne.2.2.2.1]; exact hk1.1, by rw [e26, up_row _ _ _ hne.2.2.2.2]; exact hk1.2⟩
      have hc26 : ∀ i : Int, 0 ≤ i → i < n → V26 ca i = V ca i := fun i i0 i1 => by rw [e26, up_ne _ _ (Or.inr (by omega))]; exact hc1 i i0 i1
      refine gB hC _ _ _ _ _ _ _ qL_brings_27 rfl ?_
      refine g_iald hC dL_brings_30 hoa (show V26 oa (j : Int) = od (j : Int) by rw [hk26.2]; exact hpj.2) (by omega) (by omega) (by decide) (fun i30 => ?_)
      refine g_if_le hC 60 dL_brings_31 rfl (by first | omega | exact cmpZ_in _ _ | exact bI_in _) (fun c31 => ?_) (fun c31 => ?_)
      · refine gB hC _ _ _ _ _ _ _ qL_brings_60 rfl ?_
        refine g_kn9 (k1 := rcN rm0.cells (j + 1)) (n1 := rcN rm0.slots (j + 1)) (Nat.le_add_right _ _) (Nat.le_add_right _ _) ?_
        have hse : suB N f pr od D R n (j + 1) = suB N f pr od D R n j := by show suB N f pr od D R n j + od j * _ = suB N f pr od D R n j; rw [show od (j : Int) = 0 by omega, Int.zero_mul, Int.add_zero]
        have h9 := fun z => ih12 (V26, j + 1, K1, P1, c1) z ⟨hx26, hL26, hI1, hA1, by show j + 1 ≤ 3; omega, hk26, hc26⟩ (by show 3 - (j + 1) < 3 - j; omega)
        simp only [hse] at h9
        exact h9 _
      · refine gB hC _ _ _ _ _ _ _ qL_brings_34 rfl ?_
        refine g_iald hC dL_brings_39 hoa (show V26 oa (j : Int) = od (j : Int) by rw [hk26.2]; exact hpj.2) (by omega) (by omega) (by decide) (fun i39 => ?_)
        refine g_i2l hC dL_brings_40 (by first | omega | exact cmpZ_in _ _ | exact bI_in _) ?_
        have hcall := fun z => ihB Sh V26 z K1 P1 c1 pa oa ca (upN f n (pr (j : Int))) hx26 hL26 hI1 hA1 hpa hoa hca hne (fun i i0 i1 => by rw [hk26.1, hk26.2]; exact hpo i i0 i1) (fun i i0 i1 => by
          by_cases hi : i = (n : Int)
          · rw [hi, upN_eq, e26, up_eq]
          · rw [upN_ne hi, hc26 i i0 (by omega)]; exact hc i i0 (by omega)) (fun i i0 i1 => by
          by_cases hi : i = (n : Int)
          · rw [hi, upN_eq]; omega
          · rw [upN_ne hi]; exact hf i i0 i1)
        refine gB hC _ _ _ _ _ _ _ qL_brings_41 rfl ?_
        refine g_cV1e hC dL_brings_53 mL_257 vL_brings (hcall _) rfl hL26.sL (by decide) rfl (Nat.le_of_ble_eq_true rfl) (⟨⟨by show rm0.frames + 1 ≤ rm0.frames + 2; omega, by show 8 + (10 + 11) + rm0.locals ≤ rm0.locals + 40; omega⟩, Nat.le_trans (rcN_le rm0.cells j (by omega)) (Nat.le_refl _), Nat.le_trans (rcN_le rm0.slots j (by omega)) (Nat.le_refl _)⟩) (fun z V53 e53 => ?_)
        obtain ⟨⟨K2, P2, c2, hA2, hI2, hx2⟩, hL2, hk2, hc2⟩ := e53
        have hk53 : V53 pa = V pa ∧ V53 oa = V oa := ⟨hk2.1.trans hk26.1, hk2.2.trans hk26.2⟩
        have hc53 : ∀ i : Int, 0 ≤ i → i < n → V53 ca i = V ca i := fun i i0 i1 => (hc2 i i0 (by omega)).trans (hc26 i i0 i1)
        refine gB hC _ _ _ _ _ _ _ qL_brings_56 rfl ?_
        refine gB hC _ _ _ _ _ _ _ qL_brings_60 rfl ?_
        refine g_kn9 (k1 := rcN rm0.cells (j + 1)) (n1 := rcN rm0.slots (j + 1)) (Nat.le_refl _) (Nat.le_refl _) ?_
        have hse : suB N f pr od D R n (j + 1) = suB N f pr od D R n j + od j * vaO N (upN f n (pr (j : Int))) D R (n + 1) := rfl
        have h9 := fun z => ih12 (V53, j + 1, K2, P2, c2) z ⟨hx2, hL2, hI2, hA2, by show j + 1 ≤ 3; omega, hk53, hc53⟩ (by show 3 - (j + 1) < 3 - j; omega)
        simp only [hse] at h9
        exact h9 _

def rmB : Nat → Room
  | 0 => rmk 13 420 4200 480
  | m + 1 => rmS (rmB m)
theorem kL_bringsI {E : gE} {l : Launch} {q w : Int} {N pr od : gN0} {D R : Nat} (hIN : INV N) (hD : 1 ≤ D ∧ D ≤ 3) (hR : 1 ≤ R ∧ R ≤ 3) (h14 : N 14 = 0) (h15 : N 15 = 0) (hw : pr 0 = N 17 ∧ pr 1 = N 20 ∧ pr 2 = 0 ∧ od 0 = N 13 ∧ od 1 = N 16 ∧ od 2 = 1000 - N 13 - N 16) (hb : (0 ≤ pr 0 ∧ pr 0 ≤ 2000) ∧ (0 ≤ pr 1 ∧ pr 1 ≤ 2000)) : ∀ m n : Nat, n + m = D → brC E l q w N pr od D R n (rmB m) := by
  intro m
  induction m with
  | zero => intro n hn Sh V z K P9 c9 pa oa ca f h1 h2 h3 h4 h5 h6 h7 h8 h9 h10 h11; exact kL_brings0 h1 h2 h3 h4 h5 h6 h7 h8 h9 h10 h11 hIN hD hR (by omega)
  | succ m ih => intro n hn Sh V z K P9 c9 pa oa ca f h1 h2 h3 h4 h5 h6 h7 h8 h9 h10 h11; exact kL_bringsS h1 h2 h3 h4 h5 h6 h7 h8 h9 h10 h11 hIN hD hR (by omega) (rmB m) (ih (n + 1) (by omega)) h14 h15 hw hb
