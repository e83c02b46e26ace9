/-! rooms: none is missing just if none is too many (laid by wip/p47/l14.py) -/
abbrev rhA (N : gN0) (k : Int) : gN0 := (gvT N k (kF N k 0) (N 5).toNat).1
theorem rhA_in (N : gN0) {k : Int} (hk : 0 ≤ kF N k 0) (t : Int) : -1 ≤ rhA N k t ∧ (rhA N k t < kF N k 0 ∨ rhA N k t = -1) := by
  have h := (gvT_in N k hk (N 5).toNat).2.2.2 t
  unfold rhA
  omega
theorem rhA_un {N : gN0} {k s t : Int} (hI : InvC N) (hst : s ≠ t) (e : rhA N k s = rhA N k t) (hn : rhA N k s ≠ -1) (h1 : sF N s 2 ≤ sF N t 2 + sF N t 3 - 1) (h2 : sF N t 2 ≤ sF N s 2 + sF N s 3 - 1) (h3 : 1 ≤ sF N s 3) (h4 : 1 ≤ sF N t 3) : False := by
  obtain ⟨m, f, H⟩ := SRT_ex N k (N 5).toNat
  have he := gv_end (R := kF N k 0) hI H
  unfold rhA at e hn
  rw [he] at e hn
  exact gv_uniq hI H (d := max (sF N s 2) (sF N t 2)) hst e hn (by omega) (by omega)
/-- a stay is without a room just if a night has more stays than rooms -/
theorem er_all {N : gN0} {k : Int} (hI : InvC N) (hk : 0 ≤ kF N k 0) : (erI N (rhA N k) k (N 5).toNat).1 = (erI N (rhA N k) k (N 5).toNat).2 := by
  have hsc := hI.1
  unfold iScal at hsc
  obtain ⟨m, f, H⟩ := SRT_ex N k (N 5).toNat
  have he := gv_end (R := kF N k 0) hI H
  have h1 := (er_1 N (rhA N k) k (N 5).toNat).1
  have h2 := (er_1 N (rhA N k) k (N 5).toNat).2
  have hi := erI_in N (rhA N k) k (N 5).toNat
  unfold IFF at h1 h2
  have key : (∃ s : Int, 0 ≤ s ∧ s < ((N 5).toNat : Int) ∧ alK N k s ∧ kF N k 0 < cnt N k (sF N s 2)) ↔ (∃ s : Int, 0 ≤ s ∧ s < ((N 5).toNat : Int) ∧ alK N k s ∧ rhA N k s = -1) := by
    constructor
    · rintro ⟨s, s0, s1, sa, hc⟩
      apply Classical.byContradiction
      intro hno
      have hall : ∀ u : Int, 0 ≤ u → u < ((N 5).toNat : Int) → alK N k u → rhA N k u ≠ -1 := fun u u0 u1 ua hu => hno ⟨u, u0, u1, ua, hu⟩
      have c1 := cnt_cl (rho := rhA N k) (d := sF N s 2) (N 5).toNat hall
      have hrg : ∀ u : Int, 0 ≤ u → u < ((N 5).toNat : Int) → rhA N k u = -1 ∨ (0 ≤ rhA N k u ∧ rhA N k u < ((kF N k 0).toNat : Int)) := fun u _ _ => by have := rhA_in N hk u; omega
      have hun : ∀ a b : Int, 0 ≤ a → a < b → b < ((N 5).toNat : Int) → rhA N k a = rhA N k b → rhA N k a ≠ -1 → (sF N a 2 ≤ sF N s 2 ∧ sF N s 2 ≤ sF N a 2 + sF N a 3 - 1) → (sF N b 2 ≤ sF N s 2 ∧ sF N s 2 ≤ sF N b 2 + sF N b 3 - 1) → False := fun a b a0 ab b1 e hn d1 d2 => by
        unfold rhA at e hn
        rw [he] at e hn
        exact gv_uniq hI H (by omega) e hn d1 d2
      have c2 := cl_nd (rho := rhA N k) (d := sF N s 2) (m := 45) (U := (kF N k 0).toNat) (N 5).toNat hrg hun
      have c3 := cl_nd (rho := rhA N k) (d := sF N s 2) (m := 20) (U := (kF N k 0).toNat) (N 5).toNat hrg hun
      have c4 := nd_U (N := N) (rho := rhA N k) (d := sF N s 2) (N 5).toNat (kF N k 0).toNat
      have c5 : cnt N k (sF N s 2) = cntT N k (sF N s 2) (N 5).toNat := rfl
      omega
    · rintro ⟨s, s0, s1, sa, hr⟩
      obtain ⟨i, i0, i1, rfl⟩ := H.2.2.1 s s0 (by omega) sa
      refine ⟨f i, s0, s1, sa, ?_⟩
      obtain ⟨i, rfl⟩ : ∃ j : Nat, i = (j : Int) := ⟨i.toNat, by omega⟩
      have hkp := gv_keep (R := kF N k 0) hI H m (j := i) (by omega) (Nat.le_refl m)
      have hr : (gvT N k (kF N k 0) (N 5).toNat).1 (f i) = -1 := hr
      rw [he, hkp] at hr
      have hch := lrT_ch N (gvT N k (kF N k 0) i).1 k (f i) (kF N k 0).toNat 0
      have htk : ∀ q : Int, 0 ≤ q → q < 0 + ((kF N k 0).toNat : Int) → tkT N (gvT N k (kF N k 0) i).1 k q (f i) (N 5).toNat = 1 := by
        rcases hch with h | h
        · exact h.2
        · exact absurd hr (by omega)
      have := gv_occ (R := kF N k 0) hI H (i := i) (q := (kF N k 0).toNat) (by omega) (fun r r0 r1 => htk r r0 (by omega))
      omega
  rcases hi.1 with a | a <;> rcases hi.2 with b | b <;> rw [a, b]
  · exact absurd (h1.mpr (key.mpr (h2.mp b))) (by omega)
  · exact absurd (h2.mpr (key.mp (h1.mp a))) (by omega)
theorem er_0 {N : gN0} (hI : InvC N) : ∀ n : Nat, (n : Int) ≤ N 1 → erK N n = 0 := by
  intro n
  induction n with
  | zero => intro _; rfl
  | succ n ih =>
    intro hn
    have hk := hI.2.1 n (by omega) (by omega)
    unfold kOk at hk
    rw [erK, ih (by omega), if_pos (er_all hI (by omega))]; rfl
theorem cnt_00 {N : gN0} (hI : InvC N) (k : Int) : cnt N k 0 = 0 := by
  have key : ∀ n : Nat, (n : Int) ≤ N 5 → cntT N k 0 n = 0 := by
    intro n
    induction n with
    | zero => intro _; rfl
    | succ n ih =>
      intro hn
      have hs := (hI.2.2.2.1 n (by omega) (by omega)).1
      rw [cntT, if_neg (by omega), ih (by omega)]; rfl
  have hsc := hI.1
  unfold iScal at hsc
  exact key _ (by omega)
