section RHU
variable {h : Int} {N M : gN0} {Sh : gSh} {V V' : gV}
/-- a stay's row with another state or deposit -/
theorem stR_of {a s : Int} (H : stR a s N V) (h14 : sF N s 3 ≤ 14) (e0 : V' a 0 = sF M s 0) (e8 : V' a 8 = sF M s 6) (er : ∀ j, j ≠ 0 → j ≠ 8 → V' a j = V a j) (eN : ∀ w, 0 ≤ w → w < 24 → w ≠ 0 → w ≠ 6 → sF M s w = sF N s w) (e1 : V' (a + 1) = V (a + 1)) : stR a s M V' := by
  have ep : ∀ n : Nat, n ≤ 14 → prT M s n = prT N s n := by
    intro n
    induction n with
    | zero => intro _; rfl
    | succ n ih => intro hn; unfold prT; rw [ih (by omega), eN _ (by omega) (by omega) (by omega) (by omega)]
  obtain ⟨⟨a0, a1, a2, a3, a4, a5, a6, a7, a8, a9, a10⟩, b⟩ := H
  have e3 := eN 3 (by decide) (by decide) (by decide) (by decide)
  have e7 : sPr M s = sPr N s := by unfold sPr; rw [e3]; exact ep _ (by omega)
  refine ⟨⟨e0, ?_, ?_, ?_, ?_, ?_, ?_, ?_, e8, ?_, ?_⟩, fun n n0 n1 => ?_⟩
  · rw [er 1 (by decide) (by decide), eN 1 (by decide) (by decide) (by decide) (by decide)]; exact a1
  · rw [er 2 (by decide) (by decide), eN 2 (by decide) (by decide) (by decide) (by decide)]; exact a2
  · rw [er 3 (by decide) (by decide), e3]; exact a3
  · rw [er 4 (by decide) (by decide), eN 4 (by decide) (by decide) (by decide) (by decide)]; exact a4
  · rw [er 5 (by decide) (by decide), eN 5 (by decide) (by decide) (by decide) (by decide)]; exact a5
  · rw [er 6 (by decide) (by decide), eN 7 (by decide) (by decide) (by decide) (by decide)]; exact a6
  · rw [er 7 (by decide) (by decide), e7]; exact a7
  · rw [er 9 (by decide) (by decide), eN 8 (by decide) (by decide) (by decide) (by decide)]; exact a9
  · rw [er 10 (by decide) (by decide), eN 9 (by decide) (by decide) (by decide) (by decide)]; exact a10
  · rw [e1, eN _ (by omega) (by omega) (by omega) (by omega)]; rw [e3] at n1; exact b n n0 n1
/-- one stay's row and the books change -/
theorem RH_T {s : Int} (H : RH h N Sh V) (hz : szO N) (h0 : 0 ≤ s) (h1 : s < 60) (hA : AgT N M s) (hV : ∀ a, a ≠ h + 6 + 2 * s → a ≠ h + 6 + 2 * s + 1 → a ≠ h + 126 → V' a = V a) (hp : V' (h + 6 + 2 * s) 11 = h + 6 + 2 * s + 1) (hs : s < N 5 → stR (h + 6 + 2 * s) s M V') (hb : ∀ i, 0 ≤ i → i < 4 → V' (h + 126) i = M (9 + i)) : RH h M Sh V' := by
  obtain ⟨z1, z2, z5, z7, z26, zs⟩ := hz
  obtain ⟨a1, a2, a3, a4, a5, a6, a7, a8, a9, a10⟩ := H
  have lo := fun j hj => hA.lo (j := j) h0 hj
  refine ⟨a1, ptH_ag a2 (fun c j hc => ?_), vH_ag (fun j x y => lo j (by omega)) (fun j _ _ => by rw [hV _ (by omega) (by omega) (by omega)]) (by rw [hV _ (by omega) (by omega) (by omega)]) a3,
    vK_ag (lo 1 (by omega)) z1 (fun j hj => hA j (by omega) (by omega)) (fun a x y => hV a (by omega) (by omega) (by omega)) a4, vE_ag (lo 2 (by omega)) z2 (fun j x y => lo j (by omega)) (fun a x y => hV a (by omega) (by omega) (by omega)) a5,
    fun t t0 t1 => ?_, vG_ag (lo 7 (by omega)) z7 (fun j x y => hA j (by omega) (by omega)) (fun a x y => hV a (by omega) (by omega) (by omega)) a7,
    hb, vM_ag (fun j x y => lo j (by omega)) (hV _ (by omega) (by omega) (by omega)) (hV _ (by omega) (by omega) (by omega)) a9, vA_ag z26 (fun j x y => lo j (by omega)) (hV _ (by omega) (by omega) (by omega)) (hV _ (by omega) (by omega) (by omega)) a10⟩
  · by_cases hc2 : h + c = h + 6 + 2 * s
    · unfold isPt at hc
      obtain rfl : j = 11 := by omega
      rw [hc2, hp]
      exact (a2.pn h0 h1).symm
    · unfold isPt at hc
      rw [hV _ hc2 (by omega) (by omega)]
  · rw [lo 5 (by omega)] at t1
    by_cases ht : t = s
    · subst ht; exact hs t1
    · exact stR_ag (fun w w0 w1 => by unfold sF; exact hA _ (by omega) (by omega)) (zs t t0 t1) (hV _ (by omega) (by omega) (by omega)) (hV _ (by omega) (by omega) (by omega)) (a6 t t0 t1)
/-- one stay has another state -/
theorem RH_st {s x : Int} (H : RH h N Sh V) (hz : szO N) (h0 : 0 ≤ s) (h1 : s < N 5) (e : V' = up V (h + 6 + 2 * s) 0 x) : RH h (upN N (56 + s * 24 + 0) x) Sh V' := by
  subst e
  have z5 := hz.2.2.1
  refine RH_T (s := s) H hz h0 (by omega) (fun j h _ => upN_ne (by omega)) (fun a h2 _ _ => up_row _ _ _ h2) ?_ (fun h5 => ?_) (fun i i0 i1 => ?_)
  · rw [up_ne _ _ (Or.inr (by decide))]; exact H.2.1.pn h0 (by omega)
  · refine stR_of (H.st h0 h1) (hz.2.2.2.2.2 s h0 h1) ?_ ?_ (fun j j0 _ => up_ne _ _ (Or.inr j0)) (fun w _ _ w0 _ => upN_ne (by omega)) (up_row _ _ _ (by omega))
    · rw [up_eq]; exact (upN_eq _ _ _).symm
    · rw [up_ne _ _ (Or.inr (by decide)), (H.st h0 h1).f8]; exact (stN_w N s x (w := 6) (by decide)).symm
  · rw [up_ne _ _ (Or.inl (by omega)), H.b i0 i1]
    exact (upN_ne (by omega)).symm
theorem szO_ag (hz : szO N) (e1 : M 1 = N 1) (e2 : M 2 = N 2) (e5 : M 5 = N 5) (e7 : M 7 = N 7) (e26 : M 26 = N 26) (e3 : ∀ s, 0 ≤ s → s < N 5 → sF M s 3 ≤ 14) : szO M := by
  obtain ⟨z1, z2, z5, z7, z26, zs⟩ := hz
  refine ⟨by omega, by omega, by omega, by omega, by omega, fun s s0 s1 => e3 s s0 (by omega)⟩
/-- numbers of the hotel itself change -/
theorem RH_H (H : RH h N Sh V) (hz : szO N) (hN : ∀ j, 9 ≤ j → M j = N j) (e1 : M 1 = N 1) (e2 : M 2 = N 2) (e5 : M 5 = N 5) (e7 : M 7 = N 7) (hV : ∀ a, a ≠ h → V' a = V a) (hp : ∀ j, 8 ≤ j → j ≤ 14 → V' h j = V h j)
    (g0 : V' h 0 = M 0) (g1 : rfR (V' h 1) (M 8)) (g2 : V' h 2 = M 1) (g3 : V' h 3 = M 2) (g4 : V' h 4 = M 7) (g5 : V' h 5 = M 6) (g6 : V' h 6 = M 3) (g7 : V' h 7 = M 4) : RH h M Sh V' := by
  obtain ⟨z1, z2, z5, z7, z26, zs⟩ := hz
  obtain ⟨a1, a2, a3, a4, a5, a6, a7, a8, a9, a10⟩ := H
  refine ⟨a1, ptH_ag a2 (fun c j hc => ?_), ⟨g0, g1, g2, g3, g4, g5, g6, g7, ?_⟩, vK_ag e1 z1 (fun j hj => hN j (by omega)) (fun a x y => hV a (by omega)) a4, vE_ag e2 z2 (fun j x y => hN j (by omega)) (fun a x y => hV a (by omega)) a5,
    vS_ag e5 z5 zs (fun j x y => hN j (by omega)) (fun a x y => hV a (by omega)) a6, vG_ag e7 z7 (fun j x y => hN j (by omega)) (fun a x y => hV a (by omega)) a7,
    vB_ag (fun j x y => hN j (by omega)) (hV _ (by omega)) a8, vM_ag (fun j x y => hN j (by omega)) (hV _ (by omega)) (hV _ (by omega)) a9, vA_ag z26 (fun j x y => hN j (by omega)) (hV _ (by omega)) (hV _ (by omega)) a10⟩
  · unfold isPt at hc
    by_cases hc0 : c = 0
    · subst hc0; rw [Int.add_zero]; exact hp j (by omega) (by omega)
    · rw [hV _ (by omega)]
  · rw [hV _ (by omega), e5]; exact a3.2.2.2.2.2.2.2.2
end RHU
section GLT
variable {E : gE} {nL : Nat} {p : Program} {l : Launch} {e : Env} {R : Room} {s : State} {m : MethodId} {args : Array Value} {below : List Frame} {meth : Method} {c : Code} {Q : State → Prop} {pc k n : Nat} {L st : List aV} {Sh : gSh} {V : gV} {z : Int}
/-- cells lie ahead of what is free -/
theorem g_lts (kk : (∀ a sh, Sh a = some sh → (E.1 : Int) ≤ a ∧ a < z) → gG E nL p l e R s m args below meth c Q pc L st Sh V z k n) : gG E nL p l e R s m args below meth c Q pc L st Sh V z k n := by
  intro H locs ls h1 h2 h3 h4 h5
  refine kk (fun a sh ha => ?_) H locs ls h1 h2 h3 h4 h5
  have h6 := h1 a sh ha
  have h7 := cOk_lt h6.2
  omega
end GLT
/-- beside a new cell -/
theorem RH_new {h z : Int} {N : gN0} {Sh : gSh} {V V' : gV} {sh : Nat × Nat} (H : RH h N Sh V) (hz : szO N) (hl : h + 162 ≤ z) (hV : ∀ a, a ≠ z → V' a = V a) : RH h N (shp Sh z sh) V' := by
  have h1 : RH h N Sh V' := RH_ag H hz (fun _ _ _ => rfl) (fun a x y => hV a (by omega))
  exact ⟨fun j j0 j1 => (shp_ne _ _ (by omega)).trans (H.1 j j0 j1), h1.2⟩
theorem pwZ_pw : ∀ n : Nat, pwZ 1000 n = pw n := by
  intro n
  induction n with
  | zero => rfl
  | succ n ih => show pwZ 1000 n * 1000 = pw n * 1000; rw [ih]
theorem isP_le (f : gN0) (x : Int) : ∀ n : Nat, isP f x n ≤ n := by
  intro n
  induction n with
  | zero => exact Nat.le_refl _
  | succ n ih => unfold isP; split <;> omega
theorem isP_ag {f g : gN0} {x : Int} : ∀ n : Nat, (∀ i : Int, 0 ≤ i → i < n → f i = g i) → isP f x n = isP g x n := by
  intro n
  induction n with
  | zero => intro _; rfl
  | succ n ih => intro h; unfold isP; rw [ih (fun i a b => h i a (by omega)), h n (by omega) (by omega)]
theorem isT_ag {f g : gN0} {x : Int} {n : Nat} (h : ∀ i : Int, 0 ≤ i → i < n → f i = g i) {i : Int} (h0 : 0 ≤ i) (h1 : i ≤ n) : isT f n x i = isT g n x i := by
  have hp := isP_le g x n
  unfold isT
  rw [isP_ag n h]
  split
  · exact h i h0 (by omega)
  · split
    · rfl
    · exact h _ (by omega) (by omega)
/-- a row with some moved up -/
def insV (V : gV) (a0 n t : Int) : gV := fun a j => if a = a0 ∧ t < j ∧ j ≤ n then V a (j - 1) else V a j
theorem insV_0 (V : gV) (a0 n : Int) : V = insV V a0 n n := by
  funext a j
  unfold insV
  rw [if_neg (by omega)]
theorem insV_up {V : gV} {a0 n t : Int} (h : t ≤ n) : up (insV V a0 n t) a0 t (V a0 (t - 1)) = insV V a0 n (t - 1) := by
  funext a j
  unfold up insV
  by_cases h1 : a = a0 ∧ j = t
  · rw [if_pos h1, if_pos (by omega), h1.1, h1.2]
  · rw [if_neg h1]
    by_cases h2 : a = a0 ∧ t < j ∧ j ≤ n
    · rw [if_pos h2, if_pos (by omega)]
    · rw [if_neg h2, if_neg (by omega)]
/-- the sum of the first ones of the sorted offers -/
def bsT (N : gN0) : Nat → Int
  | 0 => 0
  | n + 1 => bsT N n + soT N (N 26).toNat (n : Int)

