/-! one stay is another, and the books: what stays -/
def AgT (N M : gN0) (s : Int) : Prop := ∀ j, (j < 56 + s * 24 ∨ 56 + s * 24 + 24 ≤ j) → (j < 9 ∨ 12 < j) → M j = N j
theorem phT_s {N M : gN0} {s : Int} (h : AgT N M s) (h0 : 0 ≤ s) : ∀ n : Nat, phT M n = phT N n + (if s < n then phi (sF M s 0) - phi (sF N s 0) else 0) := by
  intro n
  induction n with
  | zero => rw [if_neg (by omega)]; rfl
  | succ n ih =>
    unfold phT
    rw [ih]
    by_cases q : (n : Int) = s
    · rw [if_neg (by omega), if_pos (by omega), q]; omega
    · have e : sF M n 0 = sF N n 0 := h _ (by omega) (by omega)
      rw [e]
      by_cases h2 : s < n
      · rw [if_pos h2, if_pos (by omega)]; omega
      · rw [if_neg h2, if_neg (by omega)]; omega
theorem AgT.lo {N M : gN0} {s j : Int} (h : AgT N M s) (h0 : 0 ≤ s) (hj : j < 9 ∨ (12 < j ∧ j < 56)) : M j = N j := h j (by omega) (by omega)
theorem InvC_s {N M : gN0} {s : Int} (h : AgT N M s) (h0 : 0 ≤ s) (h1 : s < 60) (hI : InvC N) (hs : sOk M s) : InvC M := by
  obtain ⟨i1, i2, i3, i4, i5⟩ := hI
  have hsc := i1
  unfold iScal at hsc
  have lo : ∀ j, (j < 9 ∨ (12 < j ∧ j < 56)) → M j = N j := fun j hj => h.lo h0 hj
  refine ⟨?_, ?_, ?_, ?_, ?_⟩
  · unfold iScal
    rw [lo 0 (by decide), lo 1 (by decide), lo 2 (by decide), lo 3 (by decide), lo 4 (by decide), lo 5 (by decide), lo 6 (by decide), lo 7 (by decide)]
    exact i1
  · intro k a0 a1
    rw [lo 1 (by decide)] at a1
    have := i2 k a0 a1
    have e : ∀ w, 0 ≤ w → w < 3 → kF M k w = kF N k w := fun w _ _ => lo _ (by omega)
    unfold kOk at this ⊢
    rw [e 0 (by decide) (by decide), e 1 (by decide) (by decide), e 2 (by decide) (by decide)]
    exact this
  · intro k a0 a1
    rw [lo 2 (by decide)] at a1
    have := i3 k a0 a1
    have e : ∀ w, 0 ≤ w → w < 4 → seF M k w = seF N k w := fun w _ _ => lo _ (by omega)
    unfold seOk at this ⊢
    rw [e 0 (by decide) (by decide), e 1 (by decide) (by decide), e 2 (by decide) (by decide), e 3 (by decide) (by decide)]
    exact this
  · intro t a0 a1
    rw [lo 5 (by decide)] at a1
    by_cases ht : t = s
    · subst ht; exact hs
    · have := i4 t a0 a1
      have e : ∀ w, 0 ≤ w → w < 24 → sF M t w = sF N t w := fun w a b => h _ (by omega) (by omega)
      have h7 := this.1
      unfold sOk at this ⊢
      rw [e 0 (by decide) (by decide), e 1 (by decide) (by decide), e 2 (by decide) (by decide), e 3 (by decide) (by decide), e 4 (by decide) (by decide), e 5 (by decide) (by decide), e 6 (by decide) (by decide), e 7 (by decide) (by decide), e 8 (by decide) (by decide), e 9 (by decide) (by decide), lo 1 (by decide)]
      refine ⟨this.1, fun n n0 n1 => ?_⟩
      rw [e (10 + n) (by omega) (by omega)]
      exact this.2 n n0 n1
  · intro g a0 a1
    rw [lo 7 (by decide)] at a1
    have := i5 g a0 a1
    have e : ∀ w, 0 ≤ w → gF M g w = gF N g w := fun w _ => h _ (by omega) (by omega)
    unfold gOk at this ⊢
    rw [e 0 (by decide), e 1 (by decide), e 2 (by decide), e 3 (by decide), e 4 (by decide), lo 1 (by decide)]
    exact this
theorem INV_s {N M : gN0} {s : Int} (h : AgT N M s) (h0 : 0 ≤ s) (h1 : s < N 5) (hI : INV N) (hs : sOk M s)
    (hb : N 9 - (phi (sF M s 0) - phi (sF N s 0)) ≤ M 9 ∧ M 9 ≤ N 9 + (phi (sF M s 0) - phi (sF N s 0)) ∧ N 10 - (phi (sF M s 0) - phi (sF N s 0)) ≤ M 10 ∧ M 10 ≤ N 10 + (phi (sF M s 0) - phi (sF N s 0)) ∧ N 11 - (phi (sF M s 0) - phi (sF N s 0)) ≤ M 11 ∧ M 11 ≤ N 11 + (phi (sF M s 0) - phi (sF N s 0)) ∧ N 12 - (phi (sF M s 0) - phi (sF N s 0)) ≤ M 12 ∧ M 12 ≤ N 12 + (phi (sF M s 0) - phi (sF N s 0)) ∧ M 9 + M 10 + M 11 + M 12 = N 9 + N 10 + N 11 + N 12) : INV M := by
  obtain ⟨hC, hbk, ho⟩ := hI
  have hsc := hC.1
  unfold iScal at hsc
  refine ⟨InvC_s h h0 (by omega) hC hs, ?_, oOk_of (fun j a b => h.lo h0 (by omega)) ho⟩
  have hp : Phi M = Phi N + (phi (sF M s 0) - phi (sF N s 0)) := by
    unfold Phi
    rw [h.lo h0 (j := 5) (by omega), phT_s h h0, if_pos (by omega)]
  unfold bOk at hbk ⊢
  rw [hp]
  omega
/-- a stay gets another state -/
def stN (N : gN0) (s st : Int) : gN0 := upN N (56 + s * 24 + 0) st
theorem stN_ag (N : gN0) (s st : Int) : AgT N (stN N s st) s := fun j h _ => upN_ne (by omega)
theorem stN_0 (N : gN0) (s st : Int) : sF (stN N s st) s 0 = st := upN_eq _ _ _
theorem stN_w (N : gN0) (s st : Int) {w : Int} (h : w ≠ 0) : sF (stN N s st) s w = sF N s w := upN_ne (by omega)
theorem sOk_st {N : gN0} {s st : Int} (h : sOk N s) (hs : 0 ≤ s) (h0 : 0 ≤ st) (h1 : st ≤ 4) : sOk (stN N s st) s := by
  have e1 : stN N s st 1 = N 1 := upN_ne (by omega)
  have e : ∀ w, w ≠ 0 → sF (stN N s st) s w = sF N s w := fun w hw => stN_w N s st hw
  have e0 := stN_0 N s st
  unfold sOk at h ⊢
  rw [e0, e1, e 1 (by decide), e 2 (by decide), e 3 (by decide), e 4 (by decide), e 5 (by decide), e 6 (by decide), e 7 (by decide), e 8 (by decide), e 9 (by decide)]
  refine ⟨by omega, fun n a b => ?_⟩
  rw [e _ (by omega)]
  exact h.2 n a b
theorem INV_st {N : gN0} {s st : Int} (hI : INV N) (h0 : 0 ≤ s) (h1 : s < N 5) (h2 : 0 ≤ st) (h3 : st ≤ 4) (hp : phi (sF N s 0) ≤ phi st) : INV (stN N s st) := by
  have e : ∀ j, j < 13 → stN N s st j = N j := fun j hj => upN_ne (by omega)
  refine INV_s (stN_ag N s st) h0 h1 hI (sOk_st (hI.1.2.2.2.1 s h0 h1) h0 h2 h3) ?_
  rw [stN_0, e 9 (by decide), e 10 (by decide), e 11 (by decide), e 12 (by decide)]
  omega
theorem mvN_far (N : gN0) {f t a j : Int} (hf : 0 ≤ f ∧ f ≤ 3) (ht : 0 ≤ t ∧ t ≤ 3) (hj : j < 9 ∨ 12 < j) : mvN N f t a j = N j := by
  unfold mvN
  rw [upN_ne (by omega), upN_ne (by omega)]
theorem sOk_mv {N : gN0} {s f t a : Int} (h : sOk N s) (hs : 0 ≤ s) (hf : 0 ≤ f ∧ f ≤ 3) (ht : 0 ≤ t ∧ t ≤ 3) : sOk (mvN N f t a) s := by
  have e1 : mvN N f t a 1 = N 1 := mvN_far N hf ht (by omega)
  have e : ∀ w, 0 ≤ w → sF (mvN N f t a) s w = sF N s w := fun w hw => mvN_far N hf ht (by omega)
  unfold sOk at h ⊢
  rw [e1, e 0 (by decide), e 1 (by decide), e 2 (by decide), e 3 (by decide), e 4 (by decide), e 5 (by decide), e 6 (by decide), e 7 (by decide), e 8 (by decide), e 9 (by decide)]
  refine ⟨h.1, fun n a b => ?_⟩
  rw [e _ (by omega)]
  exact h.2 n a b
/-- what is read of the stays alone -/
def AgR (N M : gN0) : Prop := (∀ j, (j < 9 ∨ (12 < j ∧ j < 56)) → M j = N j) ∧ ∀ s w, 0 ≤ s → s < N 5 → 0 ≤ w → w < 4 → sF M s w = sF N s w
theorem cnt_r {N M : gN0} (h : AgR N M) (h5 : 0 ≤ N 5) (k d : Int) : cnt M k d = cnt N k d := by
  unfold cnt
  rw [h.1 5 (by decide)]
  have : ∀ n : Nat, (n : Int) ≤ N 5 → cntT M k d n = cntT N k d n := by
    intro n
    induction n with
    | zero => intro _; rfl
    | succ n ih =>
      intro hn
      unfold cntT
      rw [ih (by omega), h.2 n 0 (by omega) (by omega) (by decide) (by decide), h.2 n 1 (by omega) (by omega) (by decide) (by decide), h.2 n 2 (by omega) (by omega) (by decide) (by decide), h.2 n 3 (by omega) (by omega) (by decide) (by decide)]
  exact this _ (by omega)
theorem nPr_r {N M : gN0} (h : AgR N M) (hI : InvC N) {k : Int} (hk0 : 0 ≤ k) (hk1 : k < N 1) (d : Int) : nPr M k d = nPr N k d := by
  have hs := hI.1
  unfold iScal at hs
  have ek : ∀ w, 0 ≤ w → w < 3 → kF M k w = kF N k w := fun w _ _ => h.1 _ (by omega)
  have ep : ∀ md p (n : Nat), (n : Int) ≤ N 2 → pctT M md p n = pctT N md p n := by
    intro md p n
    induction n with
    | zero => intro _; rfl
    | succ n ih =>
      intro hn
      have e : ∀ w, 0 ≤ w → w < 4 → seF M n w = seF N n w := fun w _ _ => h.1 _ (by omega)
      unfold pctT
      rw [ih (by omega), e 0 (by decide) (by decide), e 1 (by decide) (by decide), e 2 (by decide) (by decide)]
  have ep : pct M k d = pct N k d := by
    unfold pct
    rw [cnt_r h (by omega), ek 0 (by decide) (by decide), h.1 2 (by decide), h.1 3 (by decide), ep _ _ _ (by omega)]
  unfold nPr
  rw [ep, ek 1 (by decide) (by decide)]
theorem fit_q2 {x1 x2 x3 y1 y2 y3 : Int} (h1 : x1 = y1) (h2 : x2 = 0) (h3 : y2 = 0) : fitC x1 x2 x3 = fitC y1 y2 y3 := by subst h1; subst h2; subst h3; unfold fitC; (repeat' split) <;> omega
section GW2
variable {E : gE} {own : ClassId} {nL : Nat} {p : Program} {l : Launch} {e : Env} {R : Room} {s : State} {m : MethodId} {args : Array Value} {below : List Frame} {meth : Method} {c : Code} {Q : State → Prop} {pc k n : Nat} {L st : List aV} {Sh : gSh} {V : gV} {z : Int}
theorem g_wrap2 {a : aV} {x : Int} (kk : ∀ v, inI v → gG E nL p l e R s m args below meth c Q pc L (a :: (0, v) :: st) Sh V z k n) : gG E nL p l e R s m args below meth c Q pc L (a :: (0, x) :: st) Sh V z k n := by
  have hx : cv (0, x) = cv (0, (Int32.ofInt x).toInt) := by
    show Value.int _ = Value.int _
    rw [Int32.ofInt_toInt]
  have hv : inI (Int32.ofInt x).toInt := by
    have h1 := Int32.le_toInt (Int32.ofInt x)
    have h2 := Int32.toInt_lt (Int32.ofInt x)
    unfold inI
    omega
  have := kk _ hv
  intro H locs ls h1 h2 h3 h4 h5
  have h6 := this H locs ls h1 h2 h3 h4 h5
  simp only [List.map_cons] at h6 ⊢
  rw [hx]
  exact h6
end GW2
