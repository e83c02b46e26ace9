/-! the law's own rows: the double row, the script, the end (laid by wip/whole/gen9c.py) -/
theorem st_cat2v {L L' : List aV} {i : Nat} {v : Value} {lv : List (Nat × Value)} (h : ∀ q ∈ lvl 0 L', q = (0 + i, v) ∨ (q ∈ lvl 0 L ∧ q.1 ≠ 0 + i ∧ q.1 ≠ 0 + i + 1 ∧ ¬ (q.1 + 1 = 0 + i ∧ q.2.category = 2))) (e : (i, v) :: (lvl 0 L).filter (fun q => !(q.1 == i) && (!(q.1 == i + 1) && !(q.1 + 1 == i && q.2.category == 2))) = lv) : ∀ q ∈ lvl 0 L', q ∈ lv := by
  subst e
  intro q hq
  rcases h q hq with h1 | ⟨h1, h2, h4, h3⟩
  · rw [h1, Nat.zero_add]; exact List.mem_cons_self
  · refine List.mem_cons_of_mem _ (List.mem_filter.mpr ⟨h1, ?_⟩)
    rw [Nat.zero_add] at h2 h3 h4
    simp only [Bool.and_eq_true, Bool.not_eq_true', beq_eq_false_iff_ne, Bool.and_eq_false_iff]
    refine ⟨h2, h4, ?_⟩
    by_cases g : q.1 + 1 = i
    · exact Or.inr (fun g2 => h3 ⟨g, g2⟩)
    · exact Or.inl g
section GLW
variable {E : gE} {own : String} {nL : Nat} {p : Program} {l : Launch} {e : Env} {R : Room} {s : State} {m : MethodId} {args : Array Value} {below : List Frame} {meth : Method} {c : Code} {Q : State → Prop} {pc k n : Nat} {L r : List aV} {Sh : gSh} {V : gV} {z : Int} {cc : ByteArray}
theorem g_dald (hC : gC E own cc nL p l s m args meth c) {N : Nat} {a i : Int} {x : UInt64} (hd : decode cc pc = .ok (.daload, 1)) (hsh : Sh a = some (102, N)) (hv : V a i = db x) (h0 : 0 ≤ i) (hn : i < N) (hN : (N : Int) ≤ 2147483647)
    (kk : gG E nL p l e R s m args below meth c Q (pc + 1) L ((4, db x) :: r) Sh V z k n) : gG E nL p l e R s m args below meth c Q pc L ((0, i) :: (2, a) :: r) Sh V z k n := by
  obtain ⟨hx, hb, hml, hown, hts, hlocks, hK, -, -, hE, -⟩ := hC
  intro H locs ls h1 h2 h3 h4 h5
  obtain ⟨ha, hco⟩ := h1 a _ hsh
  unfold cOk at hco
  rw [if_neg (by show ¬ 102 < 100; decide)] at hco
  obtain ⟨q1, q2, q3⟩ := hco
  have ha0 : 0 ≤ a := by omega
  have ei : ((i.toNat : Nat) : Int) = i := by omega
  have hlt : (Int32.ofInt i).toNatClampNeg < N := by rw [in_clamp h0 (by omega)]; omega
  have kk := kk H locs ls h1 h2 h3 h4 h5
  rw [← hv] at kk
  rw [List.map_cons, List.map_cons, cv_ref ha0]
  refine W.dald hx hb q1 ((hK.2 2 _ rfl).1 N _) (fun q => by cases q) (v := cv (4, V a i)) (by show ¬ (_ ∨ (arrV _ _ _).slots.size ≤ _); rw [arrV_size]; exact in_idx h0 (by omega) hn) ?_ rfl rfl hd kk
  show (arrV _ _ _).slots[_]? = _
  rw [arrV_read _ _ hlt, in_clamp h0 (by omega), ei]
  rfl
theorem g_dast (hC : gC E own cc nL p l s m args meth c) {N : Nat} {a i : Int} {x : UInt64} (hd : decode cc pc = .ok (.dastore, 1)) (hsh : Sh a = some (102, N)) (h0 : 0 ≤ i) (hn : i < N) (hN : (N : Int) ≤ 2147483647)
    (kk : ∀ V1, V1 = up V a i (db x) → gG E nL p l e R s m args below meth c Q (pc + 1) L r Sh V1 z k n) : gG E nL p l e R s m args below meth c Q pc L ((4, db x) :: (0, i) :: (2, a) :: r) Sh V z k n := by
  obtain ⟨hx, hb, hml, hown, hts, hlocks, hK, -, -, hE, -⟩ := hC
  intro H locs ls h1 h2 h3 h4 h5
  obtain ⟨ha, hco⟩ := h1 a _ hsh
  unfold cOk at hco
  rw [if_neg (by show ¬ 102 < 100; decide)] at hco
  obtain ⟨q1, q2, q3⟩ := hco
  have ha0 : 0 ≤ a := by omega
  have ei : ((i.toNat : Nat) : Int) = i := by omega
  rw [List.map_cons, List.map_cons, List.map_cons, cv_ref ha0, cv_db]
  refine W.dast hx hb q1 ((hK.2 2 _ rfl).1 N _) (fun q => by cases q) (by show ¬ (_ ∨ (arrV _ _ _).slots.size ≤ _); rw [arrV_size]; exact in_idx h0 (by omega) hn) rfl rfl hd fun H' e1 e2 e3 => ?_
  refine kk _ rfl H' _ ls (gH_put h1 hsh ?_ e3) (by rw [e2]; exact h2) (h3.put e2 e3 (show E.1 ≤ a.toNat by omega)) h4 h5
  unfold cOk
  rw [if_neg (by show ¬ 102 < 100; decide)]
  refine ⟨?_, by show 102 < 108; decide, fun j hj => trivial⟩
  rw [e1, arrV_store, in_clamp h0 (by omega)]
  show some (arrV _ _ _) = some (arrV _ _ _)
  congr 2
  funext j
  rw [up_fun]
  by_cases hji : j = i.toNat
  · subst hji
    simp only [updV, if_true, ei]
    exact (cv_db x).symm
  · have : ¬ (j : Int) = i := by omega
    simp only [updV, if_neg hji, if_neg this]
theorem g_dstore (hC : gC E own cc nL p l s m args meth c) {i : Nat} {x : UInt64} {L' : List aV} (hd : decode cc pc = .ok (.dstore i, 2)) (hL : stK2 L i (4, db x) (fun X => some (X, [])) = some (L', [])) (kk : gG E nL p l e R s m args below meth c Q (pc + 2) L' r Sh V z k n) : gG E nL p l e R s m args below meth c Q pc L ((4, db x) :: r) Sh V z k n := by
  obtain ⟨L1, e1, e2, e3, e4⟩ := stK2_ok L _ 0 _ _ _ hL
  cases e1
  intro H locs ls h1 h2 h3 h4 h5
  rw [cv_db] at e4
  rw [List.map_cons, cv_db]
  exact lv_dstore hC.1 hC.2.1 hd h5 (by omega) rfl (fun ls' h6 => kk H locs ls' h1 h2 h3 (by omega) (lv_mono h6 (st_cat2v e4 rfl)))
theorem g_fstore (hC : gC E own cc nL p l s m args meth c) {i : Nat} {x : UInt32} {L' : List aV} (hd : decode cc pc = .ok (.fstore i, 2)) (hL : stK L i (3, fb x) (fun X => some (X, [])) = some (L', [])) (kk : gG E nL p l e R s m args below meth c Q (pc + 2) L' r Sh V z k n) : gG E nL p l e R s m args below meth c Q pc L ((3, fb x) :: r) Sh V z k n := by
  obtain ⟨L1, e1, e2, e3, e4⟩ := stK_ok L _ 0 _ _ _ hL
  cases e1
  intro H locs ls h1 h2 h3 h4 h5
  rw [cv_fb] at e4
  rw [List.map_cons, cv_fb]
  exact lv_fstore hC.1 hC.2.1 hd h5 (by omega) rfl (fun ls' h6 => kk H locs ls' h1 h2 h3 (by omega) (lv_mono h6 (st_cat1v e4 rfl)))
theorem g_fcmpS (hC : gC E own cc nL p l s m args meth c) {x : UInt32} (hd : decode cc pc = .ok (.fcmp .l, 1)) (hn : vf_n32 x) (kk : gG E nL p l e R s m args below meth c Q (pc + 1) L ((0, 0) :: r) Sh V z k n) : gG E nL p l e R s m args below meth c Q pc L ((3, fb x) :: (3, fb x) :: r) Sh V z k n := by
  intro H locs ls h1 h2 h3 h4 h5
  have h := kk H locs ls h1 h2 h3 h4 h5
  simp only [List.map_cons, cv_fb] at h ⊢
  have e : cv ((0 : Nat), (0 : Int)) = Value.int (Op.cmpValue (FP.fcmp x x) .l) := by rw [fcmp_self hn]; rfl
  rw [e] at h
  exact lv_fcmp hC.1 hC.2.1 hd h
/-- what the script holds -/
def svI (xs : Nat → Int32) (i : Int) : Int := (xs i.toNat).toInt
theorem sv_in (xs : Nat → Int32) (i : Int) : inI (svI xs i) := i32_in _
theorem g_sld (hC : gC E own cc nL p l s m args meth c) {b0 Ls : Nat} {xs : Nat → Int32} (hX : va_X b0 Ls xs s s.heap) (hb0 : b0 < s.heap.size) (hbE : b0 < E.1) {i : Int} (hd : decode cc pc = .ok (.iaload, 1)) (h0 : 0 ≤ i) (hn : i < Ls) (hL : Ls ≤ 3584)
    (kk : gG E nL p l e R s m args below meth c Q (pc + 1) L ((0, svI xs i) :: r) Sh V z k n) : gG E nL p l e R s m args below meth c Q pc L ((0, i) :: (2, (b0 : Int)) :: r) Sh V z k n := by
  intro H locs ls h1 h2 h3 h4 h5
  have h := kk H locs ls h1 h2 h3 h4 h5
  rw [List.map_cons, List.map_cons, cv_ref (by omega), Int.toNat_natCast]
  refine va_sld hC.1 hC.2.1 hX hb0 (show ¬ E.1 ≤ b0 by omega) h3 (in_idx h0 (by omega) hn) hd ?_
  rw [in_clamp h0 (by omega)]
  rw [List.map_cons] at h
  have e9 : cv ((0 : Nat), svI xs i) = Value.int (xs i.toNat) := by show Value.int (Int32.ofInt (xs i.toNat).toInt) = _; rw [iI_of]
  rw [e9] at h
  exact h
theorem g_slen (hC : gC E own cc nL p l s m args meth c) {b0 Ls : Nat} {xs : Nat → Int32} (hX : va_X b0 Ls xs s s.heap) (hb0 : b0 < s.heap.size) (hbE : b0 < E.1) (hd : decode cc pc = .ok (.arraylength, 1))
    (kk : gG E nL p l e R s m args below meth c Q (pc + 1) L ((0, (Ls : Int)) :: r) Sh V z k n) : gG E nL p l e R s m args below meth c Q pc L ((2, (b0 : Int)) :: r) Sh V z k n := by
  intro H locs ls h1 h2 h3 h4 h5
  have h := kk H locs ls h1 h2 h3 h4 h5
  rw [List.map_cons, cv_ref (by omega), Int.toNat_natCast]
  exact va_slen hC.1 hC.2.1 hX hb0 (show ¬ E.1 ≤ b0 by omega) h3 hd h
/-- some bits of it -/
theorem g_and63 (hC : gC E own cc nL p l s m args meth c) {x y : Int} (hd : decode cc pc = .ok (.iand, 1)) (kk : ∀ v, inI v → gG E nL p l e R s m args below meth c Q (pc + 1) L ((0, v) :: r) Sh V z k n) : gG E nL p l e R s m args below meth c Q pc L ((0, y) :: (0, x) :: r) Sh V z k n :=
  g_iand hC hd (iI_of _).symm (kk _ (i32_in _))
/-- locals of which nothing is said any more -/
theorem g_fgt {L' : List aV} (hl : L'.length = L.length) (hs : ∀ (i : Nat) (v : aV), L'[i]? = some v → v.1 = 9 ∨ L[i]? = some v) (kk : gG E nL p l e R s m args below meth c Q pc L' r Sh V z k n) : gG E nL p l e R s m args below meth c Q pc L r Sh V z k n := by
  intro H locs ls h1 h2 h3 h4 h5
  refine kk H locs ls h1 h2 h3 (hl.trans h4) (lv_mono h5 ?_)
  have key : ∀ (A B : List aV) (j : Nat), A.length = B.length → (∀ (i : Nat) (v : aV), A[i]? = some v → v.1 = 9 ∨ B[i]? = some v) → ∀ q ∈ lvl j A, q ∈ lvl j B := by
    intro A
    induction A with
    | nil => intro B j _ _ q hq; cases hq
    | cons w A ih =>
      intro B j hAB h q hq
      cases B with
      | nil => cases hAB
      | cons w' B =>
        have hr : ∀ q ∈ lvl (j + 1) A, q ∈ lvl (j + 1) B := ih B (j + 1) (by simpa using hAB) (fun i v hi => by have := h (i + 1) v (by simpa using hi); simpa using this)
        have up9 : ∀ q ∈ lvl (j + 1) B, q ∈ lvl j (w' :: B) := by
          intro q hq
          unfold lvl
          split
          · exact hq
          · exact List.mem_cons_of_mem _ hq
        unfold lvl at hq
        split at hq
        · exact up9 _ (hr _ hq)
        · rename_i hw
          rcases List.mem_cons.mp hq with rfl | hq
          · have h0 := h 0 w rfl
            rcases h0 with h0 | h0
            · exact absurd h0 hw
            · have h0 : w' = w := by simpa using h0
              subst h0
              unfold lvl
              rw [if_neg hw]
              exact List.mem_cons_self
          · exact up9 _ (hr _ hq)
  exact key L' L 0 hl hs
end GLW
