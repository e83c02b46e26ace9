/-! new cells, reference arrays, copies, the table, throws -/
section GA
variable {E : gE} {own : String} {cc : ByteArray} {nL : Nat} {p : Program} {l : Launch} {e : Env} {R : Room} {s : State} {m : MethodId} {args : Array Value} {below : List Frame} {meth : Method} {c : Code} {Q : State → Prop} {pc : Nat} {L st r : List aV} {Sh : gSh} {V : gV} {z : Int} {k n : Nat}
variable {P : gPo} {rm : Room}
theorem cOk_obj {E : gE} {H : Heap} {a : Int} {ci n : Nat} {f : Int → Int} {r : vw_C} (hci : ci < 100) (hc : vwCl[ci]? = some r) (h : t_OB a.toNat (E.2.1.1 ci) r.2.2 (E.2.1.2 ci) H (fun k => cv (vtg (ftt ci k), f k))) (hok : ∀ k : Nat, k < 23 → okT (ftt ci k) (f k)) : cOk E H a (ci, n) f := by
  unfold cOk
  rw [if_pos hci]
  exact ⟨⟨r, hc, h⟩, hok⟩
theorem cOk_arr {E : gE} {H : Heap} {a : Int} {j n : Nat} {f : Int → Int} (hj : j < 10) (h : H[a.toNat]? = some (arrV (E.2.2 j) n (fun i => cv (ett j, f i)))) (hok : ∀ i : Nat, i < n → okT (ett j) (f i)) : cOk E H a (100 + j, n) f := by
  unfold cOk
  rw [if_neg (by show ¬ 100 + j < 100; omega)]
  have e : 100 + j - 100 = j := by omega
  show H[a.toNat]? = some (arrV (E.2.2 (100 + j - 100)) n (fun i => cv (ett (100 + j - 100), f i))) ∧ 100 + j < 110 ∧ ∀ i : Nat, i < n → okT (ett (100 + j - 100)) (f i)
  rw [e]
  exact ⟨h, by omega, hok⟩
/-- what a new object holds -/
def vdf (ci : Nat) : Int → Int := fun k => dfl (ftt ci k.toNat)
theorem g_new (hC : gC E own cc nL p l s m args meth c) {C : String} {ci N idx : Nat} (hd : decode cc pc = .ok (.new idx, 3)) (hl : Cond.classLink own idx C ∈ gws) (hin : Cond.instantiable C N ∈ gws) (hini : Cond.initialized C ∈ gws) (hci : ci < 13) (hc : ∃ r : vw_C, vwCl[ci]? = some r ∧ r.1 = C ∧ r.2.2 = N) (hR : k + 1 ≤ R.cells ∧ n + N ≤ R.slots)
    (kk : Sh z = none → gG E nL p l e R s m args below meth c Q (pc + 3) L ((2, z) :: st) (shp Sh z (ci, 0)) (vnew V z (vdf ci)) (z + 1) (k + 1) (n + N)) : gG E nL p l e R s m args below meth c Q pc L st Sh V z k n := by
  obtain ⟨hx, hb, hml, hown, hts, hlocks, hK, -, -, hE, -⟩ := hC
  obtain ⟨rc, hc, rfl, rfl⟩ := hc
  obtain ⟨hws, hty, hnm, htt, h15⟩ := gcf ci rc hc
  intro H locs ls h1 h2 h3 h4 h5
  subst h2
  have hEH : E.1 ≤ H.size := Nat.le_trans hE h3.1
  have hKn := hK.1 ci _ hc
  have kk := kk (gH_fresh h1 (Int.le_refl _))
  refine W.newcK hx hb hown (hts _ hl) (hts _ hin) (hts _ hini) rfl hd hR.1 hR.2 hKn.2.1 rfl fun H1 kC hkC e1 z1 o1 => ?_
  have ka := kk H1 locs ls (gH_push h1 hEH (cOk_obj (by omega) hc ((u_born (gTy ci) hts hws hKn hkC e1 hty).to (fun j hj => ?_)) (fun j hj => ?_)) o1) (by omega) ⟨by have := h3.1; omega, fun x g1 g2 => (o1 x (Nat.lt_of_lt_of_le g1 h3.1)).trans (h3.2.1 x g1 g2), h3.2.2⟩ h4 h5
  · rw [List.map_cons, cv_ref (by omega)] at ka
    exact ka
  · exact (dfl_ok (htt j hj)).1
  · by_cases hj2 : j < rc.2.2
    · exact (dfl_ok (htt j hj2)).2
    · show okT (ftt ci j) (dfl (ftt ci j))
      unfold dfl
      have key : ∀ t : Nat, okT t (if t = 2 then -1 else 0) := by
        intro t
        unfold okT
        split
        · exact ⟨by decide, by decide⟩
        · exact ⟨by decide, by decide⟩
        · exact Or.inl rfl
        · trivial
      exact key _
theorem g_new_ints (hC : gC E own cc nL p l s m args meth c) {N : Nat} {x : Int} (hd : decode cc pc = .ok (.newarray .int, 2)) (hw : Cond.arrayClass .int ∈ gws) (hx : x = N) (hN : N ≤ 60000000) (hR : k + 1 ≤ R.cells ∧ n + N ≤ R.slots)
    (kk : Sh z = none → gG E nL p l e R s m args below meth c Q (pc + 2) L ((2, z) :: r) (shp Sh z (100, N)) (vnew V z (fun _ => 0)) (z + 1) (k + 1) (n + N)) : gG E nL p l e R s m args below meth c Q pc L ((0, x) :: r) Sh V z k n := by
  subst hx
  obtain ⟨hx, hb, hml, hown, hts, hlocks, hK, -, -, hE, -⟩ := hC
  intro H locs ls h1 h2 h3 h4 h5
  subst h2
  have hEH : E.1 ≤ H.size := Nat.le_trans hE h3.1
  have kk := kk (gH_fresh h1 (Int.le_refl _))
  refine va_newaK (atype := .int) hx hb (hts _ hw) (N := N) rfl hd rfl (fun q => ?_) (by rw [in_clamp (by omega) (by omega)]; omega) (by show N * 4 ≤ _; omega) hR.1 hR.2 rfl fun H1 cA e1 z1 o1 hAr hNm => ?_
  · rw [Int32.lt_iff_toInt_lt, iI_toInt ⟨by omega, by omega⟩, Int32.toInt_zero] at q
    omega
  have hcA : cA = E.2.2 0 := by
    have h9 : s.vm.findClass ("[" ++ (eTy 0).toString) = some (E.2.2 0) := (hK.2 0 _ rfl).2
    exact Option.some.inj (hNm.symm.trans h9)
  subst hcA
  have ka := kk H1 locs ls (gH_push h1 hEH (cOk_arr (j := 0) (by decide) e1 (fun _ _ => ⟨by decide, by decide⟩)) o1) (by omega) ⟨by have := h3.1; omega, fun x g1 g2 => (o1 x (Nat.lt_of_lt_of_le g1 h3.1)).trans (h3.2.1 x g1 g2), h3.2.2⟩ h4 h5
  rw [List.map_cons, cv_ref (by omega)] at ka
  exact ka
theorem g_new_longs (hC : gC E own cc nL p l s m args meth c) {N : Nat} {x : Int} (hd : decode cc pc = .ok (.newarray .long, 2)) (hw : Cond.arrayClass .long ∈ gws) (hx : x = N) (hN : N ≤ 60000000) (hR : k + 1 ≤ R.cells ∧ n + N ≤ R.slots)
    (kk : Sh z = none → gG E nL p l e R s m args below meth c Q (pc + 2) L ((2, z) :: r) (shp Sh z (101, N)) (vnew V z (fun _ => 0)) (z + 1) (k + 1) (n + N)) : gG E nL p l e R s m args below meth c Q pc L ((0, x) :: r) Sh V z k n := by
  subst hx
  obtain ⟨hx, hb, hml, hown, hts, hlocks, hK, -, -, hE, -⟩ := hC
  intro H locs ls h1 h2 h3 h4 h5
  subst h2
  have hEH : E.1 ≤ H.size := Nat.le_trans hE h3.1
  have kk := kk (gH_fresh h1 (Int.le_refl _))
  refine va_newaK (atype := .long) hx hb (hts _ hw) (N := N) rfl hd rfl (fun q => ?_) (by rw [in_clamp (by omega) (by omega)]; omega) (by show N * 8 ≤ _; omega) hR.1 hR.2 rfl fun H1 cA e1 z1 o1 hAr hNm => ?_
  · rw [Int32.lt_iff_toInt_lt, iI_toInt ⟨by omega, by omega⟩, Int32.toInt_zero] at q
    omega
  have hcA : cA = E.2.2 1 := by
    have h9 : s.vm.findClass ("[" ++ (eTy 1).toString) = some (E.2.2 1) := (hK.2 1 _ rfl).2
    exact Option.some.inj (hNm.symm.trans h9)
  subst hcA
  have ka := kk H1 locs ls (gH_push h1 hEH (cOk_arr (j := 1) (by decide) e1 (fun _ _ => ⟨by decide, by decide⟩)) o1) (by omega) ⟨by have := h3.1; omega, fun x g1 g2 => (o1 x (Nat.lt_of_lt_of_le g1 h3.1)).trans (h3.2.1 x g1 g2), h3.2.2⟩ h4 h5
  rw [List.map_cons, cv_ref (by omega)] at ka
  exact ka
theorem g_anew (hC : gC E own cc nL p l s m args meth c) {C : String} {j N idx : Nat} {x : Int} (hd : decode cc pc = .ok (.anewarray idx, 3)) (hl : Cond.classLink own idx C ∈ gws) (hj : 3 ≤ j ∧ j < 8) (hCj : eTy j = .object C) (hx : x = N) (hN : N ≤ 60000000) (hR : k + 1 ≤ R.cells ∧ n + N ≤ R.slots)
    (kk : Sh z = none → gG E nL p l e R s m args below meth c Q (pc + 3) L ((2, z) :: r) (shp Sh z (100 + j, N)) (vnew V z (fun _ => -1)) (z + 1) (k + 1) (n + N)) : gG E nL p l e R s m args below meth c Q pc L ((0, x) :: r) Sh V z k n := by
  subst hx
  obtain ⟨hx, hb, hml, hown, hts, hlocks, hK, hN5, -, hE, -⟩ := hC
  intro H locs ls h1 h2 h3 h4 h5
  subst h2
  have hEH : E.1 ≤ H.size := Nat.le_trans hE h3.1
  have kk := kk (gH_fresh h1 (Int.le_refl _))
  have hAO : va_AO C s := by
    apply hN5.2.2.2.1
    obtain ⟨g1, g2⟩ := hj
    match j, g1, g2, hCj with
    | 3, _, _, e => cases e; decide
    | 4, _, _, e => cases e; decide
    | 5, _, _, e => cases e; decide
    | 6, _, _, e => cases e; decide
    | 7, _, _, e => cases e; decide
  have et : ett j = 2 := by
    obtain ⟨g1, g2⟩ := hj
    match j, g1, g2 with
    | 3, _, _ => rfl
    | 4, _, _ => rfl
    | 5, _, _ => rfl
    | 6, _, _ => rfl
    | 7, _, _ => rfl
  have hcl : (Int32.ofInt (N : Int)).toNatClampNeg = N := by rw [in_clamp (by omega) (by omega)]; omega
  refine W.anew hx hb hown (hts _ hl) (va_AO.use hAO) rfl hd rfl (fun q => ?_) (by rw [hcl]; omega) hR.1 (by rw [hcl]; exact hR.2) fun cA kA comp f1 f2 f3 f4 => ?_
  · rw [Int32.lt_iff_toInt_lt, iI_toInt ⟨by omega, by omega⟩, Int32.toInt_zero] at q
    omega
  rw [hcl]
  have hcA : cA = E.2.2 j := by
    have h9 := (hK.2 j _ (gtys_at _ (by omega))).2
    rw [hCj] at h9
    obtain ⟨kA', comp', g1, g2, g3, g4⟩ := h9
    exact Option.some.inj (f1.symm.trans g4)
  subst hcA
  generalize hH1 : H.push ({ cls := E.2.2 j, slots := Array.replicate N .null, vm := .none } : Cell) = H1
  have z1 : H1.size = H.size + 1 := by rw [← hH1, Array.size_push]
  have e1 : H1[H.size]? = some (arrV (E.2.2 j) N (fun _ => .null)) := by rw [← hH1, Array.getElem?_push_size, ← arrV_new]
  have o1 : ∀ q : Nat, q < H.size → H1[q]? = H[q]? := fun q hq => by rw [← hH1, Array.getElem?_push, if_neg (Nat.ne_of_lt hq)]
  have ka := kk H1 locs ls (gH_push h1 hEH (cOk_arr (by omega) (by rw [et]; exact e1) (fun _ _ => by rw [et]; trivial)) o1) (by omega) ⟨by have := h3.1; omega, fun x g1 g2 => (o1 x (Nat.lt_of_lt_of_le g1 h3.1)).trans (h3.2.1 x g1 g2), h3.2.2⟩ h4 h5
  rw [List.map_cons, cv_ref (by omega)] at ka
  exact ka
theorem g_aastore (hC : gC E own cc nL p l s m args meth c) {j N ci : Nat} {a i x : Int} (hd : decode cc pc = .ok (.aastore, 1)) (hsh : Sh a = some (100 + j, N)) (hj : 3 ≤ j) (hv : Sh x = some (ci, 0)) (hci : ci < 100) (hC2 : ∃ r : vw_C, vwCl[ci]? = some r ∧ eTy j = .object r.1) (h0 : 0 ≤ i) (hn : i < N) (hN : (N : Int) ≤ 2147483647)
    (kk : gG E nL p l e R s m args below meth c Q (pc + 1) L r Sh (up V a i x) z k n) : gG E nL p l e R s m args below meth c Q pc L ((2, x) :: (0, i) :: (2, a) :: r) Sh V z k n := by
  obtain ⟨hx, hb, hml, hown, hts, hlocks, hK, -, -, hE, -⟩ := hC
  intro H locs ls h1 h2 h3 h4 h5
  obtain ⟨ha, hco⟩ := h1 a _ hsh
  unfold cOk at hco
  rw [if_neg (by show ¬ 100 + j < 100; omega)] at hco
  obtain ⟨q1, q2, q3⟩ := hco
  obtain ⟨hxE, hcx⟩ := h1 x _ hv
  unfold cOk at hcx
  rw [if_pos hci] at hcx
  obtain ⟨⟨r1, hr1, cellV, g1, g2, g3, -⟩, -⟩ := hcx
  obtain ⟨rc, hc, hej⟩ := hC2
  cases hr1.symm.trans hc
  have hj8 : j < 10 := by have : 100 + j < 110 := q2; omega
  have ej : 100 + j - 100 = j := by omega
  have q1 : H[a.toNat]? = some (arrV (E.2.2 (100 + j - 100)) N (fun i => cv (ett (100 + j - 100), V a i))) := q1
  rw [ej] at q1
  have et : ett j = 2 := by
    match j, hj, hj8 with
    | 3, _, _ => rfl
    | 4, _, _ => rfl
    | 5, _, _ => rfl
    | 6, _, _ => rfl
    | 7, _, _ => rfl
    | 8, _, _ => rfl
    | 9, _, _ => rfl
  rw [et] at q1
  have ha0 : 0 ≤ a := by omega
  have hx0 : 0 ≤ x := by omega
  have ei : ((i.toNat : Nat) : Int) = i := by omega
  have hcls := (hK.1 ci _ hr1).2
  have hRA := (hK.2 j _ (gtys_at _ hj8)).2
  rw [hej] at hRA
  obtain ⟨kA, comp, k1, k2, k3, -⟩ := hRA
  have hcomp : comp = E.2.1.1 ci := Option.some.inj (k3.symm.trans hcls.1)
  subst hcomp
  obtain ⟨kC, hkC, -⟩ := id hcls.2
  have hin := in_idx h0 (by omega) hn
  rw [List.map_cons, List.map_cons, List.map_cons, cv_ref ha0, cv_ref hx0]
  refine W.aast hx hb q1 (fun q h => by cases h) (fun h => by cases h) k1 k2 rfl hkC ⟨fun q => hin (Or.inl q), by show _ < (arrV _ _ _).slots.size; rw [arrV_size]; exact Nat.not_le.mp fun q => hin (Or.inr q)⟩ g1 (fun q h => by rw [g3] at h; cases h) (by rw [g2]; exact hkC) (by rw [g2]; exact va_assign hcls) rfl rfl hd fun H1 e1 e2 e3 => ?_
  refine kk H1 _ ls (gH_put h1 hsh (cOk_arr hj8 ?_ (fun _ _ => by rw [et]; trivial)) e3) (by rw [e2]; exact h2) (h3.put e2 e3 (show E.1 ≤ a.toNat by omega)) h4 h5
  rw [e1, arrV_store, in_clamp h0 (by omega), et]
  congr 2
  funext q
  rw [up_fun]
  by_cases hqi : q = i.toNat
  · subst hqi
    simp only [updV, if_true, ei, cv_ref hx0]
  · have : ¬ (q : Int) = i := by omega
    simp only [updV, if_neg hqi, if_neg this]
theorem g_objInit (hC : gC E own cc nL p l s m args meth c) {a : Int} {idx : Nat} (hd : decode cc pc = .ok (.invokespecial idx, 3)) (hl : Cond.methodLink own idx Lib.objectInit ∈ gws) (hi : Cond.instanceMethod Lib.objectInit ∈ gws) (hco : Cond.code Lib.objectInit ⟨#[0xb1]⟩ 1 none ∈ gws) (ha : 0 ≤ a) (hR : 1 ≤ R.frames ∧ catS r + 12 ≤ R.locals)
    (kk : gG E nL p l e R s m args below meth c Q (pc + 3) L r Sh V z k n) : gG E nL p l e R s m args below meth c Q pc L ((2, a) :: r) Sh V z k n := by
  obtain ⟨hx, hb, hml, hown, hts, -⟩ := hC
  intro H locs ls h1 h2 h3 h4 h5
  rw [List.map_cons, cv_ref ha]
  exact W.objInit hx hb hown (hts _ hl) (hts _ hi) (hts _ hco) rfl (by rw [hml]; exact h5.1) rfl hd hR.1 (by show 2 * 0 + _ + 12 ≤ _; rw [catS_ok]; omega) (kk H locs ls h1 h2 h3 h4 h5)
/-- the table of the days ahead of a month -/
def gTb (E : gE) (s : State) (t : Int) : Prop := 0 ≤ t ∧ va_T .int t.toNat 12 (fun j => .int (Int32.ofInt (bmT j))) (fun q => E.1 ≤ q) s s.heap
theorem g_table (hC : gC E own cc nL p l s m args meth c) {idx : Nat} (hd : decode cc pc = .ok (.getstatic idx, 3)) (hl : Cond.fieldLink own idx "HotelNights$Days" "BEFORE_MONTH" "[I" ∈ gws) (kk : ∀ t, gTb E s t → gG E nL p l e R s m args below meth c Q (pc + 3) L ((2, t) :: st) Sh V z k n) : gG E nL p l e R s m args below meth c Q pc L st Sh V z k n := by
  obtain ⟨hx, hb, hml, hown, hts, -, -, -, ⟨⟨t, hZ, hT⟩, -⟩, -⟩ := hC
  intro H locs ls h1 h2 h3 h4 h5
  have ka := kk (t : Int) ⟨by omega, by simpa using hT⟩ H locs ls h1 h2 h3 h4 h5
  rw [List.map_cons, cv_ref (by omega)] at ka
  exact va_gets hx hb hZ h3 hown (hts _ hl) (fun _ h => h) hd ka
theorem bmT_in (i : Int) : inI (bmT i) := by
  unfold bmT
  split <;> exact ⟨by decide, by decide⟩
theorem g_tableAt (hC : gC E own cc nL p l s m args meth c) {t i : Int} (hd : decode cc pc = .ok (.iaload, 1)) (ht : gTb E s t) (h0 : 0 ≤ i) (hn : i < 12) (kk : gG E nL p l e R s m args below meth c Q (pc + 1) L ((0, bmT i) :: r) Sh V z k n) : gG E nL p l e R s m args below meth c Q pc L ((0, i) :: (2, t) :: r) Sh V z k n := by
  obtain ⟨hx, hb, hml, hown, hts, -⟩ := hC
  obtain ⟨ht0, cell, q1, q2, q3, q4, q5, q6, q7⟩ := ht
  intro H locs ls h1 h2 h3 h4 h5
  have ei : ((i.toNat : Nat) : Int) = i := by omega
  have hq6 := q6 i.toNat (by omega)
  rw [List.map_cons, List.map_cons, cv_ref ht0]
  refine W.iald hx hb (by rw [h3.2.1 _ (Array.getElem?_eq_some_iff.mp q1).1 q7]; exact q1) q2 q3 (v := cv (0, bmT i)) (fun q => ?_) ?_ rfl rfl hd (kk H locs ls h1 h2 h3 h4 h5)
  · exact in_idx (n := 12) h0 (by omega) hn (q.imp_right (fun q => Nat.le_trans q4 q))
  · rw [in_clamp h0 (by omega), hq6]
    show some (Value.int (Int32.ofInt (bmT ((i.toNat : Nat) : Int)))) = _
    rw [ei]
    rfl
end GA
