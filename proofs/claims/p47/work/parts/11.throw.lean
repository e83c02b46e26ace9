/-! copies of arrays, throws -/
def cpV (V : gV) (a0 sp a dp n : Int) : gV := fun b j => if b = a ∧ dp ≤ j ∧ j < dp + n then V a0 (sp + (j - dp)) else V b j
section GT
variable {E : gE} {own : String} {cc : ByteArray} {nL : Nat} {p : Program} {l : Launch} {e : Env} {R : Room} {s : State} {m : MethodId} {args : Array Value} {below : List Frame} {meth : Method} {c : Code} {Q : State → Prop} {pc : Nat} {L st r : List aV} {Sh : gSh} {V : gV} {z : Int} {k n : Nat}
variable {P : gPo} {rm : Room}
theorem g_copy_int (hC : gC E own cc nL p l s m args meth c) {n0 n1 idx : Nat} {a0 sp a dp cnt : Int} (hd : decode cc pc = .ok (.invokestatic idx, 3)) (hl : Cond.methodLink own idx arraycopyName ∈ gws) (hnat : Cond.native arraycopyName ∈ gws) (hstat : Cond.static arraycopyName ∈ gws) (hini : Cond.initialized "java/lang/System" ∈ gws)
    (hsh0 : Sh a0 = some (100, n0)) (hsh : Sh a = some (100, n1)) (hN : (n0 : Int) ≤ 2147483647 ∧ (n1 : Int) ≤ 2147483647) (g1 : 0 ≤ sp) (g2 : 0 ≤ dp) (g3 : 0 ≤ cnt) (g4 : sp + cnt ≤ n0) (g5 : dp + cnt ≤ n1) (hR : 1 ≤ R.frames ∧ catS r + (nativeFrameWords "java/lang/System" "arraycopy" 5 + 11) ≤ R.locals)
    (kk : gG E nL p l e R s m args below meth c Q (pc + 3) L r Sh (cpV V a0 sp a dp cnt) z k n) : gG E nL p l e R s m args below meth c Q pc L ((0, cnt) :: (0, dp) :: (2, a) :: (0, sp) :: (2, a0) :: r) Sh V z k n := by
  obtain ⟨hx, hb, hml, hown, hts, hlocks, hK, -, -, hE, -⟩ := hC
  intro H locs ls h1 h2 h3 h4 h5
  obtain ⟨ha, hco⟩ := h1 a _ hsh
  obtain ⟨ha0, hco0⟩ := h1 a0 _ hsh0
  unfold cOk at hco hco0
  rw [if_neg (by show ¬ 100 < 100; decide)] at hco hco0
  obtain ⟨q1, q2, q3⟩ := hco
  obtain ⟨w1, w2, w3⟩ := hco0
  have q1 : H[a.toNat]? = some (arrV (E.2.2 0) n1 (fun i => cv (0, V a i))) := q1
  have w1 : H[a0.toNat]? = some (arrV (E.2.2 0) n0 (fun i => cv (0, V a0 i))) := w1
  have a00 : 0 ≤ a := by omega
  have a01 : 0 ≤ a0 := by omega
  have hRA := (hK.2 0 _ rfl).1
  obtain ⟨-, k0, hk0, cm0, hkk0⟩ := hRA n0 (fun i => cv (0, V a0 i))
  obtain ⟨-, k1, hk1, cm1, hkk1⟩ := hRA n1 (fun i => cv (0, V a i))
  have csp := in_clamp g1 (by omega)
  have cdp := in_clamp g2 (by omega)
  have ccn := in_clamp g3 (by omega)
  have isp : (Int32.ofInt sp).toInt = sp := iI_toInt ⟨by omega, by omega⟩
  have idp : (Int32.ofInt dp).toInt = dp := iI_toInt ⟨by omega, by omega⟩
  have icn : (Int32.ofInt cnt).toInt = cnt := iI_toInt ⟨by omega, by omega⟩
  have neg : ∀ x : Int, 0 ≤ x → x ≤ 2147483647 → ¬ Int32.ofInt x < 0 := by
    intro x e1 e2 q
    rw [Int32.lt_iff_toInt_lt, iI_toInt ⟨by omega, e2⟩, Int32.toInt_zero] at q
    omega
  intro T hT X
  obtain ⟨vm', X', step⟩ := X.arraycopy hx hown (hts _ hl) (hts _ hnat) (hts _ hstat) (hts _ hini) (src := a0.toNat) (dst := a.toNat) (cs := arrV (E.2.2 0) n0 (fun i => cv (0, V a0 i))) (cd := arrV (E.2.2 0) n1 (fun i => cv (0, V a i))) (srcPos := Int32.ofInt sp) (destPos := Int32.ofInt dp) (n := Int32.ofInt cnt) (by rw [hT]; exact w1) (by rw [hT]; exact q1)
    (fun _ h => by cases h) (fun _ h => by cases h) (fun h => by cases h) (fun h => by cases h) hk0 hk1 hkk0 hkk1 rfl (neg _ g1 (by omega)) (neg _ g2 (by omega)) (neg _ g3 (by omega))
    (by rw [isp, icn, arrV_size]; omega)
    (by rw [idp, icn, arrV_size]; omega)
    (fun vm₁ _ i hi => by
      rw [ccn] at hi
      have e9 : (arrV (E.2.2 0) n0 (fun i => cv (0, V a0 i))).slots.getD ((Int32.ofInt sp).toNatClampNeg + i) .null = cv (0, V a0 ((((Int32.ofInt sp).toNatClampNeg + i : Nat) : Int))) := by
        rw [Array.getD_eq_getD_getElem?, arrV_read _ _ (by rw [csp]; omega)]
        rfl
      refine ⟨?_, ?_⟩
      · rw [e9]
        rfl
      · rw [e9]
        exact trivial)
    (g := F0 m pc ls (((0, cnt) :: (0, dp) :: (2, a) :: (0, sp) :: (2, a0) :: r).map cv)) rfl (by show ls.size = c.maxLocals; rw [hml]; exact h5.1) (rest := r.map cv) (by rw [List.map_cons, List.map_cons, List.map_cons, List.map_cons, List.map_cons, cv_ref a00, cv_ref a01]; rfl) (by rw [hb]; exact hd) hR.1 (by show 2 * 0 + _ + _ ≤ _; rw [catS_ok]; have := hR.2; omega)
  have e1 : copied (arrV (E.2.2 0) n0 (fun i => cv (0, V a0 i))) (arrV (E.2.2 0) n1 (fun i => cv (0, V a i))) (Int32.ofInt sp) (Int32.ofInt dp) (Int32.ofInt cnt) = arrV (E.2.2 0) n1 (fun i => cv (0, cpV V a0 sp a dp cnt a i)) := by
    have e2 := va_copied (fun x : Int => cv (0, x)) (E.2.2 0) (E.2.2 0) (n0 := n0) (n1 := n1) (sp := sp.toNat) (dp := dp.toNat) (n := cnt.toNat) (fun i : Nat => V a0 i) (fun i : Nat => V a i) (by omega)
    unfold copied
    rw [csp, cdp, ccn]
    refine e2.trans ?_
    congr 1
    funext i
    congr 2
    unfold va_cpy cpV
    by_cases hi : dp.toNat ≤ i ∧ i < dp.toNat + cnt.toNat
    · rw [if_pos hi, if_pos ⟨rfl, by omega, by omega⟩]
      show V a0 ((sp.toNat + (i - dp.toNat) : Nat) : Int) = _
      congr 1
      omega
    · rw [if_neg hi, if_neg (fun q => hi ⟨by omega, by omega⟩)]
  rw [e1] at X' step
  have hl9 : a.toNat < H.size := (Array.getElem?_eq_some_iff.mp q1).1
  generalize hH1 : H.setIfInBounds a.toNat (arrV (E.2.2 0) n1 (fun i => cv (0, cpV V a0 sp a dp cnt a i))) = H1 at *
  have hheap : ((T.setVm vm').setCell a.toNat (arrV (E.2.2 0) n1 (fun i => cv (0, cpV V a0 sp a dp cnt a i)))).heap = H1 := by rw [← hH1, ← hT]; rfl
  have oq : ∀ q : Nat, q ≠ a.toNat → H1[q]? = H[q]? := fun q hq => by rw [← hH1]; simp [Array.getElem?_setIfInBounds, Ne.symm hq]
  have os : H1[a.toNat]? = some (arrV (E.2.2 0) n1 (fun i => cv (0, cpV V a0 sp a dp cnt a i))) := by rw [← hH1]; simp [Array.getElem?_setIfInBounds, hl9]
  have oz : H1.size = H.size := by rw [← hH1]; simp
  obtain ⟨t, a1, b1⟩ := kk H1 _ ls (fun b sb hb2 => by
      obtain ⟨v1, v2⟩ := h1 b sb hb2
      refine ⟨v1, ?_⟩
      by_cases hab : b = a
      · subst hab
        cases hb2.symm.trans hsh
        refine cOk_arr (j := 0) (by decide) os (fun i hi => ?_)
        show okT _ (cpV V a0 sp b dp cnt b i)
        unfold cpV
        split
        · rename_i hh
          have := w3 (sp + (i - dp)).toNat (by show (sp + (i - dp)).toNat < n0; omega)
          have e8 : (((sp + ((i : Int) - dp)).toNat : Nat) : Int) = sp + (i - dp) := by omega
          rw [e8] at this
          exact this
        · exact q3 i hi
      · have : b.toNat ≠ a.toNat := by omega
        refine cOk_congr (cOk_kept v2 (oq _ this)) (fun j => ?_)
        unfold cpV
        rw [if_neg (fun q => hab q.1)]) (by rw [oz]; exact h2) ⟨by rw [oz]; exact h3.1, fun q g6 g7 => by
      rw [oq q (fun e => g7 (by rw [e]; show E.1 ≤ a.toNat; omega))]
      exact h3.2.1 q g6 g7, fun q hq => by
      rcases List.mem_append.mp hq with h | h
      · exact h3.2.2 q h
      · obtain ⟨w, -, hw⟩ := List.mem_map.mp h
        rw [← hw]
        show E.1 ≤ a.toNat
        omega⟩ h4 h5 _ hheap X'
  exact ⟨t, step t a1, b1⟩
theorem g_copy_long (hC : gC E own cc nL p l s m args meth c) {n0 n1 idx : Nat} {a0 sp a dp cnt : Int} (hd : decode cc pc = .ok (.invokestatic idx, 3)) (hl : Cond.methodLink own idx arraycopyName ∈ gws) (hnat : Cond.native arraycopyName ∈ gws) (hstat : Cond.static arraycopyName ∈ gws) (hini : Cond.initialized "java/lang/System" ∈ gws)
    (hsh0 : Sh a0 = some (101, n0)) (hsh : Sh a = some (101, n1)) (hN : (n0 : Int) ≤ 2147483647 ∧ (n1 : Int) ≤ 2147483647) (g1 : 0 ≤ sp) (g2 : 0 ≤ dp) (g3 : 0 ≤ cnt) (g4 : sp + cnt ≤ n0) (g5 : dp + cnt ≤ n1) (hR : 1 ≤ R.frames ∧ catS r + (nativeFrameWords "java/lang/System" "arraycopy" 5 + 11) ≤ R.locals)
    (kk : gG E nL p l e R s m args below meth c Q (pc + 3) L r Sh (cpV V a0 sp a dp cnt) z k n) : gG E nL p l e R s m args below meth c Q pc L ((0, cnt) :: (0, dp) :: (2, a) :: (0, sp) :: (2, a0) :: r) Sh V z k n := by
  obtain ⟨hx, hb, hml, hown, hts, hlocks, hK, -, -, hE, -⟩ := hC
  intro H locs ls h1 h2 h3 h4 h5
  obtain ⟨ha, hco⟩ := h1 a _ hsh
  obtain ⟨ha0, hco0⟩ := h1 a0 _ hsh0
  unfold cOk at hco hco0
  rw [if_neg (by show ¬ 101 < 100; decide)] at hco hco0
  obtain ⟨q1, q2, q3⟩ := hco
  obtain ⟨w1, w2, w3⟩ := hco0
  have q1 : H[a.toNat]? = some (arrV (E.2.2 1) n1 (fun i => cv (1, V a i))) := q1
  have w1 : H[a0.toNat]? = some (arrV (E.2.2 1) n0 (fun i => cv (1, V a0 i))) := w1
  have a00 : 0 ≤ a := by omega
  have a01 : 0 ≤ a0 := by omega
  have hRA := (hK.2 1 _ rfl).1
  obtain ⟨-, k0, hk0, cm0, hkk0⟩ := hRA n0 (fun i => cv (1, V a0 i))
  obtain ⟨-, k1, hk1, cm1, hkk1⟩ := hRA n1 (fun i => cv (1, V a i))
  have csp := in_clamp g1 (by omega)
  have cdp := in_clamp g2 (by omega)
  have ccn := in_clamp g3 (by omega)
  have isp : (Int32.ofInt sp).toInt = sp := iI_toInt ⟨by omega, by omega⟩
  have idp : (Int32.ofInt dp).toInt = dp := iI_toInt ⟨by omega, by omega⟩
  have icn : (Int32.ofInt cnt).toInt = cnt := iI_toInt ⟨by omega, by omega⟩
  have neg : ∀ x : Int, 0 ≤ x → x ≤ 2147483647 → ¬ Int32.ofInt x < 0 := by
    intro x e1 e2 q
    rw [Int32.lt_iff_toInt_lt, iI_toInt ⟨by omega, e2⟩, Int32.toInt_zero] at q
    omega
  intro T hT X
  obtain ⟨vm', X', step⟩ := X.arraycopy hx hown (hts _ hl) (hts _ hnat) (hts _ hstat) (hts _ hini) (src := a0.toNat) (dst := a.toNat) (cs := arrV (E.2.2 1) n0 (fun i => cv (1, V a0 i))) (cd := arrV (E.2.2 1) n1 (fun i => cv (1, V a i))) (srcPos := Int32.ofInt sp) (destPos := Int32.ofInt dp) (n := Int32.ofInt cnt) (by rw [hT]; exact w1) (by rw [hT]; exact q1)
    (fun _ h => by cases h) (fun _ h => by cases h) (fun h => by cases h) (fun h => by cases h) hk0 hk1 hkk0 hkk1 rfl (neg _ g1 (by omega)) (neg _ g2 (by omega)) (neg _ g3 (by omega))
    (by rw [isp, icn, arrV_size]; omega)
    (by rw [idp, icn, arrV_size]; omega)
    (fun vm₁ _ i hi => by
      rw [ccn] at hi
      have e9 : (arrV (E.2.2 1) n0 (fun i => cv (1, V a0 i))).slots.getD ((Int32.ofInt sp).toNatClampNeg + i) .null = cv (1, V a0 ((((Int32.ofInt sp).toNatClampNeg + i : Nat) : Int))) := by
        rw [Array.getD_eq_getD_getElem?, arrV_read _ _ (by rw [csp]; omega)]
        rfl
      refine ⟨?_, ?_⟩
      · rw [e9]
        rfl
      · rw [e9]
        exact trivial)
    (g := F0 m pc ls (((0, cnt) :: (0, dp) :: (2, a) :: (0, sp) :: (2, a0) :: r).map cv)) rfl (by show ls.size = c.maxLocals; rw [hml]; exact h5.1) (rest := r.map cv) (by rw [List.map_cons, List.map_cons, List.map_cons, List.map_cons, List.map_cons, cv_ref a00, cv_ref a01]; rfl) (by rw [hb]; exact hd) hR.1 (by show 2 * 0 + _ + _ ≤ _; rw [catS_ok]; have := hR.2; omega)
  have e1 : copied (arrV (E.2.2 1) n0 (fun i => cv (1, V a0 i))) (arrV (E.2.2 1) n1 (fun i => cv (1, V a i))) (Int32.ofInt sp) (Int32.ofInt dp) (Int32.ofInt cnt) = arrV (E.2.2 1) n1 (fun i => cv (1, cpV V a0 sp a dp cnt a i)) := by
    have e2 := va_copied (fun x : Int => cv (1, x)) (E.2.2 1) (E.2.2 1) (n0 := n0) (n1 := n1) (sp := sp.toNat) (dp := dp.toNat) (n := cnt.toNat) (fun i : Nat => V a0 i) (fun i : Nat => V a i) (by omega)
    unfold copied
    rw [csp, cdp, ccn]
    refine e2.trans ?_
    congr 1
    funext i
    congr 2
    unfold va_cpy cpV
    by_cases hi : dp.toNat ≤ i ∧ i < dp.toNat + cnt.toNat
    · rw [if_pos hi, if_pos ⟨rfl, by omega, by omega⟩]
      show V a0 ((sp.toNat + (i - dp.toNat) : Nat) : Int) = _
      congr 1
      omega
    · rw [if_neg hi, if_neg (fun q => hi ⟨by omega, by omega⟩)]
  rw [e1] at X' step
  have hl9 : a.toNat < H.size := (Array.getElem?_eq_some_iff.mp q1).1
  generalize hH1 : H.setIfInBounds a.toNat (arrV (E.2.2 1) n1 (fun i => cv (1, cpV V a0 sp a dp cnt a i))) = H1 at *
  have hheap : ((T.setVm vm').setCell a.toNat (arrV (E.2.2 1) n1 (fun i => cv (1, cpV V a0 sp a dp cnt a i)))).heap = H1 := by rw [← hH1, ← hT]; rfl
  have oq : ∀ q : Nat, q ≠ a.toNat → H1[q]? = H[q]? := fun q hq => by rw [← hH1]; simp [Array.getElem?_setIfInBounds, Ne.symm hq]
  have os : H1[a.toNat]? = some (arrV (E.2.2 1) n1 (fun i => cv (1, cpV V a0 sp a dp cnt a i))) := by rw [← hH1]; simp [Array.getElem?_setIfInBounds, hl9]
  have oz : H1.size = H.size := by rw [← hH1]; simp
  obtain ⟨t, a1, b1⟩ := kk H1 _ ls (fun b sb hb2 => by
      obtain ⟨v1, v2⟩ := h1 b sb hb2
      refine ⟨v1, ?_⟩
      by_cases hab : b = a
      · subst hab
        cases hb2.symm.trans hsh
        refine cOk_arr (j := 1) (by decide) os (fun i hi => ?_)
        show okT _ (cpV V a0 sp b dp cnt b i)
        unfold cpV
        split
        · rename_i hh
          have := w3 (sp + (i - dp)).toNat (by show (sp + (i - dp)).toNat < n0; omega)
          have e8 : (((sp + ((i : Int) - dp)).toNat : Nat) : Int) = sp + (i - dp) := by omega
          rw [e8] at this
          exact this
        · exact q3 i hi
      · have : b.toNat ≠ a.toNat := by omega
        refine cOk_congr (cOk_kept v2 (oq _ this)) (fun j => ?_)
        unfold cpV
        rw [if_neg (fun q => hab q.1)]) (by rw [oz]; exact h2) ⟨by rw [oz]; exact h3.1, fun q g6 g7 => by
      rw [oq q (fun e => g7 (by rw [e]; show E.1 ≤ a.toNat; omega))]
      exact h3.2.1 q g6 g7, fun q hq => by
      rcases List.mem_append.mp hq with h | h
      · exact h3.2.2 q h
      · obtain ⟨w, -, hw⟩ := List.mem_map.mp h
        rw [← hw]
        show E.1 ≤ a.toNat
        omega⟩ h4 h5 _ hheap X'
  exact ⟨t, step t a1, b1⟩
theorem g_thrI_w : ∀ w ∈ (vx_atS "HotelNights" 312 gxI ["java/lang/RuntimeException", "java/lang/Exception"]).filter goodWord, w ∈ gws := gm_all (by decide +kernel)
theorem g_thrI_l : ∀ w ∈ [Cond.classLink "HotelNights" 308 gxI, Cond.initialized gxI], w ∈ gws := gm_all (by decide +kernel)
theorem g_thrI (hC : gC E "HotelNights" cc nL p l s m args meth c) {Sh' : gSh} {V' : gV} (hex : ∀ x ∈ c.exceptionTable.toList, False) (d0 : decode cc pc = .ok (.new 308, 3)) (d3 : decode cc (pc + 3) = .ok (.dup, 1)) (d4 : decode cc (pc + 4) = .ok (.ldc_w 310, 3)) (d7 : decode cc (pc + 7) = .ok (.invokespecial 312, 3)) (d10 : decode cc (pc + 10) = .ok (.athrow, 1))
    (hP : ∀ z', P (.inr gxI) Sh' V' z') (hs : ∀ a sh, Sh' a = some sh → Sh a = some sh ∧ ∀ j, V a j = V' a j) (hR : 5 < R.frames ∧ catS st + 82 ≤ R.locals ∧ k + 1 ≤ R.cells ∧ n + 6 ≤ R.slots) (hk : k + 1 ≤ rm.cells ∧ n + 6 ≤ rm.slots) : gG E nL p l e R s m args below meth c (gMQ E P rm below args s) pc L st Sh V z k n := by
  obtain ⟨hx, hb, hml, hown, hts, hlocks, hK, hN, hSS, hE, hlt⟩ := hC
  obtain ⟨sa, hstr⟩ := hN.2.2.2.2.2.1
  intro H locs ls h1 h2 h3 h4 h5
  refine vx_throwSW (cls := gxI) (names := ["java/lang/RuntimeException", "java/lang/Exception"]) (A := gA E) hx hb hlt hown (by decide +kernel) (by decide +kernel) (hts _ (g_thrI_l _ List.mem_cons_self)) (hts _ (g_thrI_l _ (List.mem_cons_of_mem _ List.mem_cons_self))) hstr ?_ (by decide +kernel) hSS.2.1 hSS.2.2.1 h3 (by rw [hml]; exact h5.1) d0 d3 d4 d7 d10 (fun x hx => (hex x hx).elim) hR.1 (by rw [catS_ok]; exact hR.2.1) hR.2.2.1 hR.2.2.2 hlocks ?_ h3.2.2 hk.1 hk.2
  · refine vx_hat (B := Cond.castable gxI gxI :: gdecl.map Cond.declares) (fun w hw => hts w (g_thrI_w w hw)) (by decide +kernel) ?_
    intro w hw
    rcases List.mem_cons.mp hw with rfl | hw
    · exact va_Nw.use rfl (hN.2.2.1 _ (by decide))
    · obtain ⟨x, hx2, rfl⟩ := List.mem_map.mp hw
      exact va_Nw.use rfl (hN.2.1 x hx2)
  · intro t ht hz hq
    exact ⟨Sh', V', hP _, gH_sub (gH_mono h1 hq) hs, Nat.le_trans h3.1 hz, fun q g1 g2 => by rw [hq q (Nat.lt_of_lt_of_le g1 h3.1)]; exact h3.2.1 q g1 g2⟩
theorem g_thrA_w : ∀ w ∈ (vx_atS "HotelNights" 319 gxA ["java/lang/RuntimeException", "java/lang/Exception"]).filter goodWord, w ∈ gws := gm_all (by decide +kernel)
theorem g_thrA_l : ∀ w ∈ [Cond.classLink "HotelNights" 315 gxA, Cond.initialized gxA], w ∈ gws := gm_all (by decide +kernel)
theorem g_thrA (hC : gC E "HotelNights" cc nL p l s m args meth c) {Sh' : gSh} {V' : gV} (hex : ∀ x ∈ c.exceptionTable.toList, False) (d0 : decode cc pc = .ok (.new 315, 3)) (d3 : decode cc (pc + 3) = .ok (.dup, 1)) (d4 : decode cc (pc + 4) = .ok (.ldc_w 317, 3)) (d7 : decode cc (pc + 7) = .ok (.invokespecial 319, 3)) (d10 : decode cc (pc + 10) = .ok (.athrow, 1))
    (hP : ∀ z', P (.inr gxA) Sh' V' z') (hs : ∀ a sh, Sh' a = some sh → Sh a = some sh ∧ ∀ j, V a j = V' a j) (hR : 5 < R.frames ∧ catS st + 82 ≤ R.locals ∧ k + 1 ≤ R.cells ∧ n + 6 ≤ R.slots) (hk : k + 1 ≤ rm.cells ∧ n + 6 ≤ rm.slots) : gG E nL p l e R s m args below meth c (gMQ E P rm below args s) pc L st Sh V z k n := by
  obtain ⟨hx, hb, hml, hown, hts, hlocks, hK, hN, hSS, hE, hlt⟩ := hC
  obtain ⟨sa, hstr⟩ := hN.2.2.2.2.2.2.1
  intro H locs ls h1 h2 h3 h4 h5
  refine vx_throwSW (cls := gxA) (names := ["java/lang/RuntimeException", "java/lang/Exception"]) (A := gA E) hx hb hlt hown (by decide +kernel) (by decide +kernel) (hts _ (g_thrA_l _ List.mem_cons_self)) (hts _ (g_thrA_l _ (List.mem_cons_of_mem _ List.mem_cons_self))) hstr ?_ (by decide +kernel) hSS.2.1 hSS.2.2.1 h3 (by rw [hml]; exact h5.1) d0 d3 d4 d7 d10 (fun x hx => (hex x hx).elim) hR.1 (by rw [catS_ok]; exact hR.2.1) hR.2.2.1 hR.2.2.2 hlocks ?_ h3.2.2 hk.1 hk.2
  · refine vx_hat (B := Cond.castable gxA gxA :: gdecl.map Cond.declares) (fun w hw => hts w (g_thrA_w w hw)) (by decide +kernel) ?_
    intro w hw
    rcases List.mem_cons.mp hw with rfl | hw
    · exact va_Nw.use rfl (hN.2.2.1 _ (by decide))
    · obtain ⟨x, hx2, rfl⟩ := List.mem_map.mp hw
      exact va_Nw.use rfl (hN.2.1 x hx2)
  · intro t ht hz hq
    exact ⟨Sh', V', hP _, gH_sub (gH_mono h1 hq) hs, Nat.le_trans h3.1 hz, fun q g1 g2 => by rw [hq q (Nat.lt_of_lt_of_le g1 h3.1)]; exact h3.2.1 q g1 g2⟩
theorem g_thrS_w : ∀ w ∈ (vx_atS "HotelNights" 324 gxS ["java/lang/RuntimeException", "java/lang/Exception"]).filter goodWord, w ∈ gws := gm_all (by decide +kernel)
theorem g_thrS_l : ∀ w ∈ [Cond.classLink "HotelNights" 320 gxS, Cond.initialized gxS], w ∈ gws := gm_all (by decide +kernel)
theorem g_thrS (hC : gC E "HotelNights" cc nL p l s m args meth c) {Sh' : gSh} {V' : gV} (hex : ∀ x ∈ c.exceptionTable.toList, False) (d0 : decode cc pc = .ok (.new 320, 3)) (d3 : decode cc (pc + 3) = .ok (.dup, 1)) (d4 : decode cc (pc + 4) = .ok (.ldc_w 322, 3)) (d7 : decode cc (pc + 7) = .ok (.invokespecial 324, 3)) (d10 : decode cc (pc + 10) = .ok (.athrow, 1))
    (hP : ∀ z', P (.inr gxS) Sh' V' z') (hs : ∀ a sh, Sh' a = some sh → Sh a = some sh ∧ ∀ j, V a j = V' a j) (hR : 5 < R.frames ∧ catS st + 82 ≤ R.locals ∧ k + 1 ≤ R.cells ∧ n + 6 ≤ R.slots) (hk : k + 1 ≤ rm.cells ∧ n + 6 ≤ rm.slots) : gG E nL p l e R s m args below meth c (gMQ E P rm below args s) pc L st Sh V z k n := by
  obtain ⟨hx, hb, hml, hown, hts, hlocks, hK, hN, hSS, hE, hlt⟩ := hC
  obtain ⟨sa, hstr⟩ := hN.2.2.2.2.2.2.2
  intro H locs ls h1 h2 h3 h4 h5
  refine vx_throwSW (cls := gxS) (names := ["java/lang/RuntimeException", "java/lang/Exception"]) (A := gA E) hx hb hlt hown (by decide +kernel) (by decide +kernel) (hts _ (g_thrS_l _ List.mem_cons_self)) (hts _ (g_thrS_l _ (List.mem_cons_of_mem _ List.mem_cons_self))) hstr ?_ (by decide +kernel) hSS.2.1 hSS.2.2.1 h3 (by rw [hml]; exact h5.1) d0 d3 d4 d7 d10 (fun x hx => (hex x hx).elim) hR.1 (by rw [catS_ok]; exact hR.2.1) hR.2.2.1 hR.2.2.2 hlocks ?_ h3.2.2 hk.1 hk.2
  · refine vx_hat (B := Cond.castable gxS gxS :: gdecl.map Cond.declares) (fun w hw => hts w (g_thrS_w w hw)) (by decide +kernel) ?_
    intro w hw
    rcases List.mem_cons.mp hw with rfl | hw
    · exact va_Nw.use rfl (hN.2.2.1 _ (by decide))
    · obtain ⟨x, hx2, rfl⟩ := List.mem_map.mp hw
      exact va_Nw.use rfl (hN.2.1 x hx2)
  · intro t ht hz hq
    exact ⟨Sh', V', hP _, gH_sub (gH_mono h1 hq) hs, Nat.le_trans h3.1 hz, fun q g1 g2 => by rw [hq q (Nat.lt_of_lt_of_le g1 h3.1)]; exact h3.2.1 q g1 g2⟩
end GT
