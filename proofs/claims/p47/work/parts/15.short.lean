/-! short rows: calls that only answer, calls that change numbers, fields by their kind -/
abbrev rmk (f c s l : Nat) : Room := { frames := f, cells := c, slots := s, locals := l }
def bI (b : Prop) [Decidable b] : Int := if b then 1 else 0
theorem bI_01 (b : Prop) [Decidable b] : bI b = 0 ∨ bI b = 1 := by unfold bI; split; exact Or.inr rfl; exact Or.inl rfl
theorem bI_t {b : Prop} [Decidable b] (h : b) : bI b = 1 := if_pos h
theorem bI_f {b : Prop} [Decidable b] (h : ¬ b) : bI b = 0 := if_neg h
theorem bI_0 {b : Prop} [Decidable b] : bI b = 0 ↔ ¬ b := by unfold bI; split <;> simp_all
theorem bI_n0 {b : Prop} [Decidable b] : bI b ≠ 0 ↔ b := by unfold bI; split <;> simp_all
theorem bI_in (b : Prop) [Decidable b] : inI (bI b) := by unfold bI; split <;> exact ⟨by decide, by decide⟩
theorem bI_iff {a b : Prop} [Decidable a] [Decidable b] (h : a ↔ b) : bI a = bI b := by unfold bI; simp [h]
theorem gM_at {E : gE} {l : Launch} {y : MethodName} {cc : ByteArray} {maxL : Nat} {ret : Option FieldType} {rm : Room} {as L0 : List aV} {Sh : gSh} {V : gV} {z : Int} {P : gPo} (hy : plainName y.cls = true) (hL : entL as maxL = L0) (hA : Nat.ble (entA as).length maxL = true)
    (body : ∀ p e s m args below meth c, gC E y.cls cc maxL p l s m args meth c → meth.sig.returnType = ret → (∀ x ∈ c.exceptionTable.toList, False) → meth.name = y.name → (E.1 : Int) ≤ z →
      gG E maxL p l e rm s m args below meth c (gMQ E P rm below args s) 0 L0 [] Sh V z 0 0) : gM E l y (Cond.code y cc maxL ret) rm as Sh V z P := by
  subst hL
  exact gM_of hy (Nat.le_of_ble_eq_true hA) body
section GW
variable {E : gE} {own : String} {cc : ByteArray} {nL : Nat} {p : Program} {l : Launch} {e : Env} {R : Room} {s : State} {m : MethodId} {args : Array Value} {below : List Frame} {meth : Method} {c : Code} {Q : State → Prop} {pc : Nat} {L st r : List aV} {Sh : gSh} {V : gV} {z : Int} {k n : Nat}
variable {P : gPo} {rm : Room}
/-- the numbers of an int array are ints -/
theorem g_rng {a : Int} {N : Nat} (hsh : Sh a = some (100, N)) (kk : (∀ i : Int, 0 ≤ i → i < N → inI (V a i)) → gG E nL p l e R s m args below meth c Q pc L st Sh V z k n) : gG E nL p l e R s m args below meth c Q pc L st Sh V z k n := by
  intro H locs ls h1 h2 h3 h4 h5
  refine kk (fun i h0 hi => ?_) H locs ls h1 h2 h3 h4 h5
  obtain ⟨-, hco⟩ := h1 a _ hsh
  unfold cOk at hco
  rw [if_neg (by show ¬ 100 < 100; decide)] at hco
  have := hco.2.2 i.toNat (by show i.toNat < N; omega)
  rw [show ((i.toNat : Nat) : Int) = i by omega] at this
  exact this
theorem g_rngL {a : Int} {N : Nat} (hsh : Sh a = some (101, N)) (kk : (∀ i : Int, 0 ≤ i → i < N → inL (V a i)) → gG E nL p l e R s m args below meth c Q pc L st Sh V z k n) : gG E nL p l e R s m args below meth c Q pc L st Sh V z k n := by
  intro H locs ls h1 h2 h3 h4 h5
  refine kk (fun i h0 hi => ?_) H locs ls h1 h2 h3 h4 h5
  obtain ⟨-, hco⟩ := h1 a _ hsh
  unfold cOk at hco
  rw [if_neg (by show ¬ 101 < 100; decide)] at hco
  have := hco.2.2 i.toNat (by show i.toNat < N; omega)
  rw [show ((i.toNat : Nat) : Int) = i by omega] at this
  exact this
/-- the fields of an object are of their kinds -/
theorem g_rngO {a : Int} {ci : Nat} (hsh : Sh a = some (ci, 0)) (hci : ci < 100) (kk : (∀ j : Nat, j < 23 → okT (ftt ci j) (V a j)) → gG E nL p l e R s m args below meth c Q pc L st Sh V z k n) : gG E nL p l e R s m args below meth c Q pc L st Sh V z k n := by
  intro H locs ls h1 h2 h3 h4 h5
  refine kk ?_ H locs ls h1 h2 h3 h4 h5
  obtain ⟨-, hco⟩ := h1 a _ hsh
  unfold cOk at hco
  rw [if_pos hci] at hco
  exact hco.2
theorem g_ref {a : Int} {sh : Nat × Nat} (hsh : Sh a = some sh) (kk : (E.1 : Int) ≤ a → gG E nL p l e R s m args below meth c Q pc L st Sh V z k n) : gG E nL p l e R s m args below meth c Q pc L st Sh V z k n := by
  intro H locs ls h1 h2 h3 h4 h5
  exact kk (h1 a _ hsh).1 H locs ls h1 h2 h3 h4 h5
theorem g_geti (hC : gC E own cc nL p l s m args meth c) {ci kf idx : Nat} {a : Int} (hd : decode cc pc = .ok (.getfield idx, 3)) (hf : gFL own idx ci kf) (hsh : Sh a = some (ci, 0)) (hci : ci < 100) (hft : ftt ci kf = 0) (j : Int) (hj : (kf : Int) = j)
    (kk : inI (V a j) → gG E nL p l e R s m args below meth c Q (pc + 3) L ((0, V a j) :: r) Sh V z k n) : gG E nL p l e R s m args below meth c Q pc L ((2, a) :: r) Sh V z k n := by
  subst hj
  refine g_get hC hd hf hsh hci ?_
  rw [hft]
  exact kk
theorem g_puti (hC : gC E own cc nL p l s m args meth c) {ci kf idx : Nat} {a x : Int} (hd : decode cc pc = .ok (.putfield idx, 3)) (hf : gFL own idx ci kf) (hsh : Sh a = some (ci, 0)) (hci : ci < 100) (hft : ftt ci kf = 0) (hfin : ∀ r : vw_C, vwCl[ci]? = some r → (r.2.1 kf).2.2.2 = false) (j : Int) (hj : (kf : Int) = j) (hx : inI x)
    (kk : ∀ V1, V1 = up V a j x → gG E nL p l e R s m args below meth c Q (pc + 3) L r Sh V1 z k n) : gG E nL p l e R s m args below meth c Q pc L ((0, x) :: (2, a) :: r) Sh V z k n := by
  subst hj
  have := g_put hC (r := r) (L := L) (V := V) (z := z) (k := k) (n := n) (Q := Q) (R := R) (e := e) (below := below) hd hf hsh hci hfin (x := x) (by rw [hft]; exact hx) (kk _ rfl)
  rw [hft] at this
  exact this
theorem g_getl (hC : gC E own cc nL p l s m args meth c) {ci kf idx : Nat} {a : Int} (hd : decode cc pc = .ok (.getfield idx, 3)) (hf : gFL own idx ci kf) (hsh : Sh a = some (ci, 0)) (hci : ci < 100) (hft : ftt ci kf = 1) (j : Int) (hj : (kf : Int) = j)
    (kk : inL (V a j) → gG E nL p l e R s m args below meth c Q (pc + 3) L ((1, V a j) :: r) Sh V z k n) : gG E nL p l e R s m args below meth c Q pc L ((2, a) :: r) Sh V z k n := by
  subst hj
  refine g_get hC hd hf hsh hci ?_
  rw [hft]
  exact kk
theorem g_putl (hC : gC E own cc nL p l s m args meth c) {ci kf idx : Nat} {a x : Int} (hd : decode cc pc = .ok (.putfield idx, 3)) (hf : gFL own idx ci kf) (hsh : Sh a = some (ci, 0)) (hci : ci < 100) (hft : ftt ci kf = 1) (hfin : ∀ r : vw_C, vwCl[ci]? = some r → (r.2.1 kf).2.2.2 = false) (j : Int) (hj : (kf : Int) = j) (hx : inL x)
    (kk : ∀ V1, V1 = up V a j x → gG E nL p l e R s m args below meth c Q (pc + 3) L r Sh V1 z k n) : gG E nL p l e R s m args below meth c Q pc L ((1, x) :: (2, a) :: r) Sh V z k n := by
  subst hj
  have := g_put hC (r := r) (L := L) (V := V) (z := z) (k := k) (n := n) (Q := Q) (R := R) (e := e) (below := below) hd hf hsh hci hfin (x := x) (by rw [hft]; exact hx) (kk _ rfl)
  rw [hft] at this
  exact this
theorem g_getz (hC : gC E own cc nL p l s m args meth c) {ci kf idx : Nat} {a : Int} (hd : decode cc pc = .ok (.getfield idx, 3)) (hf : gFL own idx ci kf) (hsh : Sh a = some (ci, 0)) (hci : ci < 100) (hft : ftt ci kf = 5) (j : Int) (hj : (kf : Int) = j)
    (kk : V a j = 0 ∨ V a j = 1 → gG E nL p l e R s m args below meth c Q (pc + 3) L ((0, V a j) :: r) Sh V z k n) : gG E nL p l e R s m args below meth c Q pc L ((2, a) :: r) Sh V z k n := by
  subst hj
  refine g_get hC hd hf hsh hci ?_
  rw [hft]
  exact kk
theorem g_putz (hC : gC E own cc nL p l s m args meth c) {ci kf idx : Nat} {a x : Int} (hd : decode cc pc = .ok (.putfield idx, 3)) (hf : gFL own idx ci kf) (hsh : Sh a = some (ci, 0)) (hci : ci < 100) (hft : ftt ci kf = 5) (hfin : ∀ r : vw_C, vwCl[ci]? = some r → (r.2.1 kf).2.2.2 = false) (j : Int) (hj : (kf : Int) = j) (hx : x = 0 ∨ x = 1)
    (kk : ∀ V1, V1 = up V a j x → gG E nL p l e R s m args below meth c Q (pc + 3) L r Sh V1 z k n) : gG E nL p l e R s m args below meth c Q pc L ((0, x) :: (2, a) :: r) Sh V z k n := by
  subst hj
  have := g_put hC (r := r) (L := L) (V := V) (z := z) (k := k) (n := n) (Q := Q) (R := R) (e := e) (below := below) hd hf hsh hci hfin (x := x) (by rw [hft]; exact hx) (kk _ rfl)
  rw [hft] at this
  exact this
theorem g_getr (hC : gC E own cc nL p l s m args meth c) {ci kf idx : Nat} {a x : Int} (hd : decode cc pc = .ok (.getfield idx, 3)) (hf : gFL own idx ci kf) (hsh : Sh a = some (ci, 0)) (hci : ci < 100) (hft : ftt ci kf = 2) (j : Int) (hj : (kf : Int) = j) (hv : V a j = x)
    (kk : gG E nL p l e R s m args below meth c Q (pc + 3) L ((2, x) :: r) Sh V z k n) : gG E nL p l e R s m args below meth c Q pc L ((2, a) :: r) Sh V z k n := by
  subst hj
  subst hv
  refine g_get hC hd hf hsh hci (fun _ => ?_)
  rw [hft]
  exact kk
theorem g_putr (hC : gC E own cc nL p l s m args meth c) {ci kf idx : Nat} {a x : Int} (hd : decode cc pc = .ok (.putfield idx, 3)) (hf : gFL own idx ci kf) (hsh : Sh a = some (ci, 0)) (hci : ci < 100) (hft : ftt ci kf = 2) (hfin : ∀ r : vw_C, vwCl[ci]? = some r → (r.2.1 kf).2.2.2 = true ∧ (r.2.1 kf).1 = own) (hin2 : meth.name = "<init>") (j : Int) (hj : (kf : Int) = j)
    (kk : ∀ V1, V1 = up V a j x → gG E nL p l e R s m args below meth c Q (pc + 3) L r Sh V1 z k n) : gG E nL p l e R s m args below meth c Q pc L ((2, x) :: (2, a) :: r) Sh V z k n := by
  subst hj
  have := g_putF hC (r := r) (L := L) (V := V) (z := z) (k := k) (n := n) (Q := Q) (R := R) (e := e) (below := below) hd hf hsh hci hfin hin2 (x := x) (by rw [hft]; trivial) (kk _ rfl)
  rw [hft] at this
  exact this
theorem g_ast (hC : gC E own cc nL p l s m args meth c) {N : Nat} {a i x : Int} (hd : decode cc pc = .ok (.iastore, 1)) (hsh : Sh a = some (100, N)) (h0 : 0 ≤ i) (hn : i < N) (hN : (N : Int) ≤ 2147483647) (hxx : inI x)
    (kk : ∀ V1, V1 = up V a i x → gG E nL p l e R s m args below meth c Q (pc + 1) L r Sh V1 z k n) : gG E nL p l e R s m args below meth c Q pc L ((0, x) :: (0, i) :: (2, a) :: r) Sh V z k n := g_iastore hC hd hsh h0 hn hN hxx (kk _ rfl)
theorem g_lst (hC : gC E own cc nL p l s m args meth c) {N : Nat} {a i x : Int} (hd : decode cc pc = .ok (.lastore, 1)) (hsh : Sh a = some (101, N)) (h0 : 0 ≤ i) (hn : i < N) (hN : (N : Int) ≤ 2147483647) (hxx : inL x)
    (kk : ∀ V1, V1 = up V a i x → gG E nL p l e R s m args below meth c Q (pc + 1) L r Sh V1 z k n) : gG E nL p l e R s m args below meth c Q pc L ((1, x) :: (0, i) :: (2, a) :: r) Sh V z k n := g_lastore hC hd hsh h0 hn hN hxx (kk _ rfl)
theorem gR_no {P : Prop} {r : Option aV} {Sh0 Sh' : gSh} {V0 V' : gV} {z' : Int} {X : String} (h : gR r Sh0 V0 (.inr X) Sh' V' z') : P := nomatch h.1
theorem g_cV1 (hC : gC E own cc nL p l s m args meth c) {y : MethodName} {bytes : ByteArray} {v : aV} {maxL na ci idx : Nat} {ret : Option FieldType} {a : Int} {as rest : List aV} {st0 : List aV} (hd : decode cc pc = .ok (.invokevirtual idx, 3)) (hl : Cond.methodLink own idx y ∈ gws) (hY : gYV y bytes maxL ret na ci)
    (hM : gM E l y (Cond.code y bytes maxL ret) rm ((2, a) :: as) Sh V z (gR (some v) Sh V)) (hst : st0 = as.reverse ++ (2, a) :: rest) (hsh : Sh a = some (ci, 0)) (hci : ci < 100) (hna : as.length = na) (hW : catS rest ≤ 8) (hR : (rm.frames + 1 ≤ R.frames ∧ 8 + (maxL + 11) + rm.locals ≤ R.locals) ∧ (k + rm.cells ≤ R.cells ∧ n + rm.slots ≤ R.slots))
    (kk : ∀ z', gG E nL p l e R s m args below meth c Q (pc + 3) L (v :: rest) Sh V z' (k + rm.cells) (n + rm.slots)) : gG E nL p l e R s m args below meth c Q pc L st0 Sh V z k n :=
  g_callV hC st0 hd hl hY hM hst hsh hci hna hW hR (fun r0 Sh' V' z' h => by obtain ⟨h1, rfl, rfl⟩ := h; cases h1; exact kk z') (fun X Sh' V' z' h => gR_no h)
theorem g_cV1m (hC : gC E own cc nL p l s m args meth c) {y : MethodName} {bytes : ByteArray} {v : aV} {maxL na ci idx : Nat} {ret : Option FieldType} {a : Int} {as rest : List aV} {st0 : List aV} {V0 : gV} (hd : decode cc pc = .ok (.invokevirtual idx, 3)) (hl : Cond.methodLink own idx y ∈ gws) (hY : gYV y bytes maxL ret na ci)
    (hM : gM E l y (Cond.code y bytes maxL ret) rm ((2, a) :: as) Sh V z (gR (some v) Sh V0)) (hst : st0 = as.reverse ++ (2, a) :: rest) (hsh : Sh a = some (ci, 0)) (hci : ci < 100) (hna : as.length = na) (hW : catS rest ≤ 8) (hR : (rm.frames + 1 ≤ R.frames ∧ 8 + (maxL + 11) + rm.locals ≤ R.locals) ∧ (k + rm.cells ≤ R.cells ∧ n + rm.slots ≤ R.slots))
    (kk : ∀ z' V1, V1 = V0 → gG E nL p l e R s m args below meth c Q (pc + 3) L (v :: rest) Sh V1 z' (k + rm.cells) (n + rm.slots)) : gG E nL p l e R s m args below meth c Q pc L st0 Sh V z k n :=
  g_callV hC st0 hd hl hY hM hst hsh hci hna hW hR (fun r0 Sh' V' z' h => by obtain ⟨h1, rfl, rfl⟩ := h; cases h1; exact kk z' _ rfl) (fun X Sh' V' z' h => gR_no h)
theorem g_cV0 (hC : gC E own cc nL p l s m args meth c) {y : MethodName} {bytes : ByteArray} {maxL na ci idx : Nat} {ret : Option FieldType} {a : Int} {as rest : List aV} {st0 : List aV} (hd : decode cc pc = .ok (.invokevirtual idx, 3)) (hl : Cond.methodLink own idx y ∈ gws) (hY : gYV y bytes maxL ret na ci)
    (hM : gM E l y (Cond.code y bytes maxL ret) rm ((2, a) :: as) Sh V z (gR none Sh V)) (hst : st0 = as.reverse ++ (2, a) :: rest) (hsh : Sh a = some (ci, 0)) (hci : ci < 100) (hna : as.length = na) (hW : catS rest ≤ 8) (hR : (rm.frames + 1 ≤ R.frames ∧ 8 + (maxL + 11) + rm.locals ≤ R.locals) ∧ (k + rm.cells ≤ R.cells ∧ n + rm.slots ≤ R.slots))
    (kk : ∀ z', gG E nL p l e R s m args below meth c Q (pc + 3) L (rest) Sh V z' (k + rm.cells) (n + rm.slots)) : gG E nL p l e R s m args below meth c Q pc L st0 Sh V z k n :=
  g_callV hC st0 hd hl hY hM hst hsh hci hna hW hR (fun r0 Sh' V' z' h => by obtain ⟨h1, rfl, rfl⟩ := h; cases h1; exact kk z') (fun X Sh' V' z' h => gR_no h)
theorem g_cV0m (hC : gC E own cc nL p l s m args meth c) {y : MethodName} {bytes : ByteArray} {maxL na ci idx : Nat} {ret : Option FieldType} {a : Int} {as rest : List aV} {st0 : List aV} {V0 : gV} (hd : decode cc pc = .ok (.invokevirtual idx, 3)) (hl : Cond.methodLink own idx y ∈ gws) (hY : gYV y bytes maxL ret na ci)
    (hM : gM E l y (Cond.code y bytes maxL ret) rm ((2, a) :: as) Sh V z (gR none Sh V0)) (hst : st0 = as.reverse ++ (2, a) :: rest) (hsh : Sh a = some (ci, 0)) (hci : ci < 100) (hna : as.length = na) (hW : catS rest ≤ 8) (hR : (rm.frames + 1 ≤ R.frames ∧ 8 + (maxL + 11) + rm.locals ≤ R.locals) ∧ (k + rm.cells ≤ R.cells ∧ n + rm.slots ≤ R.slots))
    (kk : ∀ z' V1, V1 = V0 → gG E nL p l e R s m args below meth c Q (pc + 3) L (rest) Sh V1 z' (k + rm.cells) (n + rm.slots)) : gG E nL p l e R s m args below meth c Q pc L st0 Sh V z k n :=
  g_callV hC st0 hd hl hY hM hst hsh hci hna hW hR (fun r0 Sh' V' z' h => by obtain ⟨h1, rfl, rfl⟩ := h; cases h1; exact kk z' _ rfl) (fun X Sh' V' z' h => gR_no h)
theorem g_cS1 (hC : gC E own cc nL p l s m args meth c) {y : MethodName} {bytes : ByteArray} {v : aV} {maxL na idx : Nat} {ret : Option FieldType} {as rest : List aV} {st0 : List aV} (hd : decode cc pc = .ok (.invokestatic idx, 3)) (hl : Cond.methodLink own idx y ∈ gws) (hY : gYS y bytes maxL ret na)
    (hM : gM E l y (Cond.code y bytes maxL ret) rm (as) Sh V z (gR (some v) Sh V)) (hst : st0 = as.reverse ++ rest) (hna : as.length = na) (hW : catS rest ≤ 8) (hR : (rm.frames + 1 ≤ R.frames ∧ 8 + (maxL + 11) + rm.locals ≤ R.locals) ∧ (k + rm.cells ≤ R.cells ∧ n + rm.slots ≤ R.slots))
    (kk : ∀ z', gG E nL p l e R s m args below meth c Q (pc + 3) L (v :: rest) Sh V z' (k + rm.cells) (n + rm.slots)) : gG E nL p l e R s m args below meth c Q pc L st0 Sh V z k n :=
  g_callS hC st0 hd hl hY hM hst hna hW hR (fun r0 Sh' V' z' h => by obtain ⟨h1, rfl, rfl⟩ := h; cases h1; exact kk z') (fun X Sh' V' z' h => gR_no h)
theorem g_cS1m (hC : gC E own cc nL p l s m args meth c) {y : MethodName} {bytes : ByteArray} {v : aV} {maxL na idx : Nat} {ret : Option FieldType} {as rest : List aV} {st0 : List aV} {V0 : gV} (hd : decode cc pc = .ok (.invokestatic idx, 3)) (hl : Cond.methodLink own idx y ∈ gws) (hY : gYS y bytes maxL ret na)
    (hM : gM E l y (Cond.code y bytes maxL ret) rm (as) Sh V z (gR (some v) Sh V0)) (hst : st0 = as.reverse ++ rest) (hna : as.length = na) (hW : catS rest ≤ 8) (hR : (rm.frames + 1 ≤ R.frames ∧ 8 + (maxL + 11) + rm.locals ≤ R.locals) ∧ (k + rm.cells ≤ R.cells ∧ n + rm.slots ≤ R.slots))
    (kk : ∀ z' V1, V1 = V0 → gG E nL p l e R s m args below meth c Q (pc + 3) L (v :: rest) Sh V1 z' (k + rm.cells) (n + rm.slots)) : gG E nL p l e R s m args below meth c Q pc L st0 Sh V z k n :=
  g_callS hC st0 hd hl hY hM hst hna hW hR (fun r0 Sh' V' z' h => by obtain ⟨h1, rfl, rfl⟩ := h; cases h1; exact kk z' _ rfl) (fun X Sh' V' z' h => gR_no h)
theorem g_cS0 (hC : gC E own cc nL p l s m args meth c) {y : MethodName} {bytes : ByteArray} {maxL na idx : Nat} {ret : Option FieldType} {as rest : List aV} {st0 : List aV} (hd : decode cc pc = .ok (.invokestatic idx, 3)) (hl : Cond.methodLink own idx y ∈ gws) (hY : gYS y bytes maxL ret na)
    (hM : gM E l y (Cond.code y bytes maxL ret) rm (as) Sh V z (gR none Sh V)) (hst : st0 = as.reverse ++ rest) (hna : as.length = na) (hW : catS rest ≤ 8) (hR : (rm.frames + 1 ≤ R.frames ∧ 8 + (maxL + 11) + rm.locals ≤ R.locals) ∧ (k + rm.cells ≤ R.cells ∧ n + rm.slots ≤ R.slots))
    (kk : ∀ z', gG E nL p l e R s m args below meth c Q (pc + 3) L (rest) Sh V z' (k + rm.cells) (n + rm.slots)) : gG E nL p l e R s m args below meth c Q pc L st0 Sh V z k n :=
  g_callS hC st0 hd hl hY hM hst hna hW hR (fun r0 Sh' V' z' h => by obtain ⟨h1, rfl, rfl⟩ := h; cases h1; exact kk z') (fun X Sh' V' z' h => gR_no h)
theorem g_cS0m (hC : gC E own cc nL p l s m args meth c) {y : MethodName} {bytes : ByteArray} {maxL na idx : Nat} {ret : Option FieldType} {as rest : List aV} {st0 : List aV} {V0 : gV} (hd : decode cc pc = .ok (.invokestatic idx, 3)) (hl : Cond.methodLink own idx y ∈ gws) (hY : gYS y bytes maxL ret na)
    (hM : gM E l y (Cond.code y bytes maxL ret) rm (as) Sh V z (gR none Sh V0)) (hst : st0 = as.reverse ++ rest) (hna : as.length = na) (hW : catS rest ≤ 8) (hR : (rm.frames + 1 ≤ R.frames ∧ 8 + (maxL + 11) + rm.locals ≤ R.locals) ∧ (k + rm.cells ≤ R.cells ∧ n + rm.slots ≤ R.slots))
    (kk : ∀ z' V1, V1 = V0 → gG E nL p l e R s m args below meth c Q (pc + 3) L (rest) Sh V1 z' (k + rm.cells) (n + rm.slots)) : gG E nL p l e R s m args below meth c Q pc L st0 Sh V z k n :=
  g_callS hC st0 hd hl hY hM hst hna hW hR (fun r0 Sh' V' z' h => by obtain ⟨h1, rfl, rfl⟩ := h; cases h1; exact kk z' _ rfl) (fun X Sh' V' z' h => gR_no h)
theorem g_cI0 (hC : gC E own cc nL p l s m args meth c) {y : MethodName} {bytes : ByteArray} {maxL na idx : Nat} {a : Int} {as rest : List aV} {st0 : List aV} (hd : decode cc pc = .ok (.invokespecial idx, 3)) (hl : Cond.methodLink own idx y ∈ gws) (hY : gYI y bytes maxL na)
    (hM : gM E l y (Cond.code y bytes maxL none) rm ((2, a) :: as) Sh V z (gR none Sh V)) (hst : st0 = as.reverse ++ (2, a) :: rest) (ha0 : 0 ≤ a) (hna : as.length = na) (hW : catS rest ≤ 8) (hR : (rm.frames + 1 ≤ R.frames ∧ 8 + (maxL + 11) + rm.locals ≤ R.locals) ∧ (k + rm.cells ≤ R.cells ∧ n + rm.slots ≤ R.slots))
    (kk : ∀ z', gG E nL p l e R s m args below meth c Q (pc + 3) L (rest) Sh V z' (k + rm.cells) (n + rm.slots)) : gG E nL p l e R s m args below meth c Q pc L st0 Sh V z k n :=
  g_callI hC st0 hd hl hY hM hst ha0 hna hW hR (fun r0 Sh' V' z' h => by obtain ⟨h1, rfl, rfl⟩ := h; cases h1; exact kk z') (fun X Sh' V' z' h => gR_no h)
theorem g_cI0m (hC : gC E own cc nL p l s m args meth c) {y : MethodName} {bytes : ByteArray} {maxL na idx : Nat} {a : Int} {as rest : List aV} {st0 : List aV} {V0 : gV} (hd : decode cc pc = .ok (.invokespecial idx, 3)) (hl : Cond.methodLink own idx y ∈ gws) (hY : gYI y bytes maxL na)
    (hM : gM E l y (Cond.code y bytes maxL none) rm ((2, a) :: as) Sh V z (gR none Sh V0)) (hst : st0 = as.reverse ++ (2, a) :: rest) (ha0 : 0 ≤ a) (hna : as.length = na) (hW : catS rest ≤ 8) (hR : (rm.frames + 1 ≤ R.frames ∧ 8 + (maxL + 11) + rm.locals ≤ R.locals) ∧ (k + rm.cells ≤ R.cells ∧ n + rm.slots ≤ R.slots))
    (kk : ∀ z' V1, V1 = V0 → gG E nL p l e R s m args below meth c Q (pc + 3) L (rest) Sh V1 z' (k + rm.cells) (n + rm.slots)) : gG E nL p l e R s m args below meth c Q pc L st0 Sh V z k n :=
  g_callI hC st0 hd hl hY hM hst ha0 hna hW hR (fun r0 Sh' V' z' h => by obtain ⟨h1, rfl, rfl⟩ := h; cases h1; exact kk z' _ rfl) (fun X Sh' V' z' h => gR_no h)
theorem g_cSN1 (hC : gC E own cc nL p l s m args meth c) {y : MethodName} {bytes : ByteArray} {v : aV} {host : String} {maxL na idx : Nat} {ret : Option FieldType} {as rest : List aV} {st0 : List aV} (hd : decode cc pc = .ok (.invokestatic idx, 3)) (hl : (own, idx, y, host) ∈ gnest) (hY : gYS y bytes maxL ret na)
    (hM : gM E l y (Cond.code y bytes maxL ret) rm (as) Sh V z (gR (some v) Sh V)) (hst : st0 = as.reverse ++ rest) (hna : as.length = na) (hW : catS rest ≤ 8) (hR : (rm.frames + 1 ≤ R.frames ∧ 8 + (maxL + 11) + rm.locals ≤ R.locals) ∧ (k + rm.cells ≤ R.cells ∧ n + rm.slots ≤ R.slots))
    (kk : ∀ z', gG E nL p l e R s m args below meth c Q (pc + 3) L (v :: rest) Sh V z' (k + rm.cells) (n + rm.slots)) : gG E nL p l e R s m args below meth c Q pc L st0 Sh V z k n :=
  g_callSN hC st0 hd hl hY hM hst hna hW hR (fun r0 Sh' V' z' h => by obtain ⟨h1, rfl, rfl⟩ := h; cases h1; exact kk z') (fun X Sh' V' z' h => gR_no h)
theorem g_cSN1m (hC : gC E own cc nL p l s m args meth c) {y : MethodName} {bytes : ByteArray} {v : aV} {host : String} {maxL na idx : Nat} {ret : Option FieldType} {as rest : List aV} {st0 : List aV} {V0 : gV} (hd : decode cc pc = .ok (.invokestatic idx, 3)) (hl : (own, idx, y, host) ∈ gnest) (hY : gYS y bytes maxL ret na)
    (hM : gM E l y (Cond.code y bytes maxL ret) rm (as) Sh V z (gR (some v) Sh V0)) (hst : st0 = as.reverse ++ rest) (hna : as.length = na) (hW : catS rest ≤ 8) (hR : (rm.frames + 1 ≤ R.frames ∧ 8 + (maxL + 11) + rm.locals ≤ R.locals) ∧ (k + rm.cells ≤ R.cells ∧ n + rm.slots ≤ R.slots))
    (kk : ∀ z' V1, V1 = V0 → gG E nL p l e R s m args below meth c Q (pc + 3) L (v :: rest) Sh V1 z' (k + rm.cells) (n + rm.slots)) : gG E nL p l e R s m args below meth c Q pc L st0 Sh V z k n :=
  g_callSN hC st0 hd hl hY hM hst hna hW hR (fun r0 Sh' V' z' h => by obtain ⟨h1, rfl, rfl⟩ := h; cases h1; exact kk z' _ rfl) (fun X Sh' V' z' h => gR_no h)
theorem g_cSN0 (hC : gC E own cc nL p l s m args meth c) {y : MethodName} {bytes : ByteArray} {host : String} {maxL na idx : Nat} {ret : Option FieldType} {as rest : List aV} {st0 : List aV} (hd : decode cc pc = .ok (.invokestatic idx, 3)) (hl : (own, idx, y, host) ∈ gnest) (hY : gYS y bytes maxL ret na)
    (hM : gM E l y (Cond.code y bytes maxL ret) rm (as) Sh V z (gR none Sh V)) (hst : st0 = as.reverse ++ rest) (hna : as.length = na) (hW : catS rest ≤ 8) (hR : (rm.frames + 1 ≤ R.frames ∧ 8 + (maxL + 11) + rm.locals ≤ R.locals) ∧ (k + rm.cells ≤ R.cells ∧ n + rm.slots ≤ R.slots))
    (kk : ∀ z', gG E nL p l e R s m args below meth c Q (pc + 3) L (rest) Sh V z' (k + rm.cells) (n + rm.slots)) : gG E nL p l e R s m args below meth c Q pc L st0 Sh V z k n :=
  g_callSN hC st0 hd hl hY hM hst hna hW hR (fun r0 Sh' V' z' h => by obtain ⟨h1, rfl, rfl⟩ := h; cases h1; exact kk z') (fun X Sh' V' z' h => gR_no h)
theorem g_cSN0m (hC : gC E own cc nL p l s m args meth c) {y : MethodName} {bytes : ByteArray} {host : String} {maxL na idx : Nat} {ret : Option FieldType} {as rest : List aV} {st0 : List aV} {V0 : gV} (hd : decode cc pc = .ok (.invokestatic idx, 3)) (hl : (own, idx, y, host) ∈ gnest) (hY : gYS y bytes maxL ret na)
    (hM : gM E l y (Cond.code y bytes maxL ret) rm (as) Sh V z (gR none Sh V0)) (hst : st0 = as.reverse ++ rest) (hna : as.length = na) (hW : catS rest ≤ 8) (hR : (rm.frames + 1 ≤ R.frames ∧ 8 + (maxL + 11) + rm.locals ≤ R.locals) ∧ (k + rm.cells ≤ R.cells ∧ n + rm.slots ≤ R.slots))
    (kk : ∀ z' V1, V1 = V0 → gG E nL p l e R s m args below meth c Q (pc + 3) L (rest) Sh V1 z' (k + rm.cells) (n + rm.slots)) : gG E nL p l e R s m args below meth c Q pc L st0 Sh V z k n :=
  g_callSN hC st0 hd hl hY hM hst hna hW hR (fun r0 Sh' V' z' h => by obtain ⟨h1, rfl, rfl⟩ := h; cases h1; exact kk z' _ rfl) (fun X Sh' V' z' h => gR_no h)
theorem g_cIN0 (hC : gC E own cc nL p l s m args meth c) {y : MethodName} {bytes : ByteArray} {host : String} {maxL na idx : Nat} {a : Int} {as rest : List aV} {st0 : List aV} (hd : decode cc pc = .ok (.invokespecial idx, 3)) (hl : (own, idx, y, host) ∈ gnest) (hY : gYI y bytes maxL na)
    (hM : gM E l y (Cond.code y bytes maxL none) rm ((2, a) :: as) Sh V z (gR none Sh V)) (hst : st0 = as.reverse ++ (2, a) :: rest) (ha0 : 0 ≤ a) (hna : as.length = na) (hW : catS rest ≤ 8) (hR : (rm.frames + 1 ≤ R.frames ∧ 8 + (maxL + 11) + rm.locals ≤ R.locals) ∧ (k + rm.cells ≤ R.cells ∧ n + rm.slots ≤ R.slots))
    (kk : ∀ z', gG E nL p l e R s m args below meth c Q (pc + 3) L (rest) Sh V z' (k + rm.cells) (n + rm.slots)) : gG E nL p l e R s m args below meth c Q pc L st0 Sh V z k n :=
  g_callIN hC st0 hd hl hY hM hst ha0 hna hW hR (fun r0 Sh' V' z' h => by obtain ⟨h1, rfl, rfl⟩ := h; cases h1; exact kk z') (fun X Sh' V' z' h => gR_no h)
theorem g_cIN0m (hC : gC E own cc nL p l s m args meth c) {y : MethodName} {bytes : ByteArray} {host : String} {maxL na idx : Nat} {a : Int} {as rest : List aV} {st0 : List aV} {V0 : gV} (hd : decode cc pc = .ok (.invokespecial idx, 3)) (hl : (own, idx, y, host) ∈ gnest) (hY : gYI y bytes maxL na)
    (hM : gM E l y (Cond.code y bytes maxL none) rm ((2, a) :: as) Sh V z (gR none Sh V0)) (hst : st0 = as.reverse ++ (2, a) :: rest) (ha0 : 0 ≤ a) (hna : as.length = na) (hW : catS rest ≤ 8) (hR : (rm.frames + 1 ≤ R.frames ∧ 8 + (maxL + 11) + rm.locals ≤ R.locals) ∧ (k + rm.cells ≤ R.cells ∧ n + rm.slots ≤ R.slots))
    (kk : ∀ z' V1, V1 = V0 → gG E nL p l e R s m args below meth c Q (pc + 3) L (rest) Sh V1 z' (k + rm.cells) (n + rm.slots)) : gG E nL p l e R s m args below meth c Q pc L st0 Sh V z k n :=
  g_callIN hC st0 hd hl hY hM hst ha0 hna hW hR (fun r0 Sh' V' z' h => by obtain ⟨h1, rfl, rfl⟩ := h; cases h1; exact kk z' _ rfl) (fun X Sh' V' z' h => gR_no h)
/-- .. an int that is one -/
def gRi (x : Int) (Sh : gSh) (V : gV) : gPo := fun o Sh' V' _ => o = .inl (some (0, x)) ∧ Sh' = Sh ∧ V' = V ∧ inI x
theorem gRi_no {P : Prop} {x : Int} {Sh0 Sh' : gSh} {V0 V' : gV} {z' : Int} {X : String} (h : gRi x Sh0 V0 (.inr X) Sh' V' z') : P := nomatch h.1
/-- .. a long that is one -/
def gRl (x : Int) (Sh : gSh) (V : gV) : gPo := fun o Sh' V' _ => o = .inl (some (1, x)) ∧ Sh' = Sh ∧ V' = V ∧ inL x
theorem gRl_no {P : Prop} {x : Int} {Sh0 Sh' : gSh} {V0 V' : gV} {z' : Int} {X : String} (h : gRl x Sh0 V0 (.inr X) Sh' V' z') : P := nomatch h.1
theorem g_cV1i (hC : gC E own cc nL p l s m args meth c) {y : MethodName} {bytes : ByteArray} {x : Int} {maxL na ci idx : Nat} {ret : Option FieldType} {a : Int} {as rest : List aV} {st0 : List aV} (hd : decode cc pc = .ok (.invokevirtual idx, 3)) (hl : Cond.methodLink own idx y ∈ gws) (hY : gYV y bytes maxL ret na ci)
    (hM : gM E l y (Cond.code y bytes maxL ret) rm ((2, a) :: as) Sh V z (gRi x Sh V)) (hst : st0 = as.reverse ++ (2, a) :: rest) (hsh : Sh a = some (ci, 0)) (hci : ci < 100) (hna : as.length = na) (hW : catS rest ≤ 8) (hR : (rm.frames + 1 ≤ R.frames ∧ 8 + (maxL + 11) + rm.locals ≤ R.locals) ∧ (k + rm.cells ≤ R.cells ∧ n + rm.slots ≤ R.slots))
    (kk : ∀ z', inI x → gG E nL p l e R s m args below meth c Q (pc + 3) L ((0, x) :: rest) Sh V z' (k + rm.cells) (n + rm.slots)) : gG E nL p l e R s m args below meth c Q pc L st0 Sh V z k n :=
  g_callV hC st0 hd hl hY hM hst hsh hci hna hW hR (fun r0 Sh' V' z' h => by obtain ⟨h1, rfl, rfl, h2⟩ := h; cases h1; exact kk z' h2) (fun X Sh' V' z' h => gRi_no h)
theorem g_cV1im (hC : gC E own cc nL p l s m args meth c) {y : MethodName} {bytes : ByteArray} {x : Int} {maxL na ci idx : Nat} {ret : Option FieldType} {a : Int} {as rest : List aV} {st0 : List aV} {V0 : gV} (hd : decode cc pc = .ok (.invokevirtual idx, 3)) (hl : Cond.methodLink own idx y ∈ gws) (hY : gYV y bytes maxL ret na ci)
    (hM : gM E l y (Cond.code y bytes maxL ret) rm ((2, a) :: as) Sh V z (gRi x Sh V0)) (hst : st0 = as.reverse ++ (2, a) :: rest) (hsh : Sh a = some (ci, 0)) (hci : ci < 100) (hna : as.length = na) (hW : catS rest ≤ 8) (hR : (rm.frames + 1 ≤ R.frames ∧ 8 + (maxL + 11) + rm.locals ≤ R.locals) ∧ (k + rm.cells ≤ R.cells ∧ n + rm.slots ≤ R.slots))
    (kk : ∀ z' V1, V1 = V0 → inI x → gG E nL p l e R s m args below meth c Q (pc + 3) L ((0, x) :: rest) Sh V1 z' (k + rm.cells) (n + rm.slots)) : gG E nL p l e R s m args below meth c Q pc L st0 Sh V z k n :=
  g_callV hC st0 hd hl hY hM hst hsh hci hna hW hR (fun r0 Sh' V' z' h => by obtain ⟨h1, rfl, rfl, h2⟩ := h; cases h1; exact kk z' _ rfl h2) (fun X Sh' V' z' h => gRi_no h)
theorem g_cV1l (hC : gC E own cc nL p l s m args meth c) {y : MethodName} {bytes : ByteArray} {x : Int} {maxL na ci idx : Nat} {ret : Option FieldType} {a : Int} {as rest : List aV} {st0 : List aV} (hd : decode cc pc = .ok (.invokevirtual idx, 3)) (hl : Cond.methodLink own idx y ∈ gws) (hY : gYV y bytes maxL ret na ci)
    (hM : gM E l y (Cond.code y bytes maxL ret) rm ((2, a) :: as) Sh V z (gRl x Sh V)) (hst : st0 = as.reverse ++ (2, a) :: rest) (hsh : Sh a = some (ci, 0)) (hci : ci < 100) (hna : as.length = na) (hW : catS rest ≤ 8) (hR : (rm.frames + 1 ≤ R.frames ∧ 8 + (maxL + 11) + rm.locals ≤ R.locals) ∧ (k + rm.cells ≤ R.cells ∧ n + rm.slots ≤ R.slots))
    (kk : ∀ z', inL x → gG E nL p l e R s m args below meth c Q (pc + 3) L ((1, x) :: rest) Sh V z' (k + rm.cells) (n + rm.slots)) : gG E nL p l e R s m args below meth c Q pc L st0 Sh V z k n :=
  g_callV hC st0 hd hl hY hM hst hsh hci hna hW hR (fun r0 Sh' V' z' h => by obtain ⟨h1, rfl, rfl, h2⟩ := h; cases h1; exact kk z' h2) (fun X Sh' V' z' h => gRl_no h)
theorem g_cV1lm (hC : gC E own cc nL p l s m args meth c) {y : MethodName} {bytes : ByteArray} {x : Int} {maxL na ci idx : Nat} {ret : Option FieldType} {a : Int} {as rest : List aV} {st0 : List aV} {V0 : gV} (hd : decode cc pc = .ok (.invokevirtual idx, 3)) (hl : Cond.methodLink own idx y ∈ gws) (hY : gYV y bytes maxL ret na ci)
    (hM : gM E l y (Cond.code y bytes maxL ret) rm ((2, a) :: as) Sh V z (gRl x Sh V0)) (hst : st0 = as.reverse ++ (2, a) :: rest) (hsh : Sh a = some (ci, 0)) (hci : ci < 100) (hna : as.length = na) (hW : catS rest ≤ 8) (hR : (rm.frames + 1 ≤ R.frames ∧ 8 + (maxL + 11) + rm.locals ≤ R.locals) ∧ (k + rm.cells ≤ R.cells ∧ n + rm.slots ≤ R.slots))
    (kk : ∀ z' V1, V1 = V0 → inL x → gG E nL p l e R s m args below meth c Q (pc + 3) L ((1, x) :: rest) Sh V1 z' (k + rm.cells) (n + rm.slots)) : gG E nL p l e R s m args below meth c Q pc L st0 Sh V z k n :=
  g_callV hC st0 hd hl hY hM hst hsh hci hna hW hR (fun r0 Sh' V' z' h => by obtain ⟨h1, rfl, rfl, h2⟩ := h; cases h1; exact kk z' _ rfl h2) (fun X Sh' V' z' h => gRl_no h)
theorem g_cS1i (hC : gC E own cc nL p l s m args meth c) {y : MethodName} {bytes : ByteArray} {x : Int} {maxL na idx : Nat} {ret : Option FieldType} {as rest : List aV} {st0 : List aV} (hd : decode cc pc = .ok (.invokestatic idx, 3)) (hl : Cond.methodLink own idx y ∈ gws) (hY : gYS y bytes maxL ret na)
    (hM : gM E l y (Cond.code y bytes maxL ret) rm (as) Sh V z (gRi x Sh V)) (hst : st0 = as.reverse ++ rest) (hna : as.length = na) (hW : catS rest ≤ 8) (hR : (rm.frames + 1 ≤ R.frames ∧ 8 + (maxL + 11) + rm.locals ≤ R.locals) ∧ (k + rm.cells ≤ R.cells ∧ n + rm.slots ≤ R.slots))
    (kk : ∀ z', inI x → gG E nL p l e R s m args below meth c Q (pc + 3) L ((0, x) :: rest) Sh V z' (k + rm.cells) (n + rm.slots)) : gG E nL p l e R s m args below meth c Q pc L st0 Sh V z k n :=
  g_callS hC st0 hd hl hY hM hst hna hW hR (fun r0 Sh' V' z' h => by obtain ⟨h1, rfl, rfl, h2⟩ := h; cases h1; exact kk z' h2) (fun X Sh' V' z' h => gRi_no h)
theorem g_cS1im (hC : gC E own cc nL p l s m args meth c) {y : MethodName} {bytes : ByteArray} {x : Int} {maxL na idx : Nat} {ret : Option FieldType} {as rest : List aV} {st0 : List aV} {V0 : gV} (hd : decode cc pc = .ok (.invokestatic idx, 3)) (hl : Cond.methodLink own idx y ∈ gws) (hY : gYS y bytes maxL ret na)
    (hM : gM E l y (Cond.code y bytes maxL ret) rm (as) Sh V z (gRi x Sh V0)) (hst : st0 = as.reverse ++ rest) (hna : as.length = na) (hW : catS rest ≤ 8) (hR : (rm.frames + 1 ≤ R.frames ∧ 8 + (maxL + 11) + rm.locals ≤ R.locals) ∧ (k + rm.cells ≤ R.cells ∧ n + rm.slots ≤ R.slots))
    (kk : ∀ z' V1, V1 = V0 → inI x → gG E nL p l e R s m args below meth c Q (pc + 3) L ((0, x) :: rest) Sh V1 z' (k + rm.cells) (n + rm.slots)) : gG E nL p l e R s m args below meth c Q pc L st0 Sh V z k n :=
  g_callS hC st0 hd hl hY hM hst hna hW hR (fun r0 Sh' V' z' h => by obtain ⟨h1, rfl, rfl, h2⟩ := h; cases h1; exact kk z' _ rfl h2) (fun X Sh' V' z' h => gRi_no h)
theorem g_cS1l (hC : gC E own cc nL p l s m args meth c) {y : MethodName} {bytes : ByteArray} {x : Int} {maxL na idx : Nat} {ret : Option FieldType} {as rest : List aV} {st0 : List aV} (hd : decode cc pc = .ok (.invokestatic idx, 3)) (hl : Cond.methodLink own idx y ∈ gws) (hY : gYS y bytes maxL ret na)
    (hM : gM E l y (Cond.code y bytes maxL ret) rm (as) Sh V z (gRl x Sh V)) (hst : st0 = as.reverse ++ rest) (hna : as.length = na) (hW : catS rest ≤ 8) (hR : (rm.frames + 1 ≤ R.frames ∧ 8 + (maxL + 11) + rm.locals ≤ R.locals) ∧ (k + rm.cells ≤ R.cells ∧ n + rm.slots ≤ R.slots))
    (kk : ∀ z', inL x → gG E nL p l e R s m args below meth c Q (pc + 3) L ((1, x) :: rest) Sh V z' (k + rm.cells) (n + rm.slots)) : gG E nL p l e R s m args below meth c Q pc L st0 Sh V z k n :=
  g_callS hC st0 hd hl hY hM hst hna hW hR (fun r0 Sh' V' z' h => by obtain ⟨h1, rfl, rfl, h2⟩ := h; cases h1; exact kk z' h2) (fun X Sh' V' z' h => gRl_no h)
theorem g_cS1lm (hC : gC E own cc nL p l s m args meth c) {y : MethodName} {bytes : ByteArray} {x : Int} {maxL na idx : Nat} {ret : Option FieldType} {as rest : List aV} {st0 : List aV} {V0 : gV} (hd : decode cc pc = .ok (.invokestatic idx, 3)) (hl : Cond.methodLink own idx y ∈ gws) (hY : gYS y bytes maxL ret na)
    (hM : gM E l y (Cond.code y bytes maxL ret) rm (as) Sh V z (gRl x Sh V0)) (hst : st0 = as.reverse ++ rest) (hna : as.length = na) (hW : catS rest ≤ 8) (hR : (rm.frames + 1 ≤ R.frames ∧ 8 + (maxL + 11) + rm.locals ≤ R.locals) ∧ (k + rm.cells ≤ R.cells ∧ n + rm.slots ≤ R.slots))
    (kk : ∀ z' V1, V1 = V0 → inL x → gG E nL p l e R s m args below meth c Q (pc + 3) L ((1, x) :: rest) Sh V1 z' (k + rm.cells) (n + rm.slots)) : gG E nL p l e R s m args below meth c Q pc L st0 Sh V z k n :=
  g_callS hC st0 hd hl hY hM hst hna hW hR (fun r0 Sh' V' z' h => by obtain ⟨h1, rfl, rfl, h2⟩ := h; cases h1; exact kk z' _ rfl h2) (fun X Sh' V' z' h => gRl_no h)
theorem g_cSN1i (hC : gC E own cc nL p l s m args meth c) {y : MethodName} {bytes : ByteArray} {x : Int} {host : String} {maxL na idx : Nat} {ret : Option FieldType} {as rest : List aV} {st0 : List aV} (hd : decode cc pc = .ok (.invokestatic idx, 3)) (hl : (own, idx, y, host) ∈ gnest) (hY : gYS y bytes maxL ret na)
    (hM : gM E l y (Cond.code y bytes maxL ret) rm (as) Sh V z (gRi x Sh V)) (hst : st0 = as.reverse ++ rest) (hna : as.length = na) (hW : catS rest ≤ 8) (hR : (rm.frames + 1 ≤ R.frames ∧ 8 + (maxL + 11) + rm.locals ≤ R.locals) ∧ (k + rm.cells ≤ R.cells ∧ n + rm.slots ≤ R.slots))
    (kk : ∀ z', inI x → gG E nL p l e R s m args below meth c Q (pc + 3) L ((0, x) :: rest) Sh V z' (k + rm.cells) (n + rm.slots)) : gG E nL p l e R s m args below meth c Q pc L st0 Sh V z k n :=
  g_callSN hC st0 hd hl hY hM hst hna hW hR (fun r0 Sh' V' z' h => by obtain ⟨h1, rfl, rfl, h2⟩ := h; cases h1; exact kk z' h2) (fun X Sh' V' z' h => gRi_no h)
theorem g_cSN1im (hC : gC E own cc nL p l s m args meth c) {y : MethodName} {bytes : ByteArray} {x : Int} {host : String} {maxL na idx : Nat} {ret : Option FieldType} {as rest : List aV} {st0 : List aV} {V0 : gV} (hd : decode cc pc = .ok (.invokestatic idx, 3)) (hl : (own, idx, y, host) ∈ gnest) (hY : gYS y bytes maxL ret na)
    (hM : gM E l y (Cond.code y bytes maxL ret) rm (as) Sh V z (gRi x Sh V0)) (hst : st0 = as.reverse ++ rest) (hna : as.length = na) (hW : catS rest ≤ 8) (hR : (rm.frames + 1 ≤ R.frames ∧ 8 + (maxL + 11) + rm.locals ≤ R.locals) ∧ (k + rm.cells ≤ R.cells ∧ n + rm.slots ≤ R.slots))
    (kk : ∀ z' V1, V1 = V0 → inI x → gG E nL p l e R s m args below meth c Q (pc + 3) L ((0, x) :: rest) Sh V1 z' (k + rm.cells) (n + rm.slots)) : gG E nL p l e R s m args below meth c Q pc L st0 Sh V z k n :=
  g_callSN hC st0 hd hl hY hM hst hna hW hR (fun r0 Sh' V' z' h => by obtain ⟨h1, rfl, rfl, h2⟩ := h; cases h1; exact kk z' _ rfl h2) (fun X Sh' V' z' h => gRi_no h)
theorem g_cSN1l (hC : gC E own cc nL p l s m args meth c) {y : MethodName} {bytes : ByteArray} {x : Int} {host : String} {maxL na idx : Nat} {ret : Option FieldType} {as rest : List aV} {st0 : List aV} (hd : decode cc pc = .ok (.invokestatic idx, 3)) (hl : (own, idx, y, host) ∈ gnest) (hY : gYS y bytes maxL ret na)
    (hM : gM E l y (Cond.code y bytes maxL ret) rm (as) Sh V z (gRl x Sh V)) (hst : st0 = as.reverse ++ rest) (hna : as.length = na) (hW : catS rest ≤ 8) (hR : (rm.frames + 1 ≤ R.frames ∧ 8 + (maxL + 11) + rm.locals ≤ R.locals) ∧ (k + rm.cells ≤ R.cells ∧ n + rm.slots ≤ R.slots))
    (kk : ∀ z', inL x → gG E nL p l e R s m args below meth c Q (pc + 3) L ((1, x) :: rest) Sh V z' (k + rm.cells) (n + rm.slots)) : gG E nL p l e R s m args below meth c Q pc L st0 Sh V z k n :=
  g_callSN hC st0 hd hl hY hM hst hna hW hR (fun r0 Sh' V' z' h => by obtain ⟨h1, rfl, rfl, h2⟩ := h; cases h1; exact kk z' h2) (fun X Sh' V' z' h => gRl_no h)
theorem g_cSN1lm (hC : gC E own cc nL p l s m args meth c) {y : MethodName} {bytes : ByteArray} {x : Int} {host : String} {maxL na idx : Nat} {ret : Option FieldType} {as rest : List aV} {st0 : List aV} {V0 : gV} (hd : decode cc pc = .ok (.invokestatic idx, 3)) (hl : (own, idx, y, host) ∈ gnest) (hY : gYS y bytes maxL ret na)
    (hM : gM E l y (Cond.code y bytes maxL ret) rm (as) Sh V z (gRl x Sh V0)) (hst : st0 = as.reverse ++ rest) (hna : as.length = na) (hW : catS rest ≤ 8) (hR : (rm.frames + 1 ≤ R.frames ∧ 8 + (maxL + 11) + rm.locals ≤ R.locals) ∧ (k + rm.cells ≤ R.cells ∧ n + rm.slots ≤ R.slots))
    (kk : ∀ z' V1, V1 = V0 → inL x → gG E nL p l e R s m args below meth c Q (pc + 3) L ((1, x) :: rest) Sh V1 z' (k + rm.cells) (n + rm.slots)) : gG E nL p l e R s m args below meth c Q pc L st0 Sh V z k n :=
  g_callSN hC st0 hd hl hY hM hst hna hW hR (fun r0 Sh' V' z' h => by obtain ⟨h1, rfl, rfl, h2⟩ := h; cases h1; exact kk z' _ rfl h2) (fun X Sh' V' z' h => gRl_no h)
theorem gMmax_s : Cond.static Lib.Math.max.name ∈ gws := gm 816 (by decide +kernel) rfl
theorem gMmax_i : Cond.initialized "java/lang/Math" ∈ gws := gm 62 (by decide +kernel) rfl
theorem gMmax_c : Cond.code Lib.Math.max.name Lib.Math.max.code 2 (some .int) ∈ gws := gm 817 (by decide +kernel) rfl
theorem g_max (hC : gC E own cc nL p l s m args meth c) {x y : Int} {idx : Nat} (hd : decode cc pc = .ok (.invokestatic idx, 3)) (hl : Cond.methodLink own idx Lib.Math.max.name ∈ gws) (hx : inI x) (hy : inI y) (hR : 1 ≤ R.frames ∧ catS r + 13 ≤ R.locals ∧ k ≤ R.cells ∧ n ≤ R.slots)
    (kk : gG E nL p l e R s m args below meth c Q (pc + 3) L ((0, max x y) :: r) Sh V z k n) : gG E nL p l e R s m args below meth c Q pc L ((0, y) :: (0, x) :: r) Sh V z k n := by
  obtain ⟨gx, hb, hml, hown, hts, -⟩ := hC
  intro H locs ls h1 h2 h3 h4 h5
  refine va_mmax gx hb (by rw [hml]; exact h5.1.symm) hown (hts _ hl) (hts _ gMmax_s) (hts _ gMmax_i) (hts _ gMmax_c) hR.1 (by rw [catS_ok]; exact hR.2.1) hR.2.2.1 hR.2.2.2 hd ?_
  have ka := kk H locs ls h1 h2 h3 h4 h5
  have e9 : (if Int32.ofInt x < Int32.ofInt y then Int32.ofInt y else Int32.ofInt x) = Int32.ofInt (max x y) := by
    have e8 := iI_lt hx hy
    split
    · rename_i q
      have := e8.mp q
      rw [show max x y = y by omega]
    · rename_i q
      have h9 : ¬ (x < y) := fun g => q (e8.mpr g)
      rw [show max x y = x by omega]
  rw [e9]
  exact ka
theorem gMmin_s : Cond.static Lib.Math.min.name ∈ gws := gm 672 (by decide +kernel) rfl
theorem gMmin_i : Cond.initialized "java/lang/Math" ∈ gws := gm 62 (by decide +kernel) rfl
theorem gMmin_c : Cond.code Lib.Math.min.name Lib.Math.min.code 2 (some .int) ∈ gws := gm 673 (by decide +kernel) rfl
theorem g_min (hC : gC E own cc nL p l s m args meth c) {x y : Int} {idx : Nat} (hd : decode cc pc = .ok (.invokestatic idx, 3)) (hl : Cond.methodLink own idx Lib.Math.min.name ∈ gws) (hx : inI x) (hy : inI y) (hR : 1 ≤ R.frames ∧ catS r + 13 ≤ R.locals ∧ k ≤ R.cells ∧ n ≤ R.slots)
    (kk : gG E nL p l e R s m args below meth c Q (pc + 3) L ((0, min x y) :: r) Sh V z k n) : gG E nL p l e R s m args below meth c Q pc L ((0, y) :: (0, x) :: r) Sh V z k n := by
  obtain ⟨gx, hb, hml, hown, hts, -⟩ := hC
  intro H locs ls h1 h2 h3 h4 h5
  refine va_mmin gx hb (by rw [hml]; exact h5.1.symm) hown (hts _ hl) (hts _ gMmin_s) (hts _ gMmin_i) (hts _ gMmin_c) hR.1 (by rw [catS_ok]; exact hR.2.1) hR.2.2.1 hR.2.2.2 hd ?_
  have ka := kk H locs ls h1 h2 h3 h4 h5
  have e9 : (if Int32.ofInt y < Int32.ofInt x then Int32.ofInt y else Int32.ofInt x) = Int32.ofInt (min x y) := by
    have e8 := iI_lt hy hx
    split
    · rename_i q
      have := e8.mp q
      rw [show min x y = y by omega]
    · rename_i q
      have h9 : ¬ (y < x) := fun g => q (e8.mpr g)
      rw [show min x y = x by omega]
  rw [e9]
  exact ka
theorem gMmaxL_s : Cond.static Lib.MathLoose.max_long.x ∈ gws := gm 1162 (by decide +kernel) rfl
theorem gMmaxL_i : Cond.initialized "java/lang/Math" ∈ gws := gm 62 (by decide +kernel) rfl
theorem gMmaxL_c : Cond.code Lib.MathLoose.max_long.x Lib.MathLoose.max_long.code 4 (some .long) ∈ gws := gm 1163 (by decide +kernel) rfl
theorem g_maxL (hC : gC E own cc nL p l s m args meth c) {x y : Int} {idx : Nat} (hd : decode cc pc = .ok (.invokestatic idx, 3)) (hl : Cond.methodLink own idx Lib.MathLoose.max_long.x ∈ gws) (hx : inL x) (hy : inL y) (hR : 1 ≤ R.frames ∧ catS r + 15 ≤ R.locals ∧ k ≤ R.cells ∧ n ≤ R.slots)
    (kk : gG E nL p l e R s m args below meth c Q (pc + 3) L ((1, max x y) :: r) Sh V z k n) : gG E nL p l e R s m args below meth c Q pc L ((1, y) :: (1, x) :: r) Sh V z k n := by
  obtain ⟨gx, hb, hml, hown, hts, -⟩ := hC
  intro H locs ls h1 h2 h3 h4 h5
  refine va_mmax_long gx hb (by rw [hml]; exact h5.1.symm) hown (hts _ hl) (hts _ gMmaxL_s) (hts _ gMmaxL_i) (hts _ gMmaxL_c) hR.1 (by rw [catS_ok]; exact hR.2.1) hR.2.2.1 hR.2.2.2 hd ?_
  have ka := kk H locs ls h1 h2 h3 h4 h5
  have e9 : (if Int64.ofInt y < Int64.ofInt x then Int64.ofInt x else Int64.ofInt y) = Int64.ofInt (max x y) := by
    have e8 := iL_lt hy hx
    split
    · rename_i q
      have := e8.mp q
      rw [show max x y = x by omega]
    · rename_i q
      have h9 : ¬ (y < x) := fun g => q (e8.mpr g)
      rw [show max x y = y by omega]
  rw [e9]
  exact ka
/-- reading where the number has a name -/
theorem g_iald (hC : gC E own cc nL p l s m args meth c) {N : Nat} {a i x : Int} (hd : decode cc pc = .ok (.iaload, 1)) (hsh : Sh a = some (100, N)) (hv : V a i = x) (h0 : 0 ≤ i) (hn : i < N) (hN : (N : Int) ≤ 2147483647)
    (kk : inI x → gG E nL p l e R s m args below meth c Q (pc + 1) L ((0, x) :: r) Sh V z k n) : gG E nL p l e R s m args below meth c Q pc L ((0, i) :: (2, a) :: r) Sh V z k n := by
  subst hv
  exact g_iaload hC hd hsh h0 hn hN kk
theorem g_lald (hC : gC E own cc nL p l s m args meth c) {N : Nat} {a i x : Int} (hd : decode cc pc = .ok (.laload, 1)) (hsh : Sh a = some (101, N)) (hv : V a i = x) (h0 : 0 ≤ i) (hn : i < N) (hN : (N : Int) ≤ 2147483647)
    (kk : inL x → gG E nL p l e R s m args below meth c Q (pc + 1) L ((1, x) :: r) Sh V z k n) : gG E nL p l e R s m args below meth c Q pc L ((0, i) :: (2, a) :: r) Sh V z k n := by
  subst hv
  exact g_laload hC hd hsh h0 hn hN kk
/-- a loop: I holds at its head, μ falls -/
theorem g_loop {α : Type} (I : α → Prop) (μ : α → Nat) (hp : Nat) (Lf : α → List aV) (Vf : α → gV) (x0 : α) (h0 : I x0)
    (body : ∀ x z', I x → (∀ y z'', I y → μ y < μ x → gG E nL p l e R s m args below meth c Q hp (Lf y) [] Sh (Vf y) z'' k n) → gG E nL p l e R s m args below meth c Q hp (Lf x) [] Sh (Vf x) z' k n) : gG E nL p l e R s m args below meth c Q hp (Lf x0) [] Sh (Vf x0) z k n := by
  have key : ∀ (N : Nat) (x : α) (z' : Int), I x → μ x = N → gG E nL p l e R s m args below meth c Q hp (Lf x) [] Sh (Vf x) z' k n := by
    intro N
    induction N using Nat.strongRecOn with
    | _ N ih =>
      intro x z' hI hN
      exact body x z' hI (fun y z'' hy hlt => ih (μ y) (by omega) y z'' hy rfl)
  exact key _ x0 z h0 rfl
end GW
