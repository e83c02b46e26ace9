/-! contracts: what a call answers and does to the world -/
abbrev gO : Type := Option aV ⊕ String
abbrev gPo : Type := gO → gSh → gV → Int → Prop
def gX (E : gE) (as : List aV) (Sh : gSh) (V : gV) (z : Int) : Array Value → State → Prop := va_Pc (as.map cv) (fun U => gH E Sh V U.heap ∧ (U.heap.size : Int) = z ∧ E.1 ≤ U.heap.size ∧ gK E U ∧ gN U ∧ gS E U U.heap)
def gQ (E : gE) (P : gPo) : Array Value → State → Outcome → State → Prop := fun _ st o t => ∃ (r : Option aV) (Sh : gSh) (V : gV), o = .returned (r.map cv) ∧ P (.inl r) Sh V t.heap.size ∧ gH E Sh V t.heap ∧ va_F (gA E) st t
def gXC (E : gE) (P : gPo) : String → State → State → Prop := fun X st t => ∃ (Sh : gSh) (V : gV), P (.inr X) Sh V t.heap.size ∧ gH E Sh V t.heap ∧ va_F (gA E) st t
def gM (E : gE) (l : Launch) (y : MethodName) (cw : Cond) (rm : Room) (as : List aV) (Sh : gSh) (V : gV) (z : Int) (P : gPo) : Prop := l.stackTraces = false → vx_Met l y (cw :: gws) rm (gX E as Sh V z) (gQ E P) (gXC E P) rm.cells rm.slots (gA E)
abbrev gMQ (E : gE) (P : gPo) (rm : Room) (below : List Frame) (args : Array Value) (s : State) : State → Prop := vx_MQ below (gQ E P) (gXC E P) args s rm.cells rm.slots (gA E)
/-- a call that answers r, leaves the shapes, makes V of the numbers -/
def gR (r : Option aV) (Sh : gSh) (V : gV) : gPo := fun o Sh' V' _ => o = .inl r ∧ Sh' = Sh ∧ V' = V
theorem gX_blind (E : gE) (as : List aV) (Sh : gSh) (V : gV) (z : Int) : FrameBlind (gX E as Sh V z) := by
  intro a U g mk h
  obtain ⟨h1, h2, h3, h4, h5, h6, h7⟩ := h
  have hA : U.vm.Alike (U.calling g mk a).vm := Vm.Alike.refl U.vm
  have hN : gN (U.calling g mk a) := by
    obtain ⟨n1, n2, n3, n4, n5, ⟨a6, n6⟩, ⟨a7, n7⟩, ⟨a8, n8⟩⟩ := h6
    exact ⟨fun q hq => va_Nw.same rfl (show U.vm = (U.calling g mk a).vm from rfl) (n1 q hq), fun q hq => va_Nw.same rfl (show U.vm = (U.calling g mk a).vm from rfl) (n2 q hq), fun q hq => va_Nw.same rfl (show U.vm = (U.calling g mk a).vm from rfl) (n3 q hq), fun q hq => va_AO.moved hA (n4 q hq), n5, ⟨a6, vk_R.same (show (U.calling g mk a).vm = U.vm from rfl) n6⟩, ⟨a7, vk_R.same (show (U.calling g mk a).vm = U.vm from rfl) n7⟩, ⟨a8, vk_R.same (show (U.calling g mk a).vm = U.vm from rfl) n8⟩⟩
  exact ⟨h1, h2, h3, h4, va_K.moved (u := U) (U := U.calling g mk a) hA h5, hN, gS_to (s := U) (U := U.calling g mk a) hA (fun _ _ _ => rfl) h7⟩
def entA : List aV → List aV
  | [] => []
  | v :: r => if v.1 = 1 ∨ 4 ≤ v.1 then v :: (9, 0) :: entA r else v :: entA r
def entL (as : List aV) (nL : Nat) : List aV := entA as ++ List.replicate (nL - (entA as).length) (9, 0)
theorem lvl_rep (k : Nat) : ∀ j, lvl j (List.replicate k (9, 0)) = [] := by
  induction k with
  | zero => intro j; rfl
  | succ k ih => intro j; rw [List.replicate_succ]; unfold lvl; rw [if_pos rfl]; exact ih _
theorem lvl_app : ∀ (A B : List aV) (j : Nat), lvl j (A ++ B) = lvl j A ++ lvl (j + A.length) B := by
  intro A
  induction A with
  | nil => intro B j; rfl
  | cons v r ih =>
    intro B j
    rw [List.cons_append, List.length_cons]
    show (if v.1 = 9 then lvl (j + 1) (r ++ B) else (j, cv v) :: lvl (j + 1) (r ++ B)) = (if v.1 = 9 then lvl (j + 1) r else (j, cv v) :: lvl (j + 1) r) ++ lvl (j + (r.length + 1)) B
    rw [ih, show j + 1 + r.length = j + (r.length + 1) by omega]
    split
    · rfl
    · rfl
theorem ent_args : ∀ (as : List aV) (j : Nat), ∀ q ∈ lvl j (entA as), q ∈ lv_args j (as.map cv) := by
  intro as
  induction as with
  | nil => intro j q h; exact h
  | cons v r ih =>
    intro j q h
    rw [List.map_cons]
    unfold lv_args
    rw [cv_cat]
    unfold entA at h
    split at h
    · rename_i hv
      rw [if_pos hv, if_pos rfl]
      unfold lvl at h
      split at h
      · unfold lvl at h
        rw [if_pos rfl] at h
        exact List.mem_cons_of_mem _ (ih _ q h)
      · rcases List.mem_cons.mp h with h | h
        · rw [h]; exact List.mem_cons_self
        · unfold lvl at h
          rw [if_pos rfl] at h
          exact List.mem_cons_of_mem _ (ih _ q h)
    · rename_i hv
      rw [if_neg hv, if_neg (by decide)]
      unfold lvl at h
      split at h
      · exact List.mem_cons_of_mem _ (ih _ q h)
      · rcases List.mem_cons.mp h with h | h
        · rw [h]; exact List.mem_cons_self
        · exact List.mem_cons_of_mem _ (ih _ q h)
theorem ent_len : ∀ (as : List aV), (lg_sl (as.map cv)).length = (entA as).length := by
  intro as
  induction as with
  | nil => rfl
  | cons v r ih =>
    rw [List.map_cons]
    unfold entA
    show ((cv v :: r.map cv).flatMap _).length = _
    rw [List.flatMap_cons, List.length_append]
    have ih' : (List.flatMap (fun v : Value => if v.category = 2 then [Slot.val v, Slot.second] else [Slot.val v]) (r.map cv)).length = (entA r).length := ih
    rw [ih', cv_cat]
    split
    · rename_i hv
      rw [if_pos rfl]; simp; omega
    · rename_i hv
      rw [if_neg (by decide)]; simp; omega
theorem gM_of {E : gE} {l : Launch} {y : MethodName} {cc : ByteArray} {maxL : Nat} {ret : Option FieldType} {rm : Room} {as : List aV} {Sh : gSh} {V : gV} {z : Int} {P : gPo} (hy : plainName y.cls = true) (hA : (entA as).length ≤ maxL)
    (body : ∀ p e s m args below meth c, gC E y.cls cc maxL p l s m args meth c → meth.sig.returnType = ret → (∀ x ∈ c.exceptionTable.toList, False) → meth.name = y.name → (E.1 : Int) ≤ z →
      gG E maxL p l e rm s m args below meth c (gMQ E P rm below args s) 0 (entL as maxL) [] Sh V z 0 0) : gM E l y (Cond.code y cc maxL ret) rm as Sh V z P := by
  intro hl
  refine vx_ofW (cc := cc) (maxL := maxL) (ret := ret) hy rfl ?_
  intro p e s m args below meth c s₁ B hml hex hv
  obtain ⟨rfl, h1, h2, h3, h4, h5, h6⟩ := hv
  have hts := atoms_spec (ws := Cond.code y cc maxL ret :: gws) B.pre
  have hC : gC E y.cls cc maxL p l s m (as.map cv).toArray meth c := ⟨B.exec, B.bytes, hml, findClass_of_methodNamed B.named, fun w hw => hts w (List.mem_cons_of_mem _ hw), B.notSynchronized, h4, h5, h6, h3, hl⟩
  have key := body p e s m _ below meth c hC B.returns hex (name_of_methodNamed B.named B.method).1 (by omega)
  rw [lg_entry_eq]
  have hle : (lg_sl (as.map cv)).length ≤ maxL := by rw [ent_len]; exact hA
  refine key s.heap [] _ h1 h2 va_S.rf ?_ (lv_mono (lv_entry (as.map cv) (n := maxL) hle) ?_)
  · unfold entL; rw [List.length_append, List.length_replicate]; omega
  · intro q hq
    unfold entL at hq
    rw [lvl_app, lvl_rep, List.append_nil] at hq
    exact ent_args as 0 q hq
section GK
variable {E : gE} {own : String} {cc : ByteArray} {nL : Nat} {p : Program} {l : Launch} {e : Env} {R : Room} {s : State} {m : MethodId} {args : Array Value} {below : List Frame} {meth : Method} {c : Code} {Q : State → Prop} {pc : Nat} {L st r : List aV} {Sh : gSh} {V : gV} {z : Int} {k n : Nat}
variable {P : gPo} {rm : Room}
theorem g_end {H : Heap} {locs : List Loc} {Sh' : gSh} {V' : gV} {ov : Option aV} (h1 : gH E Sh V H) (h2 : (H.size : Int) = z) (h3 : va_S (gA E) s.heap H locs) (hP : P (.inl ov) Sh' V' z) (hs : ∀ a sh, Sh' a = some sh → Sh a = some sh ∧ ∀ j, V a j = V' a j) (t : State) (ht : t.heap = H) : gQ E P args s (.returned (ov.map cv)) t := by
  subst ht
  exact ⟨ov, Sh', V', rfl, by rw [h2]; exact hP, gH_sub h1 hs, h3.F rfl⟩
theorem g_ireturn (hC : gC E own cc nL p l s m args meth c) {x : Int} {Sh' : gSh} {V' : gV} (hd : decode cc pc = .ok (.ireturn, 1)) (hr : meth.sig.returnType = some .int) (hP : P (.inl (some (0, x))) Sh' V' z) (hs : ∀ a sh, Sh' a = some sh → Sh a = some sh ∧ ∀ j, V a j = V' a j) (hk : k ≤ rm.cells ∧ n ≤ rm.slots) : gG E nL p l e R s m args below meth c (gMQ E P rm below args s) pc L [(0, x)] Sh V z k n := by
  intro H locs ls h1 h2 h3 h4 h5
  refine vx_ret (W.widen hk.1 hk.2 ?_)
  exact W.iret (v := Int32.ofInt x) hC.1 hC.2.1 hr (fun t ht _ => g_end h1 h2 h3 hP hs t ht) h3.2.2 hd (hlocks := hC.2.2.2.2.2.1)
theorem g_zreturn (hC : gC E own cc nL p l s m args meth c) {x : Int} {Sh' : gSh} {V' : gV} (hd : decode cc pc = .ok (.ireturn, 1)) (hr : meth.sig.returnType = some .boolean) (h01 : x = 0 ∨ x = 1) (hP : P (.inl (some (0, x))) Sh' V' z) (hs : ∀ a sh, Sh' a = some sh → Sh a = some sh ∧ ∀ j, V a j = V' a j) (hk : k ≤ rm.cells ∧ n ≤ rm.slots) : gG E nL p l e R s m args below meth c (gMQ E P rm below args s) pc L [(0, x)] Sh V z k n := by
  intro H locs ls h1 h2 h3 h4 h5
  refine vx_ret (W.widen hk.1 hk.2 ?_)
  exact W.zret (v := Int32.ofInt x) hC.1 hC.2.1 hr (by rcases h01 with rfl | rfl <;> rfl) (fun t ht _ => g_end h1 h2 h3 hP hs t ht) h3.2.2 hd (hlocks := hC.2.2.2.2.2.1)
theorem g_lreturn (hC : gC E own cc nL p l s m args meth c) {x : Int} {Sh' : gSh} {V' : gV} (hd : decode cc pc = .ok (.lreturn, 1)) (hr : meth.sig.returnType = some .long) (hP : P (.inl (some (1, x))) Sh' V' z) (hs : ∀ a sh, Sh' a = some sh → Sh a = some sh ∧ ∀ j, V a j = V' a j) (hk : k ≤ rm.cells ∧ n ≤ rm.slots) : gG E nL p l e R s m args below meth c (gMQ E P rm below args s) pc L [(1, x)] Sh V z k n := by
  intro H locs ls h1 h2 h3 h4 h5
  refine vx_ret (W.widen hk.1 hk.2 ?_)
  exact W.lret (v := Int64.ofInt x) hC.1 hC.2.1 hr (fun t ht _ => g_end h1 h2 h3 hP hs t ht) h3.2.2 hd (hlocks := hC.2.2.2.2.2.1)
theorem g_areturn (hC : gC E own cc nL p l s m args meth c) {x : Int} {rt : FieldType} {Sh' : gSh} {V' : gV} (hd : decode cc pc = .ok (.areturn, 1)) (hr : meth.sig.returnType = some rt) (hrt : (∃ n, rt = .object n) ∨ ∃ t, rt = .array t) (hP : P (.inl (some (2, x))) Sh' V' z) (hs : ∀ a sh, Sh' a = some sh → Sh a = some sh ∧ ∀ j, V a j = V' a j) (hk : k ≤ rm.cells ∧ n ≤ rm.slots) : gG E nL p l e R s m args below meth c (gMQ E P rm below args s) pc L [(2, x)] Sh V z k n := by
  intro H locs ls h1 h2 h3 h4 h5
  refine vx_ret (W.widen hk.1 hk.2 ?_)
  refine W.aret (v := cv (2, x)) hC.1 hC.2.1 hr hrt ?_ (fun t ht _ => g_end h1 h2 h3 hP hs t ht) h3.2.2 hd (hlocks := hC.2.2.2.2.2.1)
  by_cases hn : x < 0
  · exact Or.inl (cv_null hn)
  · exact Or.inr ⟨_, cv_ref (by omega)⟩
theorem g_return (hC : gC E own cc nL p l s m args meth c) {Sh' : gSh} {V' : gV} (hd : decode cc pc = .ok (.return_, 1)) (hr : meth.sig.returnType = none) (hP : P (.inl none) Sh' V' z) (hs : ∀ a sh, Sh' a = some sh → Sh a = some sh ∧ ∀ j, V a j = V' a j) (hk : k ≤ rm.cells ∧ n ≤ rm.slots) : gG E nL p l e R s m args below meth c (gMQ E P rm below args s) pc L [] Sh V z k n := by
  intro H locs ls h1 h2 h3 h4 h5
  refine vx_ret (W.widen hk.1 hk.2 ?_)
  exact W.vret hC.1 hC.2.1 hr (fun t ht _ => g_end (ov := none) h1 h2 h3 hP hs t ht) h3.2.2 hd (hlocks := hC.2.2.2.2.2.1)
theorem gs_rfl : ∀ a sh, Sh a = some sh → Sh a = some sh ∧ ∀ j, V a j = V a j := fun _ _ h => ⟨h, fun _ => rfl⟩
/-- a frame over which an exception of class X flies -/
def gT (E : gE) (nL : Nat) (p : Program) (l : Launch) (e : Env) (R : Room) (s : State) (m : MethodId) (args : Array Value) (below : List Frame) (meth : Method) (c : Code) (Q : State → Prop) (X : String) (pc : Nat) (L st : List aV) (Sh : gSh) (V : gV) (z : Int) (k n : Nat) : Prop :=
  ∀ (H : Heap) (locs : List Loc) (ls : Array Slot) (q : Addr) (ce : Cell), gH E Sh V H → (H.size : Int) = z → va_S (gA E) s.heap H locs → L.length = nL → lv_has ls nL (lvl 0 L) → H[q]? = some ce → ce.vm = .none → s.vm.findClass X = some ce.cls → vx_W p l e R s m args below meth c H locs k n Q (F0 m pc ls (st.map cv)) q
/-- it leaves the method -/
theorem g_out (hC : gC E own cc nL p l s m args meth c) {X : String} {Sh' : gSh} {V' : gV} (hex : ∀ x ∈ c.exceptionTable.toList, False) (hP : P (.inr X) Sh' V' z) (hs : ∀ a sh, Sh' a = some sh → Sh a = some sh ∧ ∀ j, V a j = V' a j) (hk : k ≤ rm.cells ∧ n ≤ rm.slots) : gT E nL p l e R s m args below meth c (gMQ E P rm below args s) X pc L st Sh V z k n := by
  intro H locs ls q ce h1 h2 h3 h4 h5 h6 h7 h8
  refine vx_out (fun x hx => (hex x hx).elim) hC.2.2.2.2.2.1 h6 h7 h8 (fun t ht _ => ?_) h3.2.2 hk.1 hk.2
  subst ht
  exact ⟨Sh', V', by rw [h2]; exact hP, gH_sub h1 hs, h3.F rfl⟩
def catS : List aV → Nat
  | [] => 0
  | v :: r => (if v.1 = 1 ∨ 4 ≤ v.1 then 2 else 1) + catS r
theorem catS_ok : ∀ st : List aV, ((st.map cv).map fun v => v.category).sum = catS st := by
  intro st
  induction st with
  | nil => rfl
  | cons v r ih =>
    rw [List.map_cons, List.map_cons, List.sum_cons, ih, cv_cat]
    rfl
/-- behind a call: how the run goes on -/
theorem g_behind {mc ms : Nat} {rest : List aV} {a : Array Value} {st0 : List Value} {H : Heap} {locs : List Loc} {ls : Array Slot} (hr : vx_Run p l e R s m args below meth c H locs k n mc ms (F0 m pc ls st0) (rest.map cv) (gQ E P a) (gXC E P) (gA E))
    (h3 : va_S (gA E) s.heap H locs) (h4 : L.length = nL) (h5 : lv_has ls nL (lvl 0 L))
    (kk : ∀ (r : Option aV) (Sh' : gSh) (V' : gV) (z' : Int), P (.inl r) Sh' V' z' → gG E nL p l e R s m args below meth c Q (pc + 3) L (r.toList ++ rest) Sh' V' z' (k + mc) (n + ms))
    (kx : ∀ (X : String) (Sh' : gSh) (V' : gV) (z' : Int), P (.inr X) Sh' V' z' → gT E nL p l e R s m args below meth c Q X pc L rest Sh' V' z' (k + mc) (n + ms)) : W p l e R s m args below meth c H locs k n Q (F0 m pc ls st0) := by
  intro T hT X
  rcases hr T hT X with ⟨v, st₀, t, T', L1, h0, X', hL, e1, e2, ⟨r, Sh', V', hv, hp, hh, hF⟩, stp⟩ | ⟨q, st₀, t, T', L1, Ex, ce, h0, X', hL, e1, e2, ⟨Sh', V', hp, hh, hF⟩, hce, hcv, hcl, stp⟩
  · cases hv
    obtain ⟨k1, k2, k3⟩ := vx_keep h0 e1 h3 (fun _ _ h => h) (fun _ h => h) hL hF
    obtain ⟨t2, a1, b1⟩ := kk r Sh' V' _ hp T'.heap (locs ++ L1) ls (by rw [e1]; exact hh) (by rw [e1]) k3 h4 h5 T' rfl X'
    refine ⟨t2, stp t2 ?_, b1⟩
    have : (r.map cv).toList ++ rest.map cv = (r.toList ++ rest).map cv := by cases r <;> rfl
    rw [this]
    exact a1
  · obtain ⟨k1, k2, k3⟩ := vx_keep h0 e1 h3 (fun _ _ h => h) (fun _ h => h) hL hF
    obtain ⟨t2, a1, b1⟩ := kx Ex Sh' V' _ hp T'.heap (locs ++ L1) ls q ce (by rw [e1]; exact hh) (by rw [e1]) k3 h4 h5 (by rw [e1]; exact hce) hcv hcl T' rfl X'
    exact ⟨t2, stp.trans a1, b1⟩
theorem g_pre {as : List aV} (hC : gC E own cc nL p l s m args meth c) {H : Heap} {locs : List Loc} (h1 : gH E Sh V H) (h2 : (H.size : Int) = z) (h3 : va_S (gA E) s.heap H locs) (U : State) (hU : U.heap = H) (hW : s.WarmedH U.vm) : gX E as Sh V z (as.map cv).toArray U := by
  obtain ⟨-, -, -, -, -, -, hK, hN, hSS, hE, -⟩ := hC
  subst hU
  exact ⟨rfl, h1, h2, Nat.le_trans hE h3.1, va_K.moved hW.alike hK, gN_warm hW hN, gS_to hW.alike (fun a h h' => h3.2.1 a h h') hSS⟩
theorem gws_good : ∀ w ∈ gws, ((w.onTables && w.keeps) = true ∨ ∃ ty, w = .arrayClass ty) := fun _ hw => good_of_word (List.mem_filter.mp hw).2
/-- a callee: its words in the tables -/
def gYB (y : MethodName) (bytes : ByteArray) (maxL : Nat) (ret : Option FieldType) (na : Nat) : Prop :=
  Cond.initialized y.cls ∈ gws ∧ Cond.code y bytes maxL ret ∈ gws ∧ (y.cls ≠ "java/lang/invoke/MethodHandle" ∧ y.cls ≠ "java/lang/invoke/VarHandle") ∧ (parseMethodDescriptor y.desc).map (fun d => d.parameters.length) = some na
def gYV (y : MethodName) (bytes : ByteArray) (maxL : Nat) (ret : Option FieldType) (na ci : Nat) : Prop :=
  gYB y bytes maxL ret na ∧ Cond.instanceMethod y ∈ gws ∧ Cond.selects y.cls y y ∈ gws ∧ ∃ r : vw_C, vwCl[ci]? = some r ∧ r.1 = y.cls
def gYS (y : MethodName) (bytes : ByteArray) (maxL : Nat) (ret : Option FieldType) (na : Nat) : Prop := gYB y bytes maxL ret na ∧ Cond.static y ∈ gws
def gYI (y : MethodName) (bytes : ByteArray) (maxL : Nat) (na : Nat) : Prop := gYB y bytes maxL none na ∧ Cond.instanceMethod y ∈ gws ∧ y.name = "<init>"
theorem g_goodIn {y : MethodName} {bytes : ByteArray} {maxL : Nat} {ret : Option FieldType} {na : Nat} (hY : gYB y bytes maxL ret na) : GoodIn gws (Cond.code y bytes maxL ret :: gws) := by
  intro w hw
  rcases List.mem_cons.mp hw with rfl | hw
  · exact ⟨hY.2.1, gws_good _ hY.2.1⟩
  · exact ⟨hw, gws_good _ hw⟩
theorem g_callB (hC : gC E own cc nL p l s m args meth c) {y : MethodName} {bytes : ByteArray} {maxL na idx : Nat} {ret : Option FieldType} (hY : gYB y bytes maxL ret na) (hl : Cond.methodLink own idx y ∈ gws) (hR : rm.frames + 1 ≤ R.frames ∧ 8 + (maxL + 11) + rm.locals ≤ R.locals) :
    CallB R s args own idx y bytes maxL ret (Cond.code y bytes maxL ret :: gws) rm rm.cells rm.slots na := by
  obtain ⟨-, -, -, -, hts, -⟩ := hC
  exact callB_of na hts (g_goodIn hY) rfl rfl rfl (hts _ hY.1) (hts _ hl) ⟨hY.2.2.1.1, hY.2.2.1.2, hY.2.2.2⟩ hR
theorem g_callV (hC : gC E own cc nL p l s m args meth c) {y : MethodName} {bytes : ByteArray} {maxL na ci idx : Nat} {ret : Option FieldType} {a : Int} {as rest : List aV} (st0 : List aV) (hd : decode cc pc = .ok (.invokevirtual idx, 3)) (hl : Cond.methodLink own idx y ∈ gws) (hY : gYV y bytes maxL ret na ci)
    (hM : gM E l y (Cond.code y bytes maxL ret) rm ((2, a) :: as) Sh V z P) (hst : st0 = as.reverse ++ (2, a) :: rest) (hsh : Sh a = some (ci, 0)) (hci : ci < 100) (hna : as.length = na) (hW : catS rest ≤ 8) (hR : (rm.frames + 1 ≤ R.frames ∧ 8 + (maxL + 11) + rm.locals ≤ R.locals) ∧ (k + rm.cells ≤ R.cells ∧ n + rm.slots ≤ R.slots))
    (kk : ∀ (r : Option aV) (Sh' : gSh) (V' : gV) (z' : Int), P (.inl r) Sh' V' z' → gG E nL p l e R s m args below meth c Q (pc + 3) L (r.toList ++ rest) Sh' V' z' (k + rm.cells) (n + rm.slots))
    (kx : ∀ (X : String) (Sh' : gSh) (V' : gV) (z' : Int), P (.inr X) Sh' V' z' → gT E nL p l e R s m args below meth c Q X pc L rest Sh' V' z' (k + rm.cells) (n + rm.slots)) : gG E nL p l e R s m args below meth c Q pc L st0 Sh V z k n := by
  subst hst
  intro H locs ls h1 h2 h3 h4 h5
  obtain ⟨ha, hco⟩ := h1 a _ hsh
  unfold cOk at hco
  rw [if_pos hci] at hco
  obtain ⟨⟨r1, hr1, cell, q1, q2, q3, q4⟩, -⟩ := hco
  have ha0 : 0 ≤ a := by omega
  obtain ⟨hYB, hyi, hys, rc, hc, hrc⟩ := hY
  cases hr1.symm.trans hc
  have hfc := (hC.2.2.2.2.2.2.1.1 ci _ hc).2.1
  refine g_behind (vx_runV ⟨hC.1, hC.2.1, hC.2.2.1, hC.2.2.2.1, hC.2.2.2.2.1⟩ (hM hC.2.2.2.2.2.2.2.2.2.2) (C := y.cls) ⟨g_callB hC hYB hl hR.1, hC.2.2.2.2.1 _ hyi, hC.2.2.2.2.1 _ hys⟩ ⟨gX_blind _ _ _ _ _, ⟨cell, q1, by rw [q3]; rfl, by rw [← hrc, q2]; exact hfc⟩, fun U hU hWU => ?_⟩ rfl (As := as.map cv) (by rw [List.length_map]; exact hna) h5.1 ?_ ?_ hd hR.2) h3 h4 h5 kk kx
  · have := g_pre (as := (2, a) :: as) hC h1 h2 h3 U hU hWU
    rw [List.map_cons, cv_ref ha0] at this
    exact this
  · show _ = (as.map cv).reverse ++ _ :: rest.map cv
    rw [List.map_append, List.map_cons, cv_ref ha0, List.map_reverse]
  · show 2 * 0 + _ ≤ 8
    rw [catS_ok]; omega
theorem g_callS (hC : gC E own cc nL p l s m args meth c) {y : MethodName} {bytes : ByteArray} {maxL na idx : Nat} {ret : Option FieldType} {as rest : List aV} (st0 : List aV) (hd : decode cc pc = .ok (.invokestatic idx, 3)) (hl : Cond.methodLink own idx y ∈ gws) (hY : gYS y bytes maxL ret na)
    (hM : gM E l y (Cond.code y bytes maxL ret) rm as Sh V z P) (hst : st0 = as.reverse ++ rest) (hna : as.length = na) (hW : catS rest ≤ 8) (hR : (rm.frames + 1 ≤ R.frames ∧ 8 + (maxL + 11) + rm.locals ≤ R.locals) ∧ (k + rm.cells ≤ R.cells ∧ n + rm.slots ≤ R.slots))
    (kk : ∀ (r : Option aV) (Sh' : gSh) (V' : gV) (z' : Int), P (.inl r) Sh' V' z' → gG E nL p l e R s m args below meth c Q (pc + 3) L (r.toList ++ rest) Sh' V' z' (k + rm.cells) (n + rm.slots))
    (kx : ∀ (X : String) (Sh' : gSh) (V' : gV) (z' : Int), P (.inr X) Sh' V' z' → gT E nL p l e R s m args below meth c Q X pc L rest Sh' V' z' (k + rm.cells) (n + rm.slots)) : gG E nL p l e R s m args below meth c Q pc L st0 Sh V z k n := by
  subst hst
  intro H locs ls h1 h2 h3 h4 h5
  refine g_behind (vx_runS ⟨hC.1, hC.2.1, hC.2.2.1, hC.2.2.2.1, hC.2.2.2.2.1⟩ (hM hC.2.2.2.2.2.2.2.2.2.2) ⟨g_callB hC hY.1 hl hR.1, hC.2.2.2.2.1 _ hY.2⟩ ⟨gX_blind _ _ _ _ _, fun U hU hWU => g_pre (as := as) hC h1 h2 h3 U hU hWU⟩ rfl (As := as.map cv) (by rw [List.length_map]; exact hna) h5.1 ?_ ?_ hd hR.2) h3 h4 h5 kk kx
  · show _ = (as.map cv).reverse ++ rest.map cv
    rw [List.map_append, List.map_reverse]
  · show 2 * 0 + _ ≤ 8
    rw [catS_ok]; omega
theorem g_callI (hC : gC E own cc nL p l s m args meth c) {y : MethodName} {bytes : ByteArray} {maxL na idx : Nat} {a : Int} {as rest : List aV} (st0 : List aV) (hd : decode cc pc = .ok (.invokespecial idx, 3)) (hl : Cond.methodLink own idx y ∈ gws) (hY : gYI y bytes maxL na)
    (hM : gM E l y (Cond.code y bytes maxL none) rm ((2, a) :: as) Sh V z P) (hst : st0 = as.reverse ++ (2, a) :: rest) (ha0 : 0 ≤ a) (hna : as.length = na) (hW : catS rest ≤ 8) (hR : (rm.frames + 1 ≤ R.frames ∧ 8 + (maxL + 11) + rm.locals ≤ R.locals) ∧ (k + rm.cells ≤ R.cells ∧ n + rm.slots ≤ R.slots))
    (kk : ∀ (r : Option aV) (Sh' : gSh) (V' : gV) (z' : Int), P (.inl r) Sh' V' z' → gG E nL p l e R s m args below meth c Q (pc + 3) L (r.toList ++ rest) Sh' V' z' (k + rm.cells) (n + rm.slots))
    (kx : ∀ (X : String) (Sh' : gSh) (V' : gV) (z' : Int), P (.inr X) Sh' V' z' → gT E nL p l e R s m args below meth c Q X pc L rest Sh' V' z' (k + rm.cells) (n + rm.slots)) : gG E nL p l e R s m args below meth c Q pc L st0 Sh V z k n := by
  subst hst
  intro H locs ls h1 h2 h3 h4 h5
  obtain ⟨hYB, hyi, hyn⟩ := hY
  refine g_behind (vx_runI ⟨hC.1, hC.2.1, hC.2.2.1, hC.2.2.2.1, hC.2.2.2.2.1⟩ (hM hC.2.2.2.2.2.2.2.2.2.2) ⟨g_callB hC hYB hl hR.1, hyn, hC.2.2.2.2.1 _ hyi⟩ ⟨gX_blind _ _ _ _ _, fun U hU hWU => ?_⟩ rfl (b := a.toNat) (As := as.map cv) (by rw [List.length_map]; exact hna) h5.1 ?_ ?_ hd hR.2) h3 h4 h5 kk kx
  · have := g_pre (as := (2, a) :: as) hC h1 h2 h3 U hU hWU
    rw [List.map_cons, cv_ref ha0] at this
    exact this
  · show _ = (as.map cv).reverse ++ _ :: rest.map cv
    rw [List.map_append, List.map_cons, cv_ref ha0, List.map_reverse]
  · show 2 * 0 + _ ≤ 8
    rw [catS_ok]; omega
theorem g_callN (hC : gC E own cc nL p l s m args meth c) {y : MethodName} {host : String} {bytes : ByteArray} {maxL na idx : Nat} {ret : Option FieldType} (hY : gYB y bytes maxL ret na) (hl : (own, idx, y, host) ∈ gnest) (hR : rm.frames + 1 ≤ R.frames ∧ 8 + (maxL + 11) + rm.locals ≤ R.locals) :
    va_CN R s args own idx y host bytes maxL ret (Cond.code y bytes maxL ret :: gws) rm rm.cells rm.slots na := by
  obtain ⟨-, -, -, -, hts, -, -, hN, -⟩ := hC
  exact va_cnB na hts (g_goodIn hY) rfl rfl rfl (hN.1 _ hl) (hts _ hY.1) ⟨hY.2.2.1.1, hY.2.2.1.2, hY.2.2.2⟩ hR
theorem g_callSN (hC : gC E own cc nL p l s m args meth c) {y : MethodName} {host : String} {bytes : ByteArray} {maxL na idx : Nat} {ret : Option FieldType} {as rest : List aV} (st0 : List aV) (hd : decode cc pc = .ok (.invokestatic idx, 3)) (hl : (own, idx, y, host) ∈ gnest) (hY : gYS y bytes maxL ret na)
    (hM : gM E l y (Cond.code y bytes maxL ret) rm as Sh V z P) (hst : st0 = as.reverse ++ rest) (hna : as.length = na) (hW : catS rest ≤ 8) (hR : (rm.frames + 1 ≤ R.frames ∧ 8 + (maxL + 11) + rm.locals ≤ R.locals) ∧ (k + rm.cells ≤ R.cells ∧ n + rm.slots ≤ R.slots))
    (kk : ∀ (r : Option aV) (Sh' : gSh) (V' : gV) (z' : Int), P (.inl r) Sh' V' z' → gG E nL p l e R s m args below meth c Q (pc + 3) L (r.toList ++ rest) Sh' V' z' (k + rm.cells) (n + rm.slots))
    (kx : ∀ (X : String) (Sh' : gSh) (V' : gV) (z' : Int), P (.inr X) Sh' V' z' → gT E nL p l e R s m args below meth c Q X pc L rest Sh' V' z' (k + rm.cells) (n + rm.slots)) : gG E nL p l e R s m args below meth c Q pc L st0 Sh V z k n := by
  subst hst
  intro H locs ls h1 h2 h3 h4 h5
  refine g_behind (vx_runSN ⟨hC.1, hC.2.1, hC.2.2.1, hC.2.2.2.1, hC.2.2.2.2.1⟩ (hM hC.2.2.2.2.2.2.2.2.2.2) ⟨g_callN hC hY.1 hl hR.1, hC.2.2.2.2.1 _ hY.2, trivial⟩ ⟨gX_blind _ _ _ _ _, fun U hU hWU => g_pre (as := as) hC h1 h2 h3 U hU hWU⟩ rfl (As := as.map cv) (by rw [List.length_map]; exact hna) h5.1 ?_ ?_ hd hR.2) h3 h4 h5 kk kx
  · show _ = (as.map cv).reverse ++ rest.map cv
    rw [List.map_append, List.map_reverse]
  · show 2 * 0 + _ ≤ 8
    rw [catS_ok]; omega
theorem g_callIN (hC : gC E own cc nL p l s m args meth c) {y : MethodName} {host : String} {bytes : ByteArray} {maxL na idx : Nat} {a : Int} {as rest : List aV} (st0 : List aV) (hd : decode cc pc = .ok (.invokespecial idx, 3)) (hl : (own, idx, y, host) ∈ gnest) (hY : gYI y bytes maxL na)
    (hM : gM E l y (Cond.code y bytes maxL none) rm ((2, a) :: as) Sh V z P) (hst : st0 = as.reverse ++ (2, a) :: rest) (ha0 : 0 ≤ a) (hna : as.length = na) (hW : catS rest ≤ 8) (hR : (rm.frames + 1 ≤ R.frames ∧ 8 + (maxL + 11) + rm.locals ≤ R.locals) ∧ (k + rm.cells ≤ R.cells ∧ n + rm.slots ≤ R.slots))
    (kk : ∀ (r : Option aV) (Sh' : gSh) (V' : gV) (z' : Int), P (.inl r) Sh' V' z' → gG E nL p l e R s m args below meth c Q (pc + 3) L (r.toList ++ rest) Sh' V' z' (k + rm.cells) (n + rm.slots))
    (kx : ∀ (X : String) (Sh' : gSh) (V' : gV) (z' : Int), P (.inr X) Sh' V' z' → gT E nL p l e R s m args below meth c Q X pc L rest Sh' V' z' (k + rm.cells) (n + rm.slots)) : gG E nL p l e R s m args below meth c Q pc L st0 Sh V z k n := by
  subst hst
  intro H locs ls h1 h2 h3 h4 h5
  obtain ⟨hYB, hyi, hyn⟩ := hY
  refine g_behind (vx_runIN ⟨hC.1, hC.2.1, hC.2.2.1, hC.2.2.2.1, hC.2.2.2.2.1⟩ (hM hC.2.2.2.2.2.2.2.2.2.2) ⟨g_callN hC hYB hl hR.1, hyn, hC.2.2.2.2.1 _ hyi⟩ ⟨gX_blind _ _ _ _ _, fun U hU hWU => ?_⟩ rfl (b := a.toNat) (As := as.map cv) (by rw [List.length_map]; exact hna) h5.1 ?_ ?_ hd hR.2) h3 h4 h5 kk kx
  · have := g_pre (as := (2, a) :: as) hC h1 h2 h3 U hU hWU
    rw [List.map_cons, cv_ref ha0] at this
    exact this
  · show _ = (as.map cv).reverse ++ _ :: rest.map cv
    rw [List.map_append, List.map_cons, cv_ref ha0, List.map_reverse]
  · show 2 * 0 + _ ≤ 8
    rw [catS_ok]; omega
end GK
