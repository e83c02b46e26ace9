/-! straight code: one instruction, many -/
def ilen (i : Instr) : Nat := match i with
  | .iload _ => 2
  | .lload _ => 2
  | .aload _ => 2
  | .istore _ => 2
  | .lstore _ => 2
  | .astore _ => 2
  | .bipush _ => 2
  | .sipush _ => 3
  | .iinc _ _ => 3
  | .goto _ => 3
  | _ => 1
def nxt (i : Instr) (pc : Nat) : Nat := match i with
  | .goto off => ((pc : Int) + off).toNat
  | i => pc + ilen i
def okJ (i : Instr) (pc : Nat) : Bool := match i with
  | .goto off => decide ((pc : Int) + off = (((pc : Int) + off).toNat : Int))
  | _ => true
def decB (cc : ByteArray) : Nat → List Instr → Nat → Bool
  | pc, [], e => decide (pc = e)
  | pc, i :: is, e => decide (decode cc pc = .ok (i, ilen i)) && (okJ i pc && decB cc (nxt i pc) is e)
def ex1 (i : Instr) (L st : List aV) (k : List aV → List aV → kO) : kO := match i with
  | .iconst n => k L ((0, n) :: st)
  | .bipush n => if -128 ≤ n ∧ n ≤ 127 then k L ((0, n) :: st) else none
  | .sipush n => if -32768 ≤ n ∧ n ≤ 32767 then k L ((0, n) :: st) else none
  | .lconst n => k L ((1, ((n : Nat) : Int)) :: st)
  | .iload n => ldK L n 0 (fun v => k L (v :: st))
  | .iload_n n => ldK L n 0 (fun v => k L (v :: st))
  | .lload n => ldK L n 1 (fun v => k L (v :: st))
  | .lload_n n => ldK L n 1 (fun v => k L (v :: st))
  | .aload n => ldK L n 2 (fun v => k L (v :: st))
  | .aload_n n => ldK L n 2 (fun v => k L (v :: st))
  | .istore n => match st with
    | (0, x) :: r => stK L n (0, x) (fun L' => k L' r)
    | _ => none
  | .istore_n n => match st with
    | (0, x) :: r => stK L n (0, x) (fun L' => k L' r)
    | _ => none
  | .astore n => match st with
    | (2, x) :: r => stK L n (2, x) (fun L' => k L' r)
    | _ => none
  | .astore_n n => match st with
    | (2, x) :: r => stK L n (2, x) (fun L' => k L' r)
    | _ => none
  | .lstore n => match st with
    | (1, x) :: r => stK2 L n (1, x) (fun L' => k L' r)
    | _ => none
  | .lstore_n n => match st with
    | (1, x) :: r => stK2 L n (1, x) (fun L' => k L' r)
    | _ => none
  | .iinc n d => ldK L n 0 (fun v => stK L n (0, v.2 + d) (fun L' => k L' st))
  | .iadd => match st with
    | (0, y) :: (0, x) :: r => k L ((0, x + y) :: r)
    | _ => none
  | .isub => match st with
    | (0, y) :: (0, x) :: r => k L ((0, x - y) :: r)
    | _ => none
  | .imul => match st with
    | (0, y) :: (0, x) :: r => k L ((0, x * y) :: r)
    | _ => none
  | .ladd => match st with
    | (1, y) :: (1, x) :: r => k L ((1, x + y) :: r)
    | _ => none
  | .lsub => match st with
    | (1, y) :: (1, x) :: r => k L ((1, x - y) :: r)
    | _ => none
  | .lmul => match st with
    | (1, y) :: (1, x) :: r => k L ((1, x * y) :: r)
    | _ => none
  | .l2i => match st with
    | (1, x) :: r => k L ((0, x) :: r)
    | _ => none
  | .dup => match st with
    | (0, x) :: r => k L ((0, x) :: (0, x) :: r)
    | (2, x) :: r => k L ((2, x) :: (2, x) :: r)
    | _ => none
  | .dup2 => match st with
    | (0, y) :: (2, x) :: r => k L ((0, y) :: (2, x) :: (0, y) :: (2, x) :: r)
    | _ => none
  | .pop => match st with
    | (0, _) :: r => k L r
    | (2, _) :: r => k L r
    | _ => none
  | .goto _ => k L st
  | _ => none
def exO : List Instr → List aV → List aV → kO
  | [], L, st => some (L, st)
  | i :: is, L, st => ex1 i L st (exO is)
/-! the frame's context, and the walk -/
def gnest : List (String × Nat × MethodName × String) := [("HotelNights", 25, ⟨"HotelNights$RoomPlan", "<init>", "()V"⟩, "HotelNights"), ("HotelNights$Hotel", 148, ⟨"HotelNights", "percentOf", "(II)I"⟩, "HotelNights"), ("HotelNights$Hotel", 51, ⟨"HotelNights$Market", "<init>", "()V"⟩, "HotelNights"), ("HotelNights$Hotel", 58, ⟨"HotelNights$Sale", "<init>", "()V"⟩, "HotelNights"), ("HotelNights$Hotel", 63, ⟨"HotelNights$Kind", "<init>", "()V"⟩, "HotelNights"), ("HotelNights$Hotel", 64, ⟨"HotelNights$Season", "<init>", "()V"⟩, "HotelNights"), ("HotelNights$Market", 44, ⟨"HotelNights", "power", "(JI)J"⟩, "HotelNights"), ("HotelNights$Stay", 61, ⟨"HotelNights", "halfOf", "(I)I"⟩, "HotelNights"), ("HotelNights$Stays", 17, ⟨"HotelNights$Stay", "<init>", "()V"⟩, "HotelNights")]
def gdecl : List MethodName := [⟨"java/lang/Exception", "<init>", "()V"⟩, ⟨"java/lang/Exception", "<init>", "(Ljava/lang/String;)V"⟩, ⟨"java/lang/RuntimeException", "<init>", "()V"⟩, ⟨"java/lang/RuntimeException", "<init>", "(Ljava/lang/String;)V"⟩, ⟨"java/lang/Throwable", "<init>", "()V"⟩, ⟨"java/lang/Throwable", "<init>", "(Ljava/lang/String;)V"⟩]
abbrev gxI : String := "java/lang/IndexOutOfBoundsException"
abbrev gxA : String := "java/lang/IllegalArgumentException"
abbrev gxS : String := "java/lang/IllegalStateException"
/-- the word on rows of rows, what it says, and that it stays -/
theorem gA2_spec {s : State} {args : Array Value} {ty : FieldType} (h : (Cond.arrayOver (.array ty)).before args s = true) : ∃ (comp cA : ClassId) (kA : Class), s.vm.findClass (FieldType.array ty).toString = some comp ∧ (s.vm.classes.findIdx? fun (x : Class) => match x.kind with | .array component _ => component == comp | _ => false) = some cA ∧ s.vm.classes[cA]? = some kA ∧ kA.kind = .array comp (.array ty) ∧ s.vm.findClass ("[" ++ (FieldType.array ty).toString) = some cA := by
  have h : (Cond.arrayOver (.array ty)).holds args s none s [] = true := h
  simp only [Cond.holds, Cond.value, beq_iff_eq] at h
  cases hf : s.vm.findClass (FieldType.array ty).toString with
  | none => simp [hf] at h
  | some comp =>
    simp only [hf, Option.bind_some, Option.bind_eq_some_iff, Option.map_eq_some_iff] at h
    obtain ⟨cA, hi, kA, hk, hb⟩ := h
    have hq := (Array.findIdx?_eq_some_iff_getElem.mp hi).2.1
    rw [(Array.getElem?_eq_some_iff.mp hk).2] at hq
    cases hkd : kA.kind with
    | array component t2 =>
      rw [hkd] at hb hq
      simp at hb hq
      exact ⟨comp, cA, kA, rfl, hi, hk, by rw [hkd, hq, hb.1], hb.2⟩
    | _ => rw [hkd] at hb; simp at hb
def gAO2 (ty : FieldType) (U : State) : Prop := (Cond.arrayOver (.array ty)).before #[] U = true
theorem gAO2.moved {ty : FieldType} {u U : State} (hvm : u.vm.Alike U.vm) (h : gAO2 ty u) : gAO2 ty U := by
  obtain ⟨comp, c, k, h1, h2, h3, h4, h5⟩ := gA2_spec h
  obtain ⟨k', hk', he⟩ := hvm.2.2 _ _ h3
  have hi : (U.vm.classes.findIdx? fun (x : Class) => match x.kind with | .array component _ => component == comp | _ => false) = some c := by
    have e1 := va_idx_bare U.vm comp
    have e2 := va_idx_bare u.vm comp
    first | rw [hvm.bare_eq] at e1 | rw [← hvm.bare_eq] at e1
    exact (e1.symm.trans e2).trans h2
  have hkind : k'.kind = .array comp (.array ty) := by rw [he]; exact h4
  have f1 : U.vm.findClass (FieldType.array ty).toString = some comp := by rw [hvm.findClass]; exact h1
  have f2 : U.vm.findClass ("[" ++ (FieldType.array ty).toString) = some c := by rw [hvm.findClass]; exact h5
  unfold gAO2 Cond.before Cond.holds
  simp only [Cond.value]
  rw [f1, Option.bind_some]
  refine (congrArg (fun o : Option Nat => (o.bind (fun c => (U.vm.classes[c]?).map fun (k : Class) => match k.kind with | .array _ t2 => decide (t2 = FieldType.array ty) && decide (U.vm.findClass ("[" ++ (FieldType.array ty).toString) = some c) | _ => false) == some true)) hi).trans ?_
  simp [hk', hkind, f2]
/-- the class of rows of rows -/
def gRR (ty : FieldType) (U : State) : Prop := gAO2 ty U ∧ ∃ (comp cA cc : ClassId) (kA kC : Class), U.vm.findClass ("[" ++ ty.toString) = some comp ∧ U.vm.findClass ("[" ++ (FieldType.array ty).toString) = some cA ∧ U.vm.classes[cA]? = some kA ∧ kA.kind = .array comp (.array ty) ∧ U.vm.classes[comp]? = some kC ∧ kC.kind = .array cc ty
theorem gRR.moved {ty : FieldType} {u U : State} (hvm : u.vm.Alike U.vm) (h : gRR ty u) : gRR ty U := by
  obtain ⟨h0, comp, cA, cc, kA, kC, h1, h2, h3, h4, h5, h6⟩ := h
  obtain ⟨k', hk', he⟩ := hvm.2.2 _ _ h3
  obtain ⟨k2, hk2, he2⟩ := hvm.2.2 _ _ h5
  exact ⟨h0.moved hvm, comp, cA, cc, k', k2, by rw [hvm.findClass]; exact h1, by rw [hvm.findClass]; exact h2, hk', by rw [he]; exact h4, hk2, by rw [he2]; exact h6⟩
/-- what of the tables isn't kept by itself -/
def gN (U : State) : Prop :=
  (∀ q ∈ gnest, va_Nw (.methodLinkNest q.1 q.2.1 q.2.2.1 q.2.2.2) U) ∧ (∀ x ∈ gdecl, va_Nw (.declares x) U) ∧ (∀ x ∈ [gxI, gxA, gxS], va_Nw (.castable x x) U) ∧
  (∀ x ∈ ["HotelNights$Hotel", "HotelNights$Kind", "HotelNights$Season", "HotelNights$Stay", "HotelNights$Wish"], va_AO x U) ∧ (∀ x ∈ [gxI, gxA, gxS], ∀ y ∈ [gxI, gxA, gxS], x ≠ y → True) ∧
  (∃ sa, vk_R "HotelNights" 310 "there is no such number" sa U) ∧ (∃ sa, vk_R "HotelNights" 317 "a number is out of range" sa U) ∧ ∃ sa, vk_R "HotelNights" 322 "this cannot be done now" sa U
theorem gN_warm {s U : State} (hW : s.WarmedH U.vm) (h : gN s) : gN U := by
  obtain ⟨h1, h2, h3, h4, h5, ⟨a6, h6⟩, ⟨a7, h7⟩, ⟨a8, h8⟩⟩ := h
  exact ⟨fun q hq => va_Nw.warmM hW (h1 q hq), fun q hq => va_Nw.warmD hW (h2 q hq), fun q hq => va_Nw.warmC hW (h3 q hq), fun q hq => va_AO.moved hW.alike (h4 q hq), h5, ⟨a6, vk_R.warm hW h6⟩, ⟨a7, vk_R.warm hW h7⟩, ⟨a8, vk_R.warm hW h8⟩⟩
/-- days ahead of a month of a common year -/
def bmT : Int → Int := fun k => match k with
  | 0 => 0
  | 1 => 31
  | 2 => 59
  | 3 => 90
  | 4 => 120
  | 5 => 151
  | 6 => 181
  | 7 => 212
  | 8 => 243
  | 9 => 273
  | 10 => 304
  | _ => 334
/-- the script: its address stands at place 20 -/
def gScr (E : gE) (U : State) (H : Heap) : Prop := ∃ (L : Nat) (xs : Nat → Int), (L ≤ 260 ∧ ∀ j, inI (xs j)) ∧ va_T .int (E.2.2 20) L (fun j => .int (Int32.ofInt (xs j))) (fun q => E.1 ≤ q) U H
/-- the class's table, and the statics that a throw carries along -/
def gS (E : gE) (U : State) (H : Heap) : Prop :=
  (∃ t : Nat, va_Z "HotelNights$Days" "BEFORE_MONTH" "[I" (.ref t) (fun q => E.1 ≤ q) U H ∧ va_T .int t 12 (fun j => .int (Int32.ofInt (bmT j))) (fun q => E.1 ≤ q) U H) ∧
  vx_Zq Bundle.tN "UNASSIGNED_STACK" Bundle.steD (fun q => E.1 ≤ q) U H ∧ vx_Zq Bundle.tN "SUPPRESSED_SENTINEL" Bundle.listD (fun q => E.1 ≤ q) U H ∧ gRR .int U ∧ gRR .boolean U ∧ gScr E U H
theorem gS_to {E : gE} {s U : State} {H H1 : Heap} (hvm : s.vm.Alike U.vm) (hq : ∀ a : Nat, a < H.size → ¬ E.1 ≤ a → H1[a]? = H[a]?) (h : gS E s H) : gS E U H1 := by
  obtain ⟨⟨t, h1, h2⟩, h3, h4, h5, h6, L, xs, h7, h8⟩ := h
  exact ⟨⟨t, va_Z.kept (va_Z.moved hvm h1) hq, va_T.kept (va_T.moved hvm h2) hq⟩, vx_Zq.kept (vx_Zq.moved hvm h3) hq, vx_Zq.kept (vx_Zq.moved hvm h4) hq, h5.moved hvm, h6.moved hvm, L, xs, h7, va_T.kept (va_T.moved hvm h8) hq⟩
def gC (E : gE) (own : String) (cc : ByteArray) (nL : Nat) (p : Program) (l : Launch) (s : State) (m : MethodId) (args : Array Value) (meth : Method) (c : Code) : Prop :=
  p.tables.exec = Jvm.exec ∧ c.code = cc ∧ c.maxLocals = nL ∧ s.vm.findClass own = some m.cls ∧ (∀ w ∈ gws, w.before args s = true) ∧ meth.locks = false ∧ gK E s ∧ gN s ∧ gS E s s.heap ∧ E.1 ≤ s.heap.size ∧ l.stackTraces = false
abbrev gA (E : gE) : Nat → Prop := fun q => E.1 ≤ q
def gG (E : gE) (nL : Nat) (p : Program) (l : Launch) (e : Env) (R : Room) (s : State) (m : MethodId) (args : Array Value) (below : List Frame) (meth : Method) (c : Code) (Q : State → Prop) (pc : Nat) (L st : List aV) (Sh : gSh) (V : gV) (z : Int) (k n : Nat) : Prop :=
  ∀ (H : Heap) (locs : List Loc) (ls : Array Slot), gH E Sh V H → (H.size : Int) = z → va_S (gA E) s.heap H locs → L.length = nL → lv_has ls nL (lvl 0 L) → W p l e R s m args below meth c H locs k n Q (F0 m pc ls (st.map cv))
theorem lv_mono {ls : Array Slot} {nL : Nat} {l l' : List (Nat × Value)} (h : lv_has ls nL l) (hs : ∀ q ∈ l', q ∈ l) : lv_has ls nL l' := ⟨h.1, h.2.1, fun q hq => h.2.2 q (hs q hq)⟩
theorem bip_ok {n : Int} (h : -128 ≤ n ∧ n ≤ 127) : (Int8.ofInt n).toInt32 = Int32.ofInt n := by
  rw [← Int32.toInt_inj, Int8.toInt_toInt32, iI_toInt ⟨by omega, by omega⟩, Int8.toInt_ofInt]
  have e : Int8.size = 256 := rfl
  rw [e]
  exact Int.bmod_eq_of_le (by omega) (by omega)
theorem sip_ok {n : Int} (h : -32768 ≤ n ∧ n ≤ 32767) : (Int16.ofInt n).toInt32 = Int32.ofInt n := by
  rw [← Int32.toInt_inj, Int16.toInt_toInt32, iI_toInt ⟨by omega, by omega⟩, Int16.toInt_ofInt]
  have e : Int16.size = 65536 := rfl
  rw [e]
  exact Int.bmod_eq_of_le (by omega) (by omega)
section GG
variable {E : gE} {own : String} {cc : ByteArray} {nL : Nat} {p : Program} {l : Launch} {e : Env} {R : Room} {s : State} {m : MethodId} {args : Array Value} {below : List Frame} {meth : Method} {c : Code} {Q : State → Prop} {pc : Nat} {L st : List aV} {Sh : gSh} {V : gV} {z : Int} {k n : Nat}
theorem ld_val {ls : Array Slot} {nL i t : Nat} {L : List aV} {k : aV → kO} {r : List aV × List aV} (ht : t ≠ 9) (h : ldK L i t k = some r) (hl : lv_has ls nL (lvl 0 L)) : ∃ x : Int, k (t, x) = some r ∧ ls[i]? = some (.val (cv (t, x))) := by
  obtain ⟨x, h1, h2⟩ := ldK_ok L i t 0 k r ht h
  rw [Nat.zero_add] at h2
  exact ⟨x, h1, hl.2.2 _ h2⟩
theorem st_cat1 {L L' : List aV} {i : Nat} {v : aV} {lv : List (Nat × Value)} (h : ∀ q ∈ lvl 0 L', q = (0 + i, cv v) ∨ (q ∈ lvl 0 L ∧ q.1 ≠ 0 + i ∧ ¬ (q.1 + 1 = 0 + i ∧ q.2.category = 2))) (e : (i, cv v) :: (lvl 0 L).filter (fun q => !(q.1 == i) && !(q.1 + 1 == i && q.2.category == 2)) = lv) : ∀ q ∈ lvl 0 L', q ∈ lv := by
  subst e
  intro q hq
  rcases h q hq with h1 | ⟨h1, h2, h3⟩
  · rw [h1, Nat.zero_add]; exact List.mem_cons_self
  · refine List.mem_cons_of_mem _ (List.mem_filter.mpr ⟨h1, ?_⟩)
    rw [Nat.zero_add] at h2 h3
    simp only [Bool.and_eq_true, Bool.not_eq_true', beq_eq_false_iff_ne, Bool.and_eq_false_iff]
    refine ⟨h2, ?_⟩
    by_cases g : q.1 + 1 = i
    · exact Or.inr (fun g2 => h3 ⟨g, g2⟩)
    · exact Or.inl g
theorem st_cat2 {L L' : List aV} {i : Nat} {v : aV} {lv : List (Nat × Value)} (h : ∀ q ∈ lvl 0 L', q = (0 + i, cv v) ∨ (q ∈ lvl 0 L ∧ q.1 ≠ 0 + i ∧ q.1 ≠ 0 + i + 1 ∧ ¬ (q.1 + 1 = 0 + i ∧ q.2.category = 2))) (e : (i, cv v) :: (lvl 0 L).filter (fun q => !(q.1 == i) && (!(q.1 == i + 1) && !(q.1 + 1 == i && q.2.category == 2))) = lv) : ∀ q ∈ lvl 0 L', q ∈ lv := by
  subst e
  intro q hq
  rcases h q hq with h1 | ⟨h1, h2, h4, h3⟩
  · rw [h1, Nat.zero_add]; exact List.mem_cons_self
  · refine List.mem_cons_of_mem _ (List.mem_filter.mpr ⟨h1, ?_⟩)
    rw [Nat.zero_add] at h2 h3 h4
    simp only [Bool.and_eq_true, Bool.not_eq_true', beq_eq_false_iff_ne, Bool.and_eq_false_iff]
    refine ⟨h2, h4, ?_⟩
    by_cases g : q.1 + 1 = i
    · exact Or.inr (fun g2 => h3 ⟨g, g2⟩)
    · exact Or.inl g
end GG
