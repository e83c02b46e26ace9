/-! rows of this world: booleans, rows of rows, shifts of longs (laid by wip/p47/g96.py) -/
theorem assign_self (vm : Vm) (c : ClassId) : vm.assignable c c = true := by
  show vm.assignableAux (255 + 1) c c = true
  rw [Vm.assignableAux]
  simp
section WR
variable {E : gE} {own : String} {cc : ByteArray} {nL : Nat} {p : Program} {l : Launch} {e : Env} {R : Room} {s : State} {m : MethodId} {args : Array Value} {below : List Frame} {meth : Method} {c : Code} {Q : State → Prop} {pc : Nat} {L st r : List aV} {Sh : gSh} {V : gV} {z : Int} {k n : Nat}
theorem g_ineg (hC : gC E own cc nL p l s m args meth c) {x : Int} (hd : decode cc pc = .ok (.ineg, 1)) (kk : gG E nL p l e R s m args below meth c Q (pc + 1) L ((0, -x) :: r) Sh V z k n) : gG E nL p l e R s m args below meth c Q pc L ((0, x) :: r) Sh V z k n := by
  intro H locs ls h1 h2 h3 h4 h5
  refine lv_ineg hC.1 hC.2.1 hd ?_
  rw [iI_neg]
  exact kk H locs ls h1 h2 h3 h4 h5
theorem g_lushr (hC : gC E own cc nL p l s m args meth c) {x y v : Int} (hd : decode cc pc = .ok (.lushr, 1)) (hv : ((Int64.ofInt x).toUInt64 >>> ((Int32.ofInt y).toInt64.toUInt64 &&& Int64.toUInt64 63)).toInt64 = Int64.ofInt v) (kk : gG E nL p l e R s m args below meth c Q (pc + 1) L ((1, v) :: r) Sh V z k n) : gG E nL p l e R s m args below meth c Q pc L ((0, y) :: (1, x) :: r) Sh V z k n := by
  intro H locs ls h1 h2 h3 h4 h5
  exact lv_lushr hC.1 hC.2.1 hd hv (kk H locs ls h1 h2 h3 h4 h5)
theorem g_iushr (hC : gC E own cc nL p l s m args meth c) {x y v : Int} (hd : decode cc pc = .ok (.iushr, 1)) (hv : ((Int32.ofInt x).toUInt32 >>> ((Int32.ofInt y).toUInt32 &&& Int32.toUInt32 31)).toInt32 = Int32.ofInt v) (kk : gG E nL p l e R s m args below meth c Q (pc + 1) L ((0, v) :: r) Sh V z k n) : gG E nL p l e R s m args below meth c Q pc L ((0, y) :: (0, x) :: r) Sh V z k n := by
  intro H locs ls h1 h2 h3 h4 h5
  exact lv_iushr hC.1 hC.2.1 hd hv (kk H locs ls h1 h2 h3 h4 h5)
/-- a long's number, as it lies in its room -/
theorem g_wrapL {x : Int} (kk : ∀ v, inL v → Int64.ofInt v = Int64.ofInt x → gG E nL p l e R s m args below meth c Q pc L ((1, v) :: st) Sh V z k n) : gG E nL p l e R s m args below meth c Q pc L ((1, x) :: st) Sh V z k n := by
  have e1 : Int64.ofInt (Int64.ofInt x).toInt = Int64.ofInt x := iL_of _
  intro H locs ls h1 h2 h3 h4 h5
  have h6 := kk (Int64.ofInt x).toInt (i64_in _) e1 H locs ls h1 h2 h3 h4 h5
  have hx : cv (1, x) = cv (1, (Int64.ofInt x).toInt) := by
    show Value.long _ = Value.long _
    rw [e1]
  rw [List.map_cons] at h6 ⊢
  rw [hx]
  exact h6
theorem g_zald (hC : gC E own cc nL p l s m args meth c) {N : Nat} {a i x : Int} (hd : decode cc pc = .ok (.baload, 1)) (hsh : Sh a = some (102, N)) (hv : V a i = x) (h0 : 0 ≤ i) (hn : i < N) (hN : (N : Int) ≤ 2147483647)
    (kk : inI x → gG E nL p l e R s m args below meth c Q (pc + 1) L ((0, x) :: r) Sh V z k n) : gG E nL p l e R s m args below meth c Q pc L ((0, i) :: (2, a) :: r) Sh V z k n := by
  subst hv
  obtain ⟨hx, hb, hml, hown, hts, hlocks, hK, -, -, hE, -⟩ := hC
  intro H locs ls h1 h2 h3 h4 h5
  obtain ⟨ha, hco⟩ := h1 a _ hsh
  unfold cOk at hco
  rw [if_neg (by show ¬ 102 < 100; decide)] at hco
  obtain ⟨q1, q2, q3⟩ := hco
  have ha0 : 0 ≤ a := by omega
  have ei : ((i.toNat : Nat) : Int) = i := by omega
  have hlt : (Int32.ofInt i).toNatClampNeg < N := by rw [in_clamp h0 (by omega)]; omega
  rw [List.map_cons, List.map_cons, cv_ref ha0]
  refine W.zald hx hb q1 ((hK.2 2 _ rfl).1 N _) (fun q => by cases q) (v := cv (0, V a i)) (by show ¬ (_ ∨ (arrV _ _ _).slots.size ≤ _); rw [arrV_size]; exact in_idx h0 (by omega) hn) ?_ rfl rfl hd (kk ?_ H locs ls h1 h2 h3 h4 h5)
  · show (arrV _ _ _).slots[_]? = _
    rw [arrV_read _ _ hlt, in_clamp h0 (by omega), ei]
    rfl
  · have := q3 i.toNat (by show i.toNat < N; omega)
    rw [ei] at this
    exact this
theorem g_zast (hC : gC E own cc nL p l s m args meth c) {N : Nat} {a i x : Int} (hd : decode cc pc = .ok (.bastore, 1)) (hsh : Sh a = some (102, N)) (h0 : 0 ≤ i) (hn : i < N) (hN : (N : Int) ≤ 2147483647) (hxx : x = 0 ∨ x = 1)
    (kk : ∀ V1, V1 = up V a i x → gG E nL p l e R s m args below meth c Q (pc + 1) L r Sh V1 z k n) : gG E nL p l e R s m args below meth c Q pc L ((0, x) :: (0, i) :: (2, a) :: r) Sh V z k n := by
  obtain ⟨hx, hb, hml, hown, hts, hlocks, hK, -, -, hE, -⟩ := hC
  intro H locs ls h1 h2 h3 h4 h5
  obtain ⟨ha, hco⟩ := h1 a _ hsh
  unfold cOk at hco
  rw [if_neg (by show ¬ 102 < 100; decide)] at hco
  obtain ⟨q1, q2, q3⟩ := hco
  have ha0 : 0 ≤ a := by omega
  have ei : ((i.toNat : Nat) : Int) = i := by omega
  have hnar : narrow .boolean (.int (Int32.ofInt x)) = .int (Int32.ofInt x) := (vt_ok (t := 5) (ty := .boolean) rfl hxx).1
  rw [List.map_cons, List.map_cons, List.map_cons, cv_ref ha0]
  refine W.zast hx hb q1 ((hK.2 2 _ rfl).1 N _) (fun q => by cases q) (by show ¬ (_ ∨ (arrV _ _ _).slots.size ≤ _); rw [arrV_size]; exact in_idx h0 (by omega) hn) rfl rfl hd fun H' e1 e2 e3 => ?_
  rw [hnar] at e1
  refine kk _ rfl H' _ ls (gH_put h1 hsh ?_ e3) (by rw [e2]; exact h2) (h3.put e2 e3 (show E.1 ≤ a.toNat by omega)) h4 h5
  unfold cOk
  rw [if_neg (by show ¬ 102 < 100; decide)]
  refine ⟨?_, by show 102 < 110; decide, fun j hj => ?_⟩
  · rw [e1, arrV_store, in_clamp h0 (by omega)]
    show some (arrV _ _ _) = some (arrV _ _ _)
    congr 2
    funext j
    rw [up_fun]
    by_cases hji : j = i.toNat
    · subst hji
      simp only [updV, if_true, ei]
      rfl
    · have : ¬ (j : Int) = i := by omega
      simp only [updV, if_neg hji, if_neg this]
  · rw [up_fun]
    by_cases hji : (j : Int) = i
    · simp only [if_pos hji]
      show inI x
      rcases hxx with rfl | rfl <;> exact ⟨by decide, by decide⟩
    · simp only [if_neg hji]
      exact q3 j hj
/-- a row of ints into a row of such rows -/
theorem g_aastA (hC : gC E own cc nL p l s m args meth c) {N M : Nat} {a i x : Int} (hd : decode cc pc = .ok (.aastore, 1)) (hsh : Sh a = some (108, N)) (hv : Sh x = some (100, M)) (h0 : 0 ≤ i) (hn : i < N) (hN : (N : Int) ≤ 2147483647)
    (kk : ∀ V1, V1 = up V a i x → gG E nL p l e R s m args below meth c Q (pc + 1) L r Sh V1 z k n) : gG E nL p l e R s m args below meth c Q pc L ((2, x) :: (0, i) :: (2, a) :: r) Sh V z k n := by
  obtain ⟨hx, hb, hml, hown, hts, hlocks, hK, -, hSS, hE, -⟩ := hC
  intro H locs ls h1 h2 h3 h4 h5
  obtain ⟨ha, hco⟩ := h1 a _ hsh
  unfold cOk at hco
  rw [if_neg (by show ¬ 108 < 100; decide)] at hco
  obtain ⟨q1, q2, q3⟩ := hco
  obtain ⟨hxE, hcx⟩ := h1 x _ hv
  unfold cOk at hcx
  rw [if_neg (by show ¬ 100 < 100; decide)] at hcx
  obtain ⟨g1, -, -⟩ := hcx
  have q1 : H[a.toNat]? = some (arrV (E.2.2 8) N (fun i => cv (2, V a i))) := q1
  have g1 : H[x.toNat]? = some (arrV (E.2.2 0) M (fun i => cv (0, V x i))) := g1
  have ha0 : 0 ≤ a := by omega
  have hx0 : 0 ≤ x := by omega
  have ei : ((i.toNat : Nat) : Int) = i := by omega
  obtain ⟨-, comp, cA, c9, kA, kC, f1, f2, f3, f4, f5, f6⟩ := hSS.2.2.2.1
  have e8 : s.vm.findClass ("[" ++ (eTy 8).toString) = some (E.2.2 8) := (hK.2 8 _ rfl).2
  have e0 : s.vm.findClass ("[" ++ (eTy 0).toString) = some (E.2.2 0) := (hK.2 0 _ rfl).2
  have ecA : cA = E.2.2 8 := Option.some.inj (f2.symm.trans e8)
  have eco : comp = E.2.2 0 := Option.some.inj (f1.symm.trans e0)
  subst ecA
  subst eco
  have hin := in_idx h0 (by omega) hn
  rw [List.map_cons, List.map_cons, List.map_cons, cv_ref ha0, cv_ref hx0]
  refine W.aast hx hb q1 (fun q h => by cases h) (fun h => by cases h) f3 f4 rfl f5 ⟨fun q => hin (Or.inl q), by show _ < (arrV _ _ _).slots.size; rw [arrV_size]; exact Nat.not_le.mp fun q => hin (Or.inr q)⟩ g1 (fun q h => by cases h) f5 (assign_self _ _) rfl rfl hd fun H1 e1 e2 e3 => ?_
  refine kk _ rfl H1 _ ls (gH_put h1 hsh (cOk_arr (j := 8) (by decide) ?_ (fun _ _ => trivial)) e3) (by rw [e2]; exact h2) (h3.put e2 e3 (show E.1 ≤ a.toNat by omega)) h4 h5
  rw [e1, arrV_store, in_clamp h0 (by omega)]
  congr 2
  funext q
  rw [up_fun]
  by_cases hqi : q = i.toNat
  · subst hqi
    simp only [updV, if_true, ei]
    exact (cv_ref hx0).symm
  · have : ¬ (q : Int) = i := by omega
    simp only [updV, if_neg hqi, if_neg this]
    rfl
/-- an answer known to come -/
theorem gM_mono {y : MethodName} {cw : Cond} {rm : Room} {as : List aV} {P P' : gPo} (h : gM E l y cw rm as Sh V z P) (hp : ∀ o Sh' V' z', P o Sh' V' z' → P' o Sh' V' z') : gM E l y cw rm as Sh V z P' := by
  intro hl
  refine MetFree.mono (h hl) (fun _ _ h => h) (fun _ _ _ _ _ h => h) (fun a st o t _ hQ => ?_)
  rcases hQ with ⟨⟨r0, S1, V1, ho, h1, h2, h3⟩, hfe⟩ | ⟨q, ho, Ex, ce, Lx, ⟨S1, V1, h1, h2, h3⟩, h4⟩
  · exact Or.inl ⟨⟨r0, S1, V1, ho, hp _ _ _ _ h1, h2, h3⟩, hfe⟩
  · exact Or.inr ⟨q, ho, Ex, ce, Lx, ⟨S1, V1, hp _ _ _ _ h1, h2, h3⟩, h4⟩
end WR
/-- a contract where nothing is thrown -/
theorem gM_k0 {E : gE} {l : Launch} {y : MethodName} {cw : Cond} {rm : Room} {as : List aV} {Sh : gSh} {V : gV} {z C : Int} {X1 X2 X3 : String} {r : aV} {FS FF : gV → Prop} (h : gM E l y cw rm as Sh V z (gRk C X1 X2 X3 r FS FF Sh)) (hc : C = 0) : gM E l y cw rm as Sh V z (gRe (some r) FS Sh) :=
  gM_mono h (fun o Sh' V' z' h => by
    obtain ⟨h1, h2⟩ := h
    rcases h2 with ⟨_, h3, h4⟩ | ⟨_, ⟨h3, _⟩ | ⟨h3, _⟩ | ⟨h3, _⟩⟩
    · exact ⟨h3, h1, h4⟩
    · omega
    · omega
    · omega)
