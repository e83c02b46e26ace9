/-! floats: what the walk of 'share' takes -/
section GFL
variable {E : gE} {own : String} {nL : Nat} {p : Program} {l : Launch} {e : Env} {R : Room} {s : State} {m : MethodId} {args : Array Value} {below : List Frame} {meth : Method} {c : Code} {Q : State → Prop} {pc k n : Nat} {L r : List aV} {Sh : gSh} {V : gV} {z : Int} {cc : ByteArray}
/-- the bits of a float, as a number -/
def fb (x : UInt32) : Int := (x.toNat : Int)
theorem cv_fb (x : UInt32) : cv (3, fb x) = .float x := by
  show Value.float (UInt32.ofNat (fb x).toNat) = _
  unfold fb
  rw [Int.toNat_natCast, UInt32.ofNat_toNat]
theorem g_i2f (hC : gC E own cc nL p l s m args meth c) {x : Int} (hd : decode cc pc = .ok (.i2f, 1)) (kk : gG E nL p l e R s m args below meth c Q (pc + 1) L ((3, fb (FP.i2f (Int32.ofInt x))) :: r) Sh V z k n) : gG E nL p l e R s m args below meth c Q pc L ((0, x) :: r) Sh V z k n := by
  intro H locs ls h1 h2 h3 h4 h5
  have h := kk H locs ls h1 h2 h3 h4 h5
  simp only [List.map_cons, cv_fb] at h ⊢
  exact lv_i2f hC.1 hC.2.1 hd h
theorem g_fdiv (hC : gC E own cc nL p l s m args meth c) {x y : UInt32} (hd : decode cc pc = .ok (.fdiv, 1)) (hn : vf_n32 (FP.fdiv x y)) (kk : gG E nL p l e R s m args below meth c Q (pc + 1) L ((3, fb (FP.fdiv x y)) :: r) Sh V z k n) : gG E nL p l e R s m args below meth c Q pc L ((3, fb y) :: (3, fb x) :: r) Sh V z k n := by
  intro H locs ls h1 h2 h3 h4 h5
  have h := kk H locs ls h1 h2 h3 h4 h5
  simp only [List.map_cons, cv_fb] at h ⊢
  exact lv_fdiv hC.1 hC.2.1 hd hn h
theorem g_fconst0 (hC : gC E own cc nL p l s m args meth c) (hd : decode cc pc = .ok (.fconst 0, 1)) (kk : gG E nL p l e R s m args below meth c Q (pc + 1) L ((3, fb FP.fconst0) :: r) Sh V z k n) : gG E nL p l e R s m args below meth c Q pc L r Sh V z k n := by
  intro H locs ls h1 h2 h3 h4 h5
  have h := kk H locs ls h1 h2 h3 h4 h5
  simp only [List.map_cons, cv_fb] at h
  exact lv_fconst0 hC.1 hC.2.1 hd h
end GFL
section GFR
variable {P : gPo} {rm : Room} {E : gE} {own : String} {nL : Nat} {p : Program} {l : Launch} {e : Env} {s : State} {m : MethodId} {args : Array Value} {below : List Frame} {meth : Method} {c : Code} {pc k n : Nat} {L : List aV} {Sh : gSh} {V : gV} {z : Int} {cc : ByteArray}
theorem g_freturn (hC : gC E own cc nL p l s m args meth c) {x : UInt32} {Sh' : gSh} {V' : gV} (hd : decode cc pc = .ok (.freturn, 1)) (hr : meth.sig.returnType = some .float) (hP : P (.inl (some (3, fb x))) Sh' V' z) (hs : ∀ a sh, Sh' a = some sh → Sh a = some sh ∧ ∀ j, V a j = V' a j) (hk : k ≤ rm.cells ∧ n ≤ rm.slots) : gG E nL p l e rm s m args below meth c (gMQ E P rm below args s) pc L [(3, fb x)] Sh V z k n := by
  intro H locs ls h1 h2 h3 h4 h5
  refine vx_ret (W.widen hk.1 hk.2 ?_)
  rw [show List.map cv [((3 : Nat), fb x)] = [Value.float x] by simp only [List.map_cons, List.map_nil, cv_fb]]
  exact W.fret (v := x) hC.1 hC.2.1 hr (fun t ht _ => by
    have h9 := g_end (ov := some (3, fb x)) (args := args) (s := s) h1 h2 h3 hP hs t ht
    rw [show Option.map cv (some ((3 : Nat), fb x)) = some (Value.float x) by rw [Option.map_some, cv_fb]] at h9
    exact h9) h3.2.2 hd (hlocks := hC.2.2.2.2.2.1)
end GFR
/-- the share of rooms that are taken -/
def shB (c r : Int) : UInt32 := FP.fdiv (FP.i2f (Int32.ofInt c)) (FP.i2f (Int32.ofInt r))
theorem shB_n {c r : Int} (h0 : 0 ≤ c) (h1 : c ≤ 60) (h2 : 1 ≤ r) (h3 : r ≤ 6) : vf_n32 (shB c r) := by
  have key : ∀ c : Fin 61, ∀ r : Fin 6, vf_n32 (shB (c : Nat) ((r : Nat) + 1)) := by unfold vf_n32 shB; decide +kernel
  have := key ⟨c.toNat, by omega⟩ ⟨(r - 1).toNat, by omega⟩
  rw [show (((⟨c.toNat, by omega⟩ : Fin 61) : Nat) : Int) = c by show (c.toNat : Int) = c; omega, show (((⟨(r - 1).toNat, by omega⟩ : Fin 6) : Nat) : Int) + 1 = r by show ((r - 1).toNat : Int) + 1 = r; omega] at this
  exact this
