/-! doubles: a mean of whole numbers is no NaN (laid by wip/whole/gen89.py) -/
theorem rr_ok (s : Bool) (num den : Nat) (e : Int) : (∃ t, FP.Core.roundRatio FP.Core.b64 s num den e = .inf t) ∨ ∃ t c q, FP.Core.roundRatio FP.Core.b64 s num den e = .fin t c q ∧ c < 9007199254740992 ∧ -1074 ≤ q ∧ q ≤ 971 := by
  have hq : FP.Core.b64.qmin = -1074 := by decide
  have hx : FP.Core.b64.qmax = 971 := by decide
  have hp : 2 ^ FP.Core.b64.p = 9007199254740992 := by decide
  have ht : FP.Core.b64.tails = 4503599627370496 := by decide
  unfold FP.Core.roundRatio
  split
  · exact Or.inr ⟨s, 0, _, rfl, by decide, by rw [hq]; decide, by rw [hq]; decide⟩
  · unfold FP.Core.roundAt
    have hqq : -1074 ≤ FP.Core.quantum FP.Core.b64 num den e := by
      unfold FP.Core.quantum
      rw [hq]
      omega
    generalize FP.Core.quantum FP.Core.b64 num den e = q at *
    generalize FP.Core.nearest _ _ = c
    unfold FP.Core.settle
    rw [hp]
    split
    · unfold FP.Core.bound
      rw [hx]
      split
      · exact Or.inr ⟨s, c, q, rfl, by assumption, by omega, by assumption⟩
      · exact Or.inl ⟨s, rfl⟩
    · unfold FP.Core.bound
      rw [hx, ht]
      split
      · exact Or.inr ⟨s, _, _, rfl, by decide, by omega, by assumption⟩
      · exact Or.inl ⟨s, rfl⟩
theorem enc_ok {d : FP.Core.Datum} (h : (∃ t, d = .inf t) ∨ ∃ t c q, d = .fin t c q ∧ c < 9007199254740992 ∧ -1074 ≤ q ∧ q ≤ 971) : FP.Core.encode FP.Core.b64 d < 18446744073709551616 ∧ FP.Core.encode FP.Core.b64 d % 9223372036854775808 ≤ 9218868437227405312 := by
  have hq : FP.Core.b64.qmin = -1074 := by decide
  have ht : FP.Core.b64.tails = 4503599627370496 := by decide
  have hxp : FP.Core.b64.exps = 2048 := by decide
  rcases h with ⟨t, rfl⟩ | ⟨t, c, q, rfl, h1, h2, h3⟩
  · cases t <;> decide
  · unfold FP.Core.encode
    dsimp only
    split
    · unfold FP.Core.assemble
      rw [hxp, ht] at *
      cases t <;> simp only [Bool.toNat_true, Bool.toNat_false] <;> omega
    · unfold FP.Core.assemble
      rw [hxp, hq, ht] at *
      have e1 : (q - -1074).toNat ≤ 2045 := by omega
      generalize (q - -1074).toNat = w at *
      cases t <;> simp only [Bool.toNat_true, Bool.toNat_false] <;> omega
theorem dec_ok {n : Nat} (h : n % 9223372036854775808 ≤ 9218868437227405312) : FP.Core.decode FP.Core.b64 n ≠ .nan := by
  have ht : FP.Core.b64.tails = 4503599627370496 := by decide
  have hxp : FP.Core.b64.exps = 2048 := by decide
  unfold FP.Core.decode
  split
  · rename_i h1
    split
    · intro q; cases q
    · rename_i h2
      unfold FP.Core.fieldE at h1
      unfold FP.Core.fieldT at h2
      rw [ht] at *
      rw [hxp] at h1
      omega
  · split <;> (intro q; cases q)
theorem n64_of {n : Nat} (h1 : n < 18446744073709551616) (h2 : n % 9223372036854775808 ≤ 9218868437227405312) : vf_n64 (UInt64.ofNat n) := by
  unfold vf_n64
  rw [UInt64.le_iff_toNat_le, UInt64.toNat_and, UInt64.toNat_ofNat', Nat.mod_eq_of_lt h1]
  have e : (0x7fffffffffffffff : UInt64).toNat = 2 ^ 63 - 1 := by decide
  rw [e, Nat.and_two_pow_sub_one_eq_mod]
  exact h2
theorem ddiv_n {x y : UInt64} (hx : FP.Core.decode FP.Core.b64 x.toNat ≠ .nan) (hy : ∃ s d r, FP.Core.decode FP.Core.b64 y.toNat = .fin s d r ∧ d ≠ 0) : vf_n64 (FP.ddiv x y) := by
  obtain ⟨s, d, r, hy, hd⟩ := hy
  have key : FP.Core.encode FP.Core.b64 (FP.Core.quotient FP.Core.b64 (FP.Core.decode FP.Core.b64 x.toNat) (FP.Core.decode FP.Core.b64 y.toNat)) < 18446744073709551616 ∧ FP.Core.encode FP.Core.b64 (FP.Core.quotient FP.Core.b64 (FP.Core.decode FP.Core.b64 x.toNat) (FP.Core.decode FP.Core.b64 y.toNat)) % 9223372036854775808 ≤ 9218868437227405312 := by
    apply enc_ok
    rw [hy]
    cases hz : FP.Core.decode FP.Core.b64 x.toNat with
    | nan => exact absurd hz hx
    | inf t => exact Or.inl ⟨_, rfl⟩
    | fin t c q =>
      unfold FP.Core.quotient
      dsimp only
      rw [if_neg hd]
      exact rr_ok _ _ _ _
  exact n64_of key.1 key.2
theorem l2d_n (a : Int64) : FP.Core.decode FP.Core.b64 (FP.l2d a).toNat ≠ .nan := by
  have h : FP.Core.encode FP.Core.b64 (FP.Core.round FP.Core.b64 (FP.Core.ofInt a.toInt)) < 18446744073709551616 ∧ FP.Core.encode FP.Core.b64 (FP.Core.round FP.Core.b64 (FP.Core.ofInt a.toInt)) % 9223372036854775808 ≤ 9218868437227405312 := by
    apply enc_ok
    exact rr_ok _ _ _ _
  apply dec_ok
  show (UInt64.ofNat (FP.Core.encode FP.Core.b64 (FP.Core.round FP.Core.b64 (FP.Core.ofInt a.toInt)))).toNat % _ ≤ _
  rw [UInt64.toNat_ofNat', Nat.mod_eq_of_lt h.1]
  exact h.2
def isFinN : FP.Core.Datum → Bool
  | .fin _ d _ => d != 0
  | _ => false
theorem i2d_f {n : Int} (h0 : 1 ≤ n) (h1 : n ≤ 840) : ∃ s d r, FP.Core.decode FP.Core.b64 (FP.i2d (Int32.ofInt n)).toNat = .fin s d r ∧ d ≠ 0 := by
  have key : ∀ k : Fin 840, isFinN (FP.Core.decode FP.Core.b64 (FP.i2d (Int32.ofInt ((k : Nat) + 1))).toNat) = true := by decide +kernel
  have := key ⟨(n - 1).toNat, by omega⟩
  rw [show (((⟨(n - 1).toNat, by omega⟩ : Fin 840) : Nat) : Int) + 1 = n by show ((n - 1).toNat : Int) + 1 = n; omega] at this
  revert this
  cases FP.Core.decode FP.Core.b64 (FP.i2d (Int32.ofInt n)).toNat with
  | nan => intro q; cases q
  | inf t => intro q; cases q
  | fin s d r => intro q; exact ⟨s, d, r, rfl, fun e => by subst e; cases q⟩
/-- the bits of a double, as a number -/
def db (x : UInt64) : Int := (x.toNat : Int)
theorem cv_db (x : UInt64) : cv (4, db x) = .double x := by
  show Value.double (UInt64.ofNat (db x).toNat) = _
  unfold db
  rw [Int.toNat_natCast, UInt64.ofNat_toNat]
/-- a mean -/
def meB (p n : Int) : UInt64 := if n < 1 then FP.dconst0 else FP.ddiv (FP.l2d (Int64.ofInt p)) (FP.i2d (Int32.ofInt n))
theorem meB_n {p n : Int} (h1 : n ≤ 840) : vf_n64 (meB p n) := by
  unfold meB
  split
  · unfold vf_n64; decide
  · exact ddiv_n (l2d_n _) (i2d_f (by omega) h1)
section GDL
variable {E : gE} {own : String} {nL : Nat} {p : Program} {l : Launch} {e : Env} {R : Room} {s : State} {m : MethodId} {args : Array Value} {below : List Frame} {meth : Method} {c : Code} {Q : State → Prop} {pc k n : Nat} {L r : List aV} {Sh : gSh} {V : gV} {z : Int} {cc : ByteArray}
theorem g_i2d (hC : gC E own cc nL p l s m args meth c) {x : Int} (hd : decode cc pc = .ok (.i2d, 1)) (kk : gG E nL p l e R s m args below meth c Q (pc + 1) L ((4, db (FP.i2d (Int32.ofInt x))) :: r) Sh V z k n) : gG E nL p l e R s m args below meth c Q pc L ((0, x) :: r) Sh V z k n := by
  intro H locs ls h1 h2 h3 h4 h5
  have h := kk H locs ls h1 h2 h3 h4 h5
  simp only [List.map_cons, cv_db] at h ⊢
  exact lv_i2d hC.1 hC.2.1 hd h
theorem g_l2d (hC : gC E own cc nL p l s m args meth c) {x : Int} (hd : decode cc pc = .ok (.l2d, 1)) (kk : gG E nL p l e R s m args below meth c Q (pc + 1) L ((4, db (FP.l2d (Int64.ofInt x))) :: r) Sh V z k n) : gG E nL p l e R s m args below meth c Q pc L ((1, x) :: r) Sh V z k n := by
  intro H locs ls h1 h2 h3 h4 h5
  have h := kk H locs ls h1 h2 h3 h4 h5
  simp only [List.map_cons, cv_db] at h ⊢
  exact lv_l2d hC.1 hC.2.1 hd h
theorem g_ddiv (hC : gC E own cc nL p l s m args meth c) {x y : UInt64} (hd : decode cc pc = .ok (.ddiv, 1)) (hn : vf_n64 (FP.ddiv x y)) (kk : gG E nL p l e R s m args below meth c Q (pc + 1) L ((4, db (FP.ddiv x y)) :: r) Sh V z k n) : gG E nL p l e R s m args below meth c Q pc L ((4, db y) :: (4, db x) :: r) Sh V z k n := by
  intro H locs ls h1 h2 h3 h4 h5
  have h := kk H locs ls h1 h2 h3 h4 h5
  simp only [List.map_cons, cv_db] at h ⊢
  exact lv_ddiv hC.1 hC.2.1 hd hn h
theorem g_dconst0 (hC : gC E own cc nL p l s m args meth c) (hd : decode cc pc = .ok (.dconst 0, 1)) (kk : gG E nL p l e R s m args below meth c Q (pc + 1) L ((4, db FP.dconst0) :: r) Sh V z k n) : gG E nL p l e R s m args below meth c Q pc L r Sh V z k n := by
  intro H locs ls h1 h2 h3 h4 h5
  have h := kk H locs ls h1 h2 h3 h4 h5
  simp only [List.map_cons, cv_db] at h
  exact lv_dconst0 hC.1 hC.2.1 hd h
end GDL
section GDR
variable {P : gPo} {rm : Room} {E : gE} {own : String} {nL : Nat} {p : Program} {l : Launch} {e : Env} {s : State} {m : MethodId} {args : Array Value} {below : List Frame} {meth : Method} {c : Code} {pc k n : Nat} {L : List aV} {Sh : gSh} {V : gV} {z : Int} {cc : ByteArray}
theorem g_dreturn (hC : gC E own cc nL p l s m args meth c) {x : UInt64} {Sh' : gSh} {V' : gV} (hd : decode cc pc = .ok (.dreturn, 1)) (hr : meth.sig.returnType = some .double) (hP : P (.inl (some (4, db x))) Sh' V' z) (hs : ∀ a sh, Sh' a = some sh → Sh a = some sh ∧ ∀ j, V a j = V' a j) (hk : k ≤ rm.cells ∧ n ≤ rm.slots) : gG E nL p l e rm s m args below meth c (gMQ E P rm below args s) pc L [(4, db x)] Sh V z k n := by
  intro H locs ls h1 h2 h3 h4 h5
  refine vx_ret (W.widen hk.1 hk.2 ?_)
  rw [show List.map cv [((4 : Nat), db x)] = [Value.double x] by simp only [List.map_cons, List.map_nil, cv_db]]
  exact W.dret (v := x) hC.1 hC.2.1 hr (fun t ht _ => by
    have h9 := g_end (ov := some (4, db x)) (args := args) (s := s) h1 h2 h3 hP hs t ht
    rw [show Option.map cv (some ((4 : Nat), db x)) = some (Value.double x) by rw [Option.map_some, cv_db]] at h9
    exact h9) h3.2.2 hd (hlocks := hC.2.2.2.2.2.1)
end GDR
