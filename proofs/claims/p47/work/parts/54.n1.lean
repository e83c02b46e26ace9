/-! more rows: numbers with names, calls that change the world by a relation, loops with all free (laid by wip/whole/n54.py) -/
/-- a call that answers r, leaves the shapes, makes of the numbers what F says -/
def gRe (r : Option aV) (F : gV → Prop) (Sh : gSh) : gPo := fun o Sh' V' _ => o = .inl r ∧ Sh' = Sh ∧ F V'
theorem gRe_no {Q : Prop} {r : Option aV} {F : gV → Prop} {Sh0 Sh' : gSh} {V' : gV} {z' : Int} {X : String} (h : gRe r F Sh0 (.inr X) Sh' V' z') : Q := nomatch h.1
section GE
variable {E : gE} {own : String} {cc : ByteArray} {nL : Nat} {p : Program} {l : Launch} {e : Env} {R : Room} {s : State} {m : MethodId} {args : Array Value} {below : List Frame} {meth : Method} {c : Code} {Q : State → Prop} {pc : Nat} {L st r : List aV} {Sh : gSh} {V : gV} {z : Int} {k n : Nat}
variable {P : gPo} {rm : Room}
theorem g_getiv (hC : gC E own cc nL p l s m args meth c) {ci kf idx : Nat} {a x : Int} (hd : decode cc pc = .ok (.getfield idx, 3)) (hf : gFL own idx ci kf) (hsh : Sh a = some (ci, 0)) (hci : ci < 100) (hft : ftt ci kf = 0) (j : Int) (hj : (kf : Int) = j) (hv : V a j = x)
    (kk : inI x → gG E nL p l e R s m args below meth c Q (pc + 3) L ((0, x) :: r) Sh V z k n) : gG E nL p l e R s m args below meth c Q pc L ((2, a) :: r) Sh V z k n := by
  subst hv
  exact g_geti hC hd hf hsh hci hft j hj kk
theorem g_getzv (hC : gC E own cc nL p l s m args meth c) {ci kf idx : Nat} {a x : Int} (hd : decode cc pc = .ok (.getfield idx, 3)) (hf : gFL own idx ci kf) (hsh : Sh a = some (ci, 0)) (hci : ci < 100) (hft : ftt ci kf = 5) (j : Int) (hj : (kf : Int) = j) (hv : V a j = x)
    (kk : (x = 0 ∨ x = 1) → gG E nL p l e R s m args below meth c Q (pc + 3) L ((0, x) :: r) Sh V z k n) : gG E nL p l e R s m args below meth c Q pc L ((2, a) :: r) Sh V z k n := by
  subst hv
  exact g_getz hC hd hf hsh hci hft j hj kk
theorem g_aald (hC : gC E own cc nL p l s m args meth c) {j N : Nat} {a i x : Int} (hd : decode cc pc = .ok (.aaload, 1)) (hsh : Sh a = some (100 + j, N)) (hj : 3 ≤ j) (hv : V a i = x) (h0 : 0 ≤ i) (hn : i < N) (hN : (N : Int) ≤ 2147483647)
    (kk : gG E nL p l e R s m args below meth c Q (pc + 1) L ((2, x) :: r) Sh V z k n) : gG E nL p l e R s m args below meth c Q pc L ((0, i) :: (2, a) :: r) Sh V z k n := by
  subst hv
  exact g_aaload hC hd hsh hj h0 hn hN kk
/-- a loop with all free -/
theorem g_loopA {α : Type} (I : α → Prop) (μ : α → Nat) (hp : Nat) (Lf : α → List aV) (Sf : α → gSh) (Vf : α → gV) (zf : α → Int) (kf nf : α → Nat) (x0 : α) (h0 : I x0)
    (body : ∀ x, I x → (∀ y, I y → μ y < μ x → gG E nL p l e R s m args below meth c Q hp (Lf y) [] (Sf y) (Vf y) (zf y) (kf y) (nf y)) → gG E nL p l e R s m args below meth c Q hp (Lf x) [] (Sf x) (Vf x) (zf x) (kf x) (nf x)) : gG E nL p l e R s m args below meth c Q hp (Lf x0) [] (Sf x0) (Vf x0) (zf x0) (kf x0) (nf x0) := by
  have key : ∀ (N : Nat) (x : α), I x → μ x = N → gG E nL p l e R s m args below meth c Q hp (Lf x) [] (Sf x) (Vf x) (zf x) (kf x) (nf x) := by
    intro N
    induction N using Nat.strongRecOn with
    | _ N ih =>
      intro x hI hN
      exact body x hI (fun y hy hlt => ih (μ y) (by omega) y hy rfl)
  exact key _ x0 h0 rfl
theorem g_cV1e (hC : gC E own cc nL p l s m args meth c) {y : MethodName} {bytes : ByteArray} {v : aV} {maxL na ci idx : Nat} {ret : Option FieldType} {a : Int} {as rest : List aV} {st0 : List aV} {F : gV → Prop} (hd : decode cc pc = .ok (.invokevirtual idx, 3)) (hl : Cond.methodLink own idx y ∈ gws) (hY : gYV y bytes maxL ret na ci)
    (hM : gM E l y (Cond.code y bytes maxL ret) rm ((2, a) :: as) Sh V z (gRe (some v) F Sh)) (hst : st0 = as.reverse ++ (2, a) :: rest) (hsh : Sh a = some (ci, 0)) (hci : ci < 100) (hna : as.length = na) (hW : catS rest ≤ 8) (hR : (rm.frames + 1 ≤ R.frames ∧ 8 + (maxL + 11) + rm.locals ≤ R.locals) ∧ (k + rm.cells ≤ R.cells ∧ n + rm.slots ≤ R.slots))
    (kk : ∀ z' V1, F V1 → gG E nL p l e R s m args below meth c Q (pc + 3) L (v :: rest) Sh V1 z' (k + rm.cells) (n + rm.slots)) : gG E nL p l e R s m args below meth c Q pc L st0 Sh V z k n :=
  g_callV hC st0 hd hl hY hM hst hsh hci hna hW hR (fun r0 Sh' V' z' h => by obtain ⟨h1, rfl, h2⟩ := h; cases h1; exact kk z' V' h2) (fun X Sh' V' z' h => gRe_no h)
theorem g_cV0e (hC : gC E own cc nL p l s m args meth c) {y : MethodName} {bytes : ByteArray} {maxL na ci idx : Nat} {ret : Option FieldType} {a : Int} {as rest : List aV} {st0 : List aV} {F : gV → Prop} (hd : decode cc pc = .ok (.invokevirtual idx, 3)) (hl : Cond.methodLink own idx y ∈ gws) (hY : gYV y bytes maxL ret na ci)
    (hM : gM E l y (Cond.code y bytes maxL ret) rm ((2, a) :: as) Sh V z (gRe none F Sh)) (hst : st0 = as.reverse ++ (2, a) :: rest) (hsh : Sh a = some (ci, 0)) (hci : ci < 100) (hna : as.length = na) (hW : catS rest ≤ 8) (hR : (rm.frames + 1 ≤ R.frames ∧ 8 + (maxL + 11) + rm.locals ≤ R.locals) ∧ (k + rm.cells ≤ R.cells ∧ n + rm.slots ≤ R.slots))
    (kk : ∀ z' V1, F V1 → gG E nL p l e R s m args below meth c Q (pc + 3) L (rest) Sh V1 z' (k + rm.cells) (n + rm.slots)) : gG E nL p l e R s m args below meth c Q pc L st0 Sh V z k n :=
  g_callV hC st0 hd hl hY hM hst hsh hci hna hW hR (fun r0 Sh' V' z' h => by obtain ⟨h1, rfl, h2⟩ := h; cases h1; exact kk z' V' h2) (fun X Sh' V' z' h => gRe_no h)
theorem g_cS1e (hC : gC E own cc nL p l s m args meth c) {y : MethodName} {bytes : ByteArray} {v : aV} {maxL na idx : Nat} {ret : Option FieldType} {as rest : List aV} {st0 : List aV} {F : gV → Prop} (hd : decode cc pc = .ok (.invokestatic idx, 3)) (hl : Cond.methodLink own idx y ∈ gws) (hY : gYS y bytes maxL ret na)
    (hM : gM E l y (Cond.code y bytes maxL ret) rm (as) Sh V z (gRe (some v) F Sh)) (hst : st0 = as.reverse ++ rest) (hna : as.length = na) (hW : catS rest ≤ 8) (hR : (rm.frames + 1 ≤ R.frames ∧ 8 + (maxL + 11) + rm.locals ≤ R.locals) ∧ (k + rm.cells ≤ R.cells ∧ n + rm.slots ≤ R.slots))
    (kk : ∀ z' V1, F V1 → gG E nL p l e R s m args below meth c Q (pc + 3) L (v :: rest) Sh V1 z' (k + rm.cells) (n + rm.slots)) : gG E nL p l e R s m args below meth c Q pc L st0 Sh V z k n :=
  g_callS hC st0 hd hl hY hM hst hna hW hR (fun r0 Sh' V' z' h => by obtain ⟨h1, rfl, h2⟩ := h; cases h1; exact kk z' V' h2) (fun X Sh' V' z' h => gRe_no h)
theorem g_cS0e (hC : gC E own cc nL p l s m args meth c) {y : MethodName} {bytes : ByteArray} {maxL na idx : Nat} {ret : Option FieldType} {as rest : List aV} {st0 : List aV} {F : gV → Prop} (hd : decode cc pc = .ok (.invokestatic idx, 3)) (hl : Cond.methodLink own idx y ∈ gws) (hY : gYS y bytes maxL ret na)
    (hM : gM E l y (Cond.code y bytes maxL ret) rm (as) Sh V z (gRe none F Sh)) (hst : st0 = as.reverse ++ rest) (hna : as.length = na) (hW : catS rest ≤ 8) (hR : (rm.frames + 1 ≤ R.frames ∧ 8 + (maxL + 11) + rm.locals ≤ R.locals) ∧ (k + rm.cells ≤ R.cells ∧ n + rm.slots ≤ R.slots))
    (kk : ∀ z' V1, F V1 → gG E nL p l e R s m args below meth c Q (pc + 3) L (rest) Sh V1 z' (k + rm.cells) (n + rm.slots)) : gG E nL p l e R s m args below meth c Q pc L st0 Sh V z k n :=
  g_callS hC st0 hd hl hY hM hst hna hW hR (fun r0 Sh' V' z' h => by obtain ⟨h1, rfl, h2⟩ := h; cases h1; exact kk z' V' h2) (fun X Sh' V' z' h => gRe_no h)
theorem g_cI0e (hC : gC E own cc nL p l s m args meth c) {y : MethodName} {bytes : ByteArray} {maxL na idx : Nat} {a : Int} {as rest : List aV} {st0 : List aV} {F : gV → Prop} (hd : decode cc pc = .ok (.invokespecial idx, 3)) (hl : Cond.methodLink own idx y ∈ gws) (hY : gYI y bytes maxL na)
    (hM : gM E l y (Cond.code y bytes maxL none) rm ((2, a) :: as) Sh V z (gRe none F Sh)) (hst : st0 = as.reverse ++ (2, a) :: rest) (ha0 : 0 ≤ a) (hna : as.length = na) (hW : catS rest ≤ 8) (hR : (rm.frames + 1 ≤ R.frames ∧ 8 + (maxL + 11) + rm.locals ≤ R.locals) ∧ (k + rm.cells ≤ R.cells ∧ n + rm.slots ≤ R.slots))
    (kk : ∀ z' V1, F V1 → gG E nL p l e R s m args below meth c Q (pc + 3) L (rest) Sh V1 z' (k + rm.cells) (n + rm.slots)) : gG E nL p l e R s m args below meth c Q pc L st0 Sh V z k n :=
  g_callI hC st0 hd hl hY hM hst ha0 hna hW hR (fun r0 Sh' V' z' h => by obtain ⟨h1, rfl, h2⟩ := h; cases h1; exact kk z' V' h2) (fun X Sh' V' z' h => gRe_no h)
theorem g_cSN1e (hC : gC E own cc nL p l s m args meth c) {y : MethodName} {bytes : ByteArray} {v : aV} {host : String} {maxL na idx : Nat} {ret : Option FieldType} {as rest : List aV} {st0 : List aV} {F : gV → Prop} (hd : decode cc pc = .ok (.invokestatic idx, 3)) (hl : (own, idx, y, host) ∈ gnest) (hY : gYS y bytes maxL ret na)
    (hM : gM E l y (Cond.code y bytes maxL ret) rm (as) Sh V z (gRe (some v) F Sh)) (hst : st0 = as.reverse ++ rest) (hna : as.length = na) (hW : catS rest ≤ 8) (hR : (rm.frames + 1 ≤ R.frames ∧ 8 + (maxL + 11) + rm.locals ≤ R.locals) ∧ (k + rm.cells ≤ R.cells ∧ n + rm.slots ≤ R.slots))
    (kk : ∀ z' V1, F V1 → gG E nL p l e R s m args below meth c Q (pc + 3) L (v :: rest) Sh V1 z' (k + rm.cells) (n + rm.slots)) : gG E nL p l e R s m args below meth c Q pc L st0 Sh V z k n :=
  g_callSN hC st0 hd hl hY hM hst hna hW hR (fun r0 Sh' V' z' h => by obtain ⟨h1, rfl, h2⟩ := h; cases h1; exact kk z' V' h2) (fun X Sh' V' z' h => gRe_no h)
theorem g_cSN0e (hC : gC E own cc nL p l s m args meth c) {y : MethodName} {bytes : ByteArray} {host : String} {maxL na idx : Nat} {ret : Option FieldType} {as rest : List aV} {st0 : List aV} {F : gV → Prop} (hd : decode cc pc = .ok (.invokestatic idx, 3)) (hl : (own, idx, y, host) ∈ gnest) (hY : gYS y bytes maxL ret na)
    (hM : gM E l y (Cond.code y bytes maxL ret) rm (as) Sh V z (gRe none F Sh)) (hst : st0 = as.reverse ++ rest) (hna : as.length = na) (hW : catS rest ≤ 8) (hR : (rm.frames + 1 ≤ R.frames ∧ 8 + (maxL + 11) + rm.locals ≤ R.locals) ∧ (k + rm.cells ≤ R.cells ∧ n + rm.slots ≤ R.slots))
    (kk : ∀ z' V1, F V1 → gG E nL p l e R s m args below meth c Q (pc + 3) L (rest) Sh V1 z' (k + rm.cells) (n + rm.slots)) : gG E nL p l e R s m args below meth c Q pc L st0 Sh V z k n :=
  g_callSN hC st0 hd hl hY hM hst hna hW hR (fun r0 Sh' V' z' h => by obtain ⟨h1, rfl, h2⟩ := h; cases h1; exact kk z' V' h2) (fun X Sh' V' z' h => gRe_no h)
theorem g_cIN0e (hC : gC E own cc nL p l s m args meth c) {y : MethodName} {bytes : ByteArray} {host : String} {maxL na idx : Nat} {a : Int} {as rest : List aV} {st0 : List aV} {F : gV → Prop} (hd : decode cc pc = .ok (.invokespecial idx, 3)) (hl : (own, idx, y, host) ∈ gnest) (hY : gYI y bytes maxL na)
    (hM : gM E l y (Cond.code y bytes maxL none) rm ((2, a) :: as) Sh V z (gRe none F Sh)) (hst : st0 = as.reverse ++ (2, a) :: rest) (ha0 : 0 ≤ a) (hna : as.length = na) (hW : catS rest ≤ 8) (hR : (rm.frames + 1 ≤ R.frames ∧ 8 + (maxL + 11) + rm.locals ≤ R.locals) ∧ (k + rm.cells ≤ R.cells ∧ n + rm.slots ≤ R.slots))
    (kk : ∀ z' V1, F V1 → gG E nL p l e R s m args below meth c Q (pc + 3) L (rest) Sh V1 z' (k + rm.cells) (n + rm.slots)) : gG E nL p l e R s m args below meth c Q pc L st0 Sh V z k n :=
  g_callIN hC st0 hd hl hY hM hst ha0 hna hW hR (fun r0 Sh' V' z' h => by obtain ⟨h1, rfl, h2⟩ := h; cases h1; exact kk z' V' h2) (fun X Sh' V' z' h => gRe_no h)
end GE
