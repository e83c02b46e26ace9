/-! rows of doubles and floats that the law takes (laid by wip/whole/gen9b.py) -/
theorem lvl_at : ∀ (L : List aV) (j i : Nat) (v : aV), L[i]? = some v → v.1 ≠ 9 → (j + i, cv v) ∈ lvl j L := by
  intro L
  induction L with
  | nil => intro j i v h; simp at h
  | cons w r ih =>
    intro j i v h hv
    cases i with
    | zero =>
      simp at h
      subst h
      unfold lvl
      rw [if_neg hv]
      exact List.mem_cons_self
    | succ i =>
      have h' : r[i]? = some v := by simpa using h
      have := ih (j + 1) i v h' hv
      rw [show j + 1 + i = j + (i + 1) by omega] at this
      unfold lvl
      split
      · exact this
      · exact List.mem_cons_of_mem _ this
section GDF
variable {E : gE} {own : String} {nL : Nat} {p : Program} {l : Launch} {e : Env} {R : Room} {s : State} {m : MethodId} {args : Array Value} {below : List Frame} {meth : Method} {c : Code} {Q : State → Prop} {pc k n : Nat} {L r : List aV} {Sh : gSh} {V : gV} {z : Int} {cc : ByteArray}
theorem g_f2d (hC : gC E own cc nL p l s m args meth c) {x : UInt32} (hd : decode cc pc = .ok (.f2d, 1)) (hn : vf_n64 (FP.f2d x)) (kk : gG E nL p l e R s m args below meth c Q (pc + 1) L ((4, db (FP.f2d x)) :: r) Sh V z k n) : gG E nL p l e R s m args below meth c Q pc L ((3, fb x) :: r) Sh V z k n := by
  intro H locs ls h1 h2 h3 h4 h5
  have h := kk H locs ls h1 h2 h3 h4 h5
  simp only [List.map_cons, cv_fb, cv_db] at h ⊢
  exact lv_f2d hC.1 hC.2.1 hd hn h
theorem g_dcmpS (hC : gC E own cc nL p l s m args meth c) {x : UInt64} (hd : decode cc pc = .ok (.dcmp .l, 1)) (hn : vf_n64 x) (kk : gG E nL p l e R s m args below meth c Q (pc + 1) L ((0, 0) :: r) Sh V z k n) : gG E nL p l e R s m args below meth c Q pc L ((4, db x) :: (4, db x) :: r) Sh V z k n := by
  intro H locs ls h1 h2 h3 h4 h5
  have h := kk H locs ls h1 h2 h3 h4 h5
  simp only [List.map_cons, cv_db] at h ⊢
  have e : cv ((0 : Nat), (0 : Int)) = Value.int (Op.cmpValue (FP.dcmp x x) .l) := by rw [dcmp_self hn]; rfl
  rw [e] at h
  exact lv_dcmp hC.1 hC.2.1 hd h
theorem g_dload (hC : gC E own cc nL p l s m args meth c) {i : Nat} {x : UInt64} (hd : decode cc pc = .ok (.dload i, 2)) (hL : L[i]? = some ((4 : Nat), db x)) (kk : gG E nL p l e R s m args below meth c Q (pc + 2) L ((4, db x) :: r) Sh V z k n) : gG E nL p l e R s m args below meth c Q pc L r Sh V z k n := by
  intro H locs ls h1 h2 h3 h4 h5
  have h := kk H locs ls h1 h2 h3 h4 h5
  simp only [List.map_cons, cv_db] at h
  refine lv_dload hC.1 hC.2.1 hd ?_ h
  have hm := lvl_at L 0 i _ hL (show (4 : Nat) ≠ 9 by decide)
  rw [Nat.zero_add, cv_db] at hm
  exact h5.2.2 _ hm
theorem g_fload (hC : gC E own cc nL p l s m args meth c) {i : Nat} {x : UInt32} (hd : decode cc pc = .ok (.fload i, 2)) (hL : L[i]? = some ((3 : Nat), fb x)) (kk : gG E nL p l e R s m args below meth c Q (pc + 2) L ((3, fb x) :: r) Sh V z k n) : gG E nL p l e R s m args below meth c Q pc L r Sh V z k n := by
  intro H locs ls h1 h2 h3 h4 h5
  have h := kk H locs ls h1 h2 h3 h4 h5
  simp only [List.map_cons, cv_fb] at h
  refine lv_fload hC.1 hC.2.1 hd ?_ h
  have hm := lvl_at L 0 i _ hL (show (3 : Nat) ≠ 9 by decide)
  rw [Nat.zero_add, cv_fb] at hm
  exact h5.2.2 _ hm
end GDF
