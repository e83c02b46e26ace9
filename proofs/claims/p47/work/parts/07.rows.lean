section GR
variable {E : gE} {own : String} {cc : ByteArray} {nL : Nat} {p : Program} {l : Launch} {e : Env} {R : Room} {s : State} {m : MethodId} {args : Array Value} {below : List Frame} {meth : Method} {c : Code} {Q : State → Prop} {pc : Nat} {L st r : List aV} {Sh : gSh} {V : gV} {z : Int} {k n : Nat}
theorem g_icmp_eq (hC : gC E own cc nL p l s m args meth c) {x y : Int} {off : Int} (tgt : Nat) (hd : decode cc pc = .ok (.if_icmp .eq off, 3)) (ht : (pc : Int) + off = (tgt : Int)) (hx : inI x) (hy : inI y)
    (kt : x = y → gG E nL p l e R s m args below meth c Q tgt L r Sh V z k n) (kf : x ≠ y → gG E nL p l e R s m args below meth c Q (pc + 3) L r Sh V z k n) : gG E nL p l e R s m args below meth c Q pc L ((0, y) :: (0, x) :: r) Sh V z k n := by
  intro H locs ls h1 h2 h3 h4 h5
  exact lv_icmp_eq hC.1 hC.2.1 hd ht (fun q => (kt (((iI_eq hx hy)).mp q) H locs ls h1 h2 h3 h4 h5)) (fun q => (kf (fun g => q (((iI_eq hx hy)).mpr g)) H locs ls h1 h2 h3 h4 h5))
theorem g_if_eq (hC : gC E own cc nL p l s m args meth c) {x : Int} {off : Int} (tgt : Nat) (hd : decode cc pc = .ok (.ifCond .eq off, 3)) (ht : (pc : Int) + off = (tgt : Int)) (hx : inI x)
    (kt : x = 0 → gG E nL p l e R s m args below meth c Q tgt L r Sh V z k n) (kf : x ≠ 0 → gG E nL p l e R s m args below meth c Q (pc + 3) L r Sh V z k n) : gG E nL p l e R s m args below meth c Q pc L ((0, x) :: r) Sh V z k n := by
  have in0 : inI 0 := ⟨by decide, by decide⟩
  intro H locs ls h1 h2 h3 h4 h5
  exact lv_if_eq hC.1 hC.2.1 hd ht (fun q => (kt (((iI_eq hx in0)).mp q) H locs ls h1 h2 h3 h4 h5)) (fun q => (kf (fun g => q (((iI_eq hx in0)).mpr g)) H locs ls h1 h2 h3 h4 h5))
theorem g_icmp_ne (hC : gC E own cc nL p l s m args meth c) {x y : Int} {off : Int} (tgt : Nat) (hd : decode cc pc = .ok (.if_icmp .ne off, 3)) (ht : (pc : Int) + off = (tgt : Int)) (hx : inI x) (hy : inI y)
    (kt : x ≠ y → gG E nL p l e R s m args below meth c Q tgt L r Sh V z k n) (kf : x = y → gG E nL p l e R s m args below meth c Q (pc + 3) L r Sh V z k n) : gG E nL p l e R s m args below meth c Q pc L ((0, y) :: (0, x) :: r) Sh V z k n := by
  intro H locs ls h1 h2 h3 h4 h5
  exact lv_icmp_ne hC.1 hC.2.1 hd ht (fun q => (kt (fun g => q (((iI_eq hx hy)).mpr g)) H locs ls h1 h2 h3 h4 h5)) (fun q => (kf (((iI_eq hx hy)).mp q) H locs ls h1 h2 h3 h4 h5))
theorem g_if_ne (hC : gC E own cc nL p l s m args meth c) {x : Int} {off : Int} (tgt : Nat) (hd : decode cc pc = .ok (.ifCond .ne off, 3)) (ht : (pc : Int) + off = (tgt : Int)) (hx : inI x)
    (kt : x ≠ 0 → gG E nL p l e R s m args below meth c Q tgt L r Sh V z k n) (kf : x = 0 → gG E nL p l e R s m args below meth c Q (pc + 3) L r Sh V z k n) : gG E nL p l e R s m args below meth c Q pc L ((0, x) :: r) Sh V z k n := by
  have in0 : inI 0 := ⟨by decide, by decide⟩
  intro H locs ls h1 h2 h3 h4 h5
  exact lv_if_ne hC.1 hC.2.1 hd ht (fun q => (kt (fun g => q (((iI_eq hx in0)).mpr g)) H locs ls h1 h2 h3 h4 h5)) (fun q => (kf (((iI_eq hx in0)).mp q) H locs ls h1 h2 h3 h4 h5))
theorem g_icmp_lt (hC : gC E own cc nL p l s m args meth c) {x y : Int} {off : Int} (tgt : Nat) (hd : decode cc pc = .ok (.if_icmp .lt off, 3)) (ht : (pc : Int) + off = (tgt : Int)) (hx : inI x) (hy : inI y)
    (kt : x < y → gG E nL p l e R s m args below meth c Q tgt L r Sh V z k n) (kf : y ≤ x → gG E nL p l e R s m args below meth c Q (pc + 3) L r Sh V z k n) : gG E nL p l e R s m args below meth c Q pc L ((0, y) :: (0, x) :: r) Sh V z k n := by
  intro H locs ls h1 h2 h3 h4 h5
  exact lv_icmp_lt hC.1 hC.2.1 hd ht (fun q => (kt (((iI_lt hx hy)).mp q) H locs ls h1 h2 h3 h4 h5)) (fun q => (kf (Int.not_lt.mp (fun g => q (((iI_lt hx hy)).mpr g))) H locs ls h1 h2 h3 h4 h5))
theorem g_if_lt (hC : gC E own cc nL p l s m args meth c) {x : Int} {off : Int} (tgt : Nat) (hd : decode cc pc = .ok (.ifCond .lt off, 3)) (ht : (pc : Int) + off = (tgt : Int)) (hx : inI x)
    (kt : x < 0 → gG E nL p l e R s m args below meth c Q tgt L r Sh V z k n) (kf : 0 ≤ x → gG E nL p l e R s m args below meth c Q (pc + 3) L r Sh V z k n) : gG E nL p l e R s m args below meth c Q pc L ((0, x) :: r) Sh V z k n := by
  have in0 : inI 0 := ⟨by decide, by decide⟩
  intro H locs ls h1 h2 h3 h4 h5
  exact lv_if_lt hC.1 hC.2.1 hd ht (fun q => (kt (((iI_lt hx in0)).mp q) H locs ls h1 h2 h3 h4 h5)) (fun q => (kf (Int.not_lt.mp (fun g => q (((iI_lt hx in0)).mpr g))) H locs ls h1 h2 h3 h4 h5))
theorem g_icmp_ge (hC : gC E own cc nL p l s m args meth c) {x y : Int} {off : Int} (tgt : Nat) (hd : decode cc pc = .ok (.if_icmp .ge off, 3)) (ht : (pc : Int) + off = (tgt : Int)) (hx : inI x) (hy : inI y)
    (kt : y ≤ x → gG E nL p l e R s m args below meth c Q tgt L r Sh V z k n) (kf : x < y → gG E nL p l e R s m args below meth c Q (pc + 3) L r Sh V z k n) : gG E nL p l e R s m args below meth c Q pc L ((0, y) :: (0, x) :: r) Sh V z k n := by
  intro H locs ls h1 h2 h3 h4 h5
  exact lv_icmp_ge hC.1 hC.2.1 hd ht (fun q => (kt (((iI_le hy hx)).mp q) H locs ls h1 h2 h3 h4 h5)) (fun q => (kf (Int.not_le.mp (fun g => q (((iI_le hy hx)).mpr g))) H locs ls h1 h2 h3 h4 h5))
theorem g_if_ge (hC : gC E own cc nL p l s m args meth c) {x : Int} {off : Int} (tgt : Nat) (hd : decode cc pc = .ok (.ifCond .ge off, 3)) (ht : (pc : Int) + off = (tgt : Int)) (hx : inI x)
    (kt : 0 ≤ x → gG E nL p l e R s m args below meth c Q tgt L r Sh V z k n) (kf : x < 0 → gG E nL p l e R s m args below meth c Q (pc + 3) L r Sh V z k n) : gG E nL p l e R s m args below meth c Q pc L ((0, x) :: r) Sh V z k n := by
  have in0 : inI 0 := ⟨by decide, by decide⟩
  intro H locs ls h1 h2 h3 h4 h5
  exact lv_if_ge hC.1 hC.2.1 hd ht (fun q => (kt (((iI_le in0 hx)).mp q) H locs ls h1 h2 h3 h4 h5)) (fun q => (kf (Int.not_le.mp (fun g => q (((iI_le in0 hx)).mpr g))) H locs ls h1 h2 h3 h4 h5))
theorem g_icmp_gt (hC : gC E own cc nL p l s m args meth c) {x y : Int} {off : Int} (tgt : Nat) (hd : decode cc pc = .ok (.if_icmp .gt off, 3)) (ht : (pc : Int) + off = (tgt : Int)) (hx : inI x) (hy : inI y)
    (kt : y < x → gG E nL p l e R s m args below meth c Q tgt L r Sh V z k n) (kf : x ≤ y → gG E nL p l e R s m args below meth c Q (pc + 3) L r Sh V z k n) : gG E nL p l e R s m args below meth c Q pc L ((0, y) :: (0, x) :: r) Sh V z k n := by
  intro H locs ls h1 h2 h3 h4 h5
  exact lv_icmp_gt hC.1 hC.2.1 hd ht (fun q => (kt (((iI_lt hy hx)).mp q) H locs ls h1 h2 h3 h4 h5)) (fun q => (kf (Int.not_lt.mp (fun g => q (((iI_lt hy hx)).mpr g))) H locs ls h1 h2 h3 h4 h5))
theorem g_if_gt (hC : gC E own cc nL p l s m args meth c) {x : Int} {off : Int} (tgt : Nat) (hd : decode cc pc = .ok (.ifCond .gt off, 3)) (ht : (pc : Int) + off = (tgt : Int)) (hx : inI x)
    (kt : 0 < x → gG E nL p l e R s m args below meth c Q tgt L r Sh V z k n) (kf : x ≤ 0 → gG E nL p l e R s m args below meth c Q (pc + 3) L r Sh V z k n) : gG E nL p l e R s m args below meth c Q pc L ((0, x) :: r) Sh V z k n := by
  have in0 : inI 0 := ⟨by decide, by decide⟩
  intro H locs ls h1 h2 h3 h4 h5
  exact lv_if_gt hC.1 hC.2.1 hd ht (fun q => (kt (((iI_lt in0 hx)).mp q) H locs ls h1 h2 h3 h4 h5)) (fun q => (kf (Int.not_lt.mp (fun g => q (((iI_lt in0 hx)).mpr g))) H locs ls h1 h2 h3 h4 h5))
theorem g_icmp_le (hC : gC E own cc nL p l s m args meth c) {x y : Int} {off : Int} (tgt : Nat) (hd : decode cc pc = .ok (.if_icmp .le off, 3)) (ht : (pc : Int) + off = (tgt : Int)) (hx : inI x) (hy : inI y)
    (kt : x ≤ y → gG E nL p l e R s m args below meth c Q tgt L r Sh V z k n) (kf : y < x → gG E nL p l e R s m args below meth c Q (pc + 3) L r Sh V z k n) : gG E nL p l e R s m args below meth c Q pc L ((0, y) :: (0, x) :: r) Sh V z k n := by
  intro H locs ls h1 h2 h3 h4 h5
  exact lv_icmp_le hC.1 hC.2.1 hd ht (fun q => (kt (((iI_le hx hy)).mp q) H locs ls h1 h2 h3 h4 h5)) (fun q => (kf (Int.not_le.mp (fun g => q (((iI_le hx hy)).mpr g))) H locs ls h1 h2 h3 h4 h5))
theorem g_if_le (hC : gC E own cc nL p l s m args meth c) {x : Int} {off : Int} (tgt : Nat) (hd : decode cc pc = .ok (.ifCond .le off, 3)) (ht : (pc : Int) + off = (tgt : Int)) (hx : inI x)
    (kt : x ≤ 0 → gG E nL p l e R s m args below meth c Q tgt L r Sh V z k n) (kf : 0 < x → gG E nL p l e R s m args below meth c Q (pc + 3) L r Sh V z k n) : gG E nL p l e R s m args below meth c Q pc L ((0, x) :: r) Sh V z k n := by
  have in0 : inI 0 := ⟨by decide, by decide⟩
  intro H locs ls h1 h2 h3 h4 h5
  exact lv_if_le hC.1 hC.2.1 hd ht (fun q => (kt (((iI_le hx in0)).mp q) H locs ls h1 h2 h3 h4 h5)) (fun q => (kf (Int.not_le.mp (fun g => q (((iI_le hx in0)).mpr g))) H locs ls h1 h2 h3 h4 h5))
theorem g_idivT (hC : gC E own cc nL p l s m args meth c) {x y : Int} (hd : decode cc pc = .ok (.idiv, 1)) (hx : inI x) (hy : inI y) (h0 : y ≠ 0) (hm : x ≠ -2147483648 ∨ y ≠ -1)
    (kk : gG E nL p l e R s m args below meth c Q (pc + 1) L ((0, x.tdiv y) :: r) Sh V z k n) : gG E nL p l e R s m args below meth c Q pc L ((0, y) :: (0, x) :: r) Sh V z k n := by
  intro H locs ls h1 h2 h3 h4 h5
  refine lv_idiv hC.1 hC.2.1 hd (fun g => h0 ((iI_eq hy ⟨by decide, by decide⟩).mp g)) ?_
  rw [iI_div hx hy hm]
  exact kk H locs ls h1 h2 h3 h4 h5
theorem g_idiv (hC : gC E own cc nL p l s m args meth c) {x y : Int} (hd : decode cc pc = .ok (.idiv, 1)) (hx : inI x) (hy : inI y) (hx0 : 0 ≤ x) (hy0 : 0 < y)
    (kk : gG E nL p l e R s m args below meth c Q (pc + 1) L ((0, x / y) :: r) Sh V z k n) : gG E nL p l e R s m args below meth c Q pc L ((0, y) :: (0, x) :: r) Sh V z k n := by
  refine g_idivT hC hd hx hy (by omega) (Or.inl (by omega)) ?_
  rw [Int.tdiv_eq_ediv_of_nonneg hx0]
  exact kk
theorem g_iremT (hC : gC E own cc nL p l s m args meth c) {x y : Int} (hd : decode cc pc = .ok (.irem, 1)) (hx : inI x) (hy : inI y) (h0 : y ≠ 0) (hm : x ≠ -2147483648 ∨ y ≠ -1)
    (kk : gG E nL p l e R s m args below meth c Q (pc + 1) L ((0, x.tmod y) :: r) Sh V z k n) : gG E nL p l e R s m args below meth c Q pc L ((0, y) :: (0, x) :: r) Sh V z k n := by
  intro H locs ls h1 h2 h3 h4 h5
  refine lv_irem hC.1 hC.2.1 hd (fun g => h0 ((iI_eq hy ⟨by decide, by decide⟩).mp g)) ?_
  rw [iI_div hx hy hm, iI_mul, iI_sub, Int.mul_comm, ← Int.tmod_def]
  exact kk H locs ls h1 h2 h3 h4 h5
theorem g_irem (hC : gC E own cc nL p l s m args meth c) {x y : Int} (hd : decode cc pc = .ok (.irem, 1)) (hx : inI x) (hy : inI y) (hx0 : 0 ≤ x) (hy0 : 0 < y)
    (kk : gG E nL p l e R s m args below meth c Q (pc + 1) L ((0, x % y) :: r) Sh V z k n) : gG E nL p l e R s m args below meth c Q pc L ((0, y) :: (0, x) :: r) Sh V z k n := by
  refine g_iremT hC hd hx hy (by omega) (Or.inl (by omega)) ?_
  rw [Int.tmod_eq_emod_of_nonneg hx0]
  exact kk
theorem g_ldivT (hC : gC E own cc nL p l s m args meth c) {x y : Int} (hd : decode cc pc = .ok (.ldiv, 1)) (hx : inL x) (hy : inL y) (h0 : y ≠ 0) (hm : x ≠ -9223372036854775808 ∨ y ≠ -1)
    (kk : gG E nL p l e R s m args below meth c Q (pc + 1) L ((1, x.tdiv y) :: r) Sh V z k n) : gG E nL p l e R s m args below meth c Q pc L ((1, y) :: (1, x) :: r) Sh V z k n := by
  intro H locs ls h1 h2 h3 h4 h5
  refine lv_ldiv hC.1 hC.2.1 hd (fun g => h0 ((iL_eq hy ⟨by decide, by decide⟩).mp g)) ?_
  rw [iL_div hx hy hm]
  exact kk H locs ls h1 h2 h3 h4 h5
theorem g_ldiv (hC : gC E own cc nL p l s m args meth c) {x y : Int} (hd : decode cc pc = .ok (.ldiv, 1)) (hx : inL x) (hy : inL y) (hx0 : 0 ≤ x) (hy0 : 0 < y)
    (kk : gG E nL p l e R s m args below meth c Q (pc + 1) L ((1, x / y) :: r) Sh V z k n) : gG E nL p l e R s m args below meth c Q pc L ((1, y) :: (1, x) :: r) Sh V z k n := by
  refine g_ldivT hC hd hx hy (by omega) (Or.inl (by omega)) ?_
  rw [Int.tdiv_eq_ediv_of_nonneg hx0]
  exact kk
theorem g_lremT (hC : gC E own cc nL p l s m args meth c) {x y : Int} (hd : decode cc pc = .ok (.lrem, 1)) (hx : inL x) (hy : inL y) (h0 : y ≠ 0) (hm : x ≠ -9223372036854775808 ∨ y ≠ -1)
    (kk : gG E nL p l e R s m args below meth c Q (pc + 1) L ((1, x.tmod y) :: r) Sh V z k n) : gG E nL p l e R s m args below meth c Q pc L ((1, y) :: (1, x) :: r) Sh V z k n := by
  intro H locs ls h1 h2 h3 h4 h5
  refine lv_lrem hC.1 hC.2.1 hd (fun g => h0 ((iL_eq hy ⟨by decide, by decide⟩).mp g)) ?_
  rw [iL_div hx hy hm, iL_mul, iL_sub, Int.mul_comm, ← Int.tmod_def]
  exact kk H locs ls h1 h2 h3 h4 h5
theorem g_lrem (hC : gC E own cc nL p l s m args meth c) {x y : Int} (hd : decode cc pc = .ok (.lrem, 1)) (hx : inL x) (hy : inL y) (hx0 : 0 ≤ x) (hy0 : 0 < y)
    (kk : gG E nL p l e R s m args below meth c Q (pc + 1) L ((1, x % y) :: r) Sh V z k n) : gG E nL p l e R s m args below meth c Q pc L ((1, y) :: (1, x) :: r) Sh V z k n := by
  refine g_lremT hC hd hx hy (by omega) (Or.inl (by omega)) ?_
  rw [Int.tmod_eq_emod_of_nonneg hx0]
  exact kk
theorem g_iand (hC : gC E own cc nL p l s m args meth c) {x y v : Int} (hd : decode cc pc = .ok (.iand, 1)) (hv : Int32.ofInt x &&& Int32.ofInt y = Int32.ofInt v) (kk : gG E nL p l e R s m args below meth c Q (pc + 1) L ((0, v) :: r) Sh V z k n) : gG E nL p l e R s m args below meth c Q pc L ((0, y) :: (0, x) :: r) Sh V z k n := by
  intro H locs ls h1 h2 h3 h4 h5
  refine lv_iand hC.1 hC.2.1 hd ?_
  rw [hv]
  exact kk H locs ls h1 h2 h3 h4 h5
theorem g_ior (hC : gC E own cc nL p l s m args meth c) {x y v : Int} (hd : decode cc pc = .ok (.ior, 1)) (hv : Int32.ofInt x ||| Int32.ofInt y = Int32.ofInt v) (kk : gG E nL p l e R s m args below meth c Q (pc + 1) L ((0, v) :: r) Sh V z k n) : gG E nL p l e R s m args below meth c Q pc L ((0, y) :: (0, x) :: r) Sh V z k n := by
  intro H locs ls h1 h2 h3 h4 h5
  refine lv_ior hC.1 hC.2.1 hd ?_
  rw [hv]
  exact kk H locs ls h1 h2 h3 h4 h5
theorem g_ixor (hC : gC E own cc nL p l s m args meth c) {x y v : Int} (hd : decode cc pc = .ok (.ixor, 1)) (hv : Int32.ofInt x ^^^ Int32.ofInt y = Int32.ofInt v) (kk : gG E nL p l e R s m args below meth c Q (pc + 1) L ((0, v) :: r) Sh V z k n) : gG E nL p l e R s m args below meth c Q pc L ((0, y) :: (0, x) :: r) Sh V z k n := by
  intro H locs ls h1 h2 h3 h4 h5
  refine lv_ixor hC.1 hC.2.1 hd ?_
  rw [hv]
  exact kk H locs ls h1 h2 h3 h4 h5
theorem g_land (hC : gC E own cc nL p l s m args meth c) {x y v : Int} (hd : decode cc pc = .ok (.land, 1)) (hv : Int64.ofInt x &&& Int64.ofInt y = Int64.ofInt v) (kk : gG E nL p l e R s m args below meth c Q (pc + 1) L ((1, v) :: r) Sh V z k n) : gG E nL p l e R s m args below meth c Q pc L ((1, y) :: (1, x) :: r) Sh V z k n := by
  intro H locs ls h1 h2 h3 h4 h5
  refine lv_land hC.1 hC.2.1 hd ?_
  rw [hv]
  exact kk H locs ls h1 h2 h3 h4 h5
theorem g_lor (hC : gC E own cc nL p l s m args meth c) {x y v : Int} (hd : decode cc pc = .ok (.lor, 1)) (hv : Int64.ofInt x ||| Int64.ofInt y = Int64.ofInt v) (kk : gG E nL p l e R s m args below meth c Q (pc + 1) L ((1, v) :: r) Sh V z k n) : gG E nL p l e R s m args below meth c Q pc L ((1, y) :: (1, x) :: r) Sh V z k n := by
  intro H locs ls h1 h2 h3 h4 h5
  refine lv_lor hC.1 hC.2.1 hd ?_
  rw [hv]
  exact kk H locs ls h1 h2 h3 h4 h5
theorem g_lxor (hC : gC E own cc nL p l s m args meth c) {x y v : Int} (hd : decode cc pc = .ok (.lxor, 1)) (hv : Int64.ofInt x ^^^ Int64.ofInt y = Int64.ofInt v) (kk : gG E nL p l e R s m args below meth c Q (pc + 1) L ((1, v) :: r) Sh V z k n) : gG E nL p l e R s m args below meth c Q pc L ((1, y) :: (1, x) :: r) Sh V z k n := by
  intro H locs ls h1 h2 h3 h4 h5
  refine lv_lxor hC.1 hC.2.1 hd ?_
  rw [hv]
  exact kk H locs ls h1 h2 h3 h4 h5
theorem g_ishl (hC : gC E own cc nL p l s m args meth c) {x y v : Int} (hd : decode cc pc = .ok (.ishl, 1)) (hv : Int32.ofInt x <<< (Int32.ofInt y &&& 31) = Int32.ofInt v) (kk : gG E nL p l e R s m args below meth c Q (pc + 1) L ((0, v) :: r) Sh V z k n) : gG E nL p l e R s m args below meth c Q pc L ((0, y) :: (0, x) :: r) Sh V z k n := by
  intro H locs ls h1 h2 h3 h4 h5
  refine lv_ishl hC.1 hC.2.1 hd ?_
  rw [hv]
  exact kk H locs ls h1 h2 h3 h4 h5
theorem g_ishr (hC : gC E own cc nL p l s m args meth c) {x y v : Int} (hd : decode cc pc = .ok (.ishr, 1)) (hv : Int32.ofInt x >>> (Int32.ofInt y &&& 31) = Int32.ofInt v) (kk : gG E nL p l e R s m args below meth c Q (pc + 1) L ((0, v) :: r) Sh V z k n) : gG E nL p l e R s m args below meth c Q pc L ((0, y) :: (0, x) :: r) Sh V z k n := by
  intro H locs ls h1 h2 h3 h4 h5
  refine lv_ishr hC.1 hC.2.1 hd ?_
  rw [hv]
  exact kk H locs ls h1 h2 h3 h4 h5
theorem g_lshl (hC : gC E own cc nL p l s m args meth c) {x y v : Int} (hd : decode cc pc = .ok (.lshl, 1)) (hv : Int64.ofInt x <<< ((Int32.ofInt y).toInt64 &&& 63) = Int64.ofInt v) (kk : gG E nL p l e R s m args below meth c Q (pc + 1) L ((1, v) :: r) Sh V z k n) : gG E nL p l e R s m args below meth c Q pc L ((0, y) :: (1, x) :: r) Sh V z k n := by
  intro H locs ls h1 h2 h3 h4 h5
  exact lv_lshl hC.1 hC.2.1 hd hv (kk H locs ls h1 h2 h3 h4 h5)
theorem g_lshr (hC : gC E own cc nL p l s m args meth c) {x y v : Int} (hd : decode cc pc = .ok (.lshr, 1)) (hv : Int64.ofInt x >>> ((Int32.ofInt y).toInt64 &&& 63) = Int64.ofInt v) (kk : gG E nL p l e R s m args below meth c Q (pc + 1) L ((1, v) :: r) Sh V z k n) : gG E nL p l e R s m args below meth c Q pc L ((0, y) :: (1, x) :: r) Sh V z k n := by
  intro H locs ls h1 h2 h3 h4 h5
  exact lv_lshr hC.1 hC.2.1 hd hv (kk H locs ls h1 h2 h3 h4 h5)
theorem g_i2l (hC : gC E own cc nL p l s m args meth c) {x : Int} (hd : decode cc pc = .ok (.i2l, 1)) (hx : inI x) (kk : gG E nL p l e R s m args below meth c Q (pc + 1) L ((1, x) :: r) Sh V z k n) : gG E nL p l e R s m args below meth c Q pc L ((0, x) :: r) Sh V z k n := by
  intro H locs ls h1 h2 h3 h4 h5
  exact lv_i2l hC.1 hC.2.1 hd (iI_l hx) (kk H locs ls h1 h2 h3 h4 h5)
def cmpZ (x y : Int) : Int := if y < x then 1 else if x = y then 0 else -1
theorem cmpZ_in (x y : Int) : inI (cmpZ x y) := by
  unfold cmpZ
  split
  · exact ⟨by decide, by decide⟩
  · split <;> exact ⟨by decide, by decide⟩
theorem cmpZ_lt (x y : Int) : cmpZ x y < 0 ↔ x < y := by unfold cmpZ; split <;> (try split) <;> omega
theorem cmpZ_gt (x y : Int) : 0 < cmpZ x y ↔ y < x := by unfold cmpZ; split <;> (try split) <;> omega
theorem cmpZ_eq (x y : Int) : cmpZ x y = 0 ↔ x = y := by unfold cmpZ; split <;> (try split) <;> omega
theorem cmpZ_le (x y : Int) : cmpZ x y ≤ 0 ↔ x ≤ y := by unfold cmpZ; split <;> (try split) <;> omega
theorem cmpZ_ge (x y : Int) : 0 ≤ cmpZ x y ↔ y ≤ x := by unfold cmpZ; split <;> (try split) <;> omega
theorem g_lcmp (hC : gC E own cc nL p l s m args meth c) {x y : Int} (hd : decode cc pc = .ok (.lcmp, 1)) (hx : inL x) (hy : inL y) (kk : gG E nL p l e R s m args below meth c Q (pc + 1) L ((0, cmpZ x y) :: r) Sh V z k n) : gG E nL p l e R s m args below meth c Q pc L ((1, y) :: (1, x) :: r) Sh V z k n := by
  intro H locs ls h1 h2 h3 h4 h5
  refine W.lcmp hC.1 hC.2.1 hd ?_
  rw [iL_cmp hx hy]
  exact kk H locs ls h1 h2 h3 h4 h5
theorem g_ldc (hC : gC E own cc nL p l s m args meth c) {v : Int32} {index : Nat} (x : Int) (hw : Cond.constant own index v ∈ gws) (hv : v = Int32.ofInt x) (hd : decode cc pc = .ok (.ldc index, 2)) (kk : gG E nL p l e R s m args below meth c Q (pc + 2) L ((0, x) :: st) Sh V z k n) : gG E nL p l e R s m args below meth c Q pc L st Sh V z k n := by
  subst hv
  intro H locs ls h1 h2 h3 h4 h5
  exact lv_ldc hC.1 hC.2.1 hC.2.2.2.1 (hC.2.2.2.2.1 _ hw) hd (kk H locs ls h1 h2 h3 h4 h5)
theorem g_ldc2 (hC : gC E own cc nL p l s m args meth c) {v : Int64} {index : Nat} (x : Int) (hw : Cond.constantLong own index v ∈ gws) (hv : v = Int64.ofInt x) (hd : decode cc pc = .ok (.ldc2_w index, 3)) (kk : gG E nL p l e R s m args below meth c Q (pc + 3) L ((1, x) :: st) Sh V z k n) : gG E nL p l e R s m args below meth c Q pc L st Sh V z k n := by
  subst hv
  intro H locs ls h1 h2 h3 h4 h5
  exact lv_ldc2 hC.1 hC.2.1 hC.2.2.2.1 (hC.2.2.2.2.1 _ hw) hd (kk H locs ls h1 h2 h3 h4 h5)
theorem g_widen {k' n' : Nat} (h1 : k ≤ k') (h2 : n ≤ n') (kk : gG E nL p l e R s m args below meth c Q pc L st Sh V z k' n') : gG E nL p l e R s m args below meth c Q pc L st Sh V z k n := fun H locs ls a1 a2 a3 a4 a5 => W.widen h1 h2 (kk H locs ls a1 a2 a3 a4 a5)
/-- other numbers for the same cells -/
theorem g_sub {Sh' : gSh} {V' : gV} (hs : ∀ a sh, Sh' a = some sh → Sh a = some sh ∧ ∀ j, V a j = V' a j) (kk : gG E nL p l e R s m args below meth c Q pc L st Sh' V' z k n) : gG E nL p l e R s m args below meth c Q pc L st Sh V z k n := fun H locs ls a1 a2 a3 a4 a5 => kk H locs ls (gH_sub a1 hs) a2 a3 a4 a5
end GR
