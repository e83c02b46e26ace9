/-! the law's walk up to its loop; the claim (laid by wip/whole/gen9p.py; what stands behind whole_start began as the kit's skeleton) -/
theorem gMd_new {b a : Int} {sh : Nat × Nat} {N : gN0} {Sh : gSh} {V V1 : gV} (h : gMd b N Sh V) (ha : b + 6 ≤ a) (e : ∀ q, q ≠ a → V1 q = V q) : gMd b N (shp Sh a sh) V1 := by
  obtain ⟨⟨s0, s1, s2, s3, s4, s5⟩, ⟨h2, h3, h4, h5, h6⟩, h7⟩ := h
  have ne : ∀ q, q < a → shp Sh a sh q = Sh q := fun q hq => shp_ne _ _ (by omega)
  have eb := e b (by omega)
  refine ⟨⟨(ne _ (by omega)).trans s0, (ne _ (by omega)).trans s1, (ne _ (by omega)).trans s2, (ne _ (by omega)).trans s3, (ne _ (by omega)).trans s4, (ne _ (by omega)).trans s5⟩, ⟨?_, ?_, ?_, ?_, ?_⟩, (e _ (by omega)).trans h7⟩
  · rw [eb]; exact h2
  · rw [eb]; exact h3
  · rw [eb]; exact h4
  · rw [eb]; exact h5
  · rw [eb]; exact h6
theorem whole_start {p : Program} {e : Env} {s : State} {m : MethodId} {below : List Frame} {meth : Method} {c : Code} (l : Launch) (hflags : l.flags = flags0) {b L : Nat} {xs : Nat → Int32} (hL : L ≤ 3584) (C0 : lw_At p s m meth c b L xs) : W p l e room_1 s m #[Value.ref b] below meth c s.heap [] 0 0 (lw_Z below #[Value.ref b] s) (entryFrame m ([Value.ref b] : List Value).toArray 10) := by
  have hr := C0.2.2.1
  have hX := C0.2.2.2.2.2.2.1
  have hb0 := C0.2.2.2.2.2.2.2.1
  obtain ⟨E, hE, hC⟩ := st_C l hflags C0
  rw [lg_entry_eq]
  have key : gG E 10 p l e room_1 s m #[Value.ref b] below meth c (lw_Z below #[Value.ref b] s) 0 [(2, (b : Int)), (9, 0), (9, 0), (9, 0), (9, 0), (9, 0), (9, 0), (9, 0), (9, 0), (9, 0)] [] (fun _ => none) (fun _ _ => 0) (s.heap.size : Int) 0 0 := by
    generalize hz : (s.heap.size : Int) = x9
    have hx0 : 0 ≤ x9 := by omega
    refine g_new (ci := 10) hC dL_law_0 lL_8 nX11 zX11 (by decide) ⟨_, rfl, rfl, rfl⟩ ⟨Nat.le_of_ble_eq_true rfl, Nat.le_of_ble_eq_true rfl⟩ (fun _ => ?_)
    refine gB hC _ _ _ _ _ _ _ qL_law_3 rfl ?_
    refine g_callI hC _ dL_law_4 mL_133 iX11_init (kX11_init (shp_eq _ _ _) hx0) rfl hx0 rfl (Nat.le_of_ble_eq_true rfl) ⟨⟨Nat.le_of_ble_eq_true rfl, Nat.le_of_ble_eq_true rfl⟩, Nat.le_of_ble_eq_true rfl, Nat.le_of_ble_eq_true rfl⟩ (fun r0 S1 V1 z1 h => ?_) (fun X S1 V1 z1 h => nomatch h.1)
    obtain ⟨h1, hz1, -, -, hxr⟩ := h
    cases h1
    refine gB hC _ _ _ _ _ _ _ qL_law_7 rfl ?_
    refine g_new (ci := 11) hC dL_law_8 lL_134 nX12 zX12 (by decide) ⟨_, rfl, rfl, rfl⟩ ⟨Nat.le_of_ble_eq_true rfl, Nat.le_of_ble_eq_true rfl⟩ (fun _ => ?_)
    refine gB hC _ _ _ _ _ _ _ qL_law_11 rfl ?_
    refine g_callI hC _ dL_law_12 mL_136 iX12_init (kX12_init (b := z1) (shp_eq _ _ _) (by rw [vn_eq]; rfl) (by rw [vn_eq]; rfl) (by omega)) rfl (by omega) rfl (Nat.le_of_ble_eq_true rfl) ⟨⟨Nat.le_of_ble_eq_true rfl, Nat.le_of_ble_eq_true rfl⟩, Nat.le_of_ble_eq_true rfl, Nat.le_of_ble_eq_true rfl⟩ (fun r0 S3 V3 z3 h => ?_) (fun X S3 V3 z3 h => nomatch h.1)
    obtain ⟨h1, hS3, hmd, hv2, hv3, hlo⟩ := h
    cases h1
    refine g_lts (fun hlt => ?_)
    have hz3 : z1 + 5 < z3 := (hlt _ _ hmd.1.2.2.2.2.2).2
    refine gB hC _ _ _ _ _ _ _ qL_law_15 rfl ?_
    refine g_new_longs hC (N := 1) dL_law_17 gArr_long rfl (by decide) ⟨Nat.le_of_ble_eq_true rfl, Nat.le_of_ble_eq_true rfl⟩ (fun _ => ?_)
    refine gB hC _ _ _ _ _ _ _ qL_law_19 rfl ?_
    refine g_new_doubles hC (N := 1) dL_law_21 gArr_double rfl (by decide) ⟨Nat.le_of_ble_eq_true rfl, Nat.le_of_ble_eq_true rfl⟩ (fun _ => ?_)
    refine gB hC _ _ _ _ _ _ _ qL_law_23 rfl ?_
    have hI := iniN_inv.1
    have x2 : XR x9 iniN (fun _ => iniH) 0 (shp S1 z1 (11, 0)) V3 := by
      have g := XR_new (sh := (11, 0)) (V1 := vnew V1 z1 (vdf 11)) hxr hI hz1 (fun a ha => vn_ne _ _ ha)
      exact XR_ag g hI (fun a a0 a1 => hlo a (by omega))
    have x3 : XR x9 iniN (fun _ => iniH) 0 S3 V3 := by
      rw [hS3]
      unfold iniSh
      exact XR_new (XR_new (XR_new (XR_new (XR_new x2 hI (by omega) (fun _ _ => rfl)) hI (by omega) (fun _ _ => rfl)) hI (by omega) (fun _ _ => rfl)) hI (by omega) (fun _ _ => rfl)) hI (by omega) (fun _ _ => rfl)
    have x4 := XR_new (sh := (101, 1)) (V1 := vnew V3 z3 (fun _ => 0)) x3 hI (show x9 + 1141 ≤ z3 by omega) (fun a ha => vn_ne _ _ ha)
    have x5 := XR_new (sh := (102, 1)) (V1 := vnew (vnew V3 z3 (fun _ => 0)) (z3 + 1) (fun _ => 0)) x4 hI (show x9 + 1141 ≤ z3 + 1 by omega) (fun a ha => vn_ne _ _ ha)
    have m4 := gMd_new (sh := (101, 1)) (V1 := vnew V3 z3 (fun _ => 0)) hmd (show z1 + 6 ≤ z3 by omega) (fun a ha => vn_ne _ _ ha)
    have m5 := gMd_new (sh := (102, 1)) (V1 := vnew (vnew V3 z3 (fun _ => 0)) (z3 + 1) (fun _ => 0)) m4 (show z1 + 6 ≤ z3 + 1 by omega) (fun a ha => vn_ne _ _ ha)
    have H : LI x9 z1 z3 (z3 + 1) (shp (shp S3 z3 (101, 1)) (z3 + 1) (102, 1)) (vnew (vnew V3 z3 (fun _ => 0)) (z3 + 1) (fun _ => 0)) iniN (fun _ => iniH) 0 := by
      refine ⟨⟨x5, m5, HB_0 ?_⟩, ⟨iniN_inv.1, iniN_inv.2, fun i i0 i1 => by omega⟩, ?_, shp_eq _ _ _, hx0, hz1, by omega, by omega⟩
      · rw [vn_ne _ _ (by omega), vn_ne _ _ (by omega)]; exact hv2
      · rw [shp_ne _ _ (by omega)]; exact shp_eq _ _ _
    refine g_widen (k' := 1200) (n' := 70000) (Nat.le_of_ble_eq_true rfl) (Nat.le_of_ble_eq_true rfl) ?_
    exact lw_loop hC hE hr hX hb0 hL 513 0 0 _ _ _ _ _ rfl rfl H
  refine key s.heap [] _ (fun a sh ha => by cases ha) rfl va_S.rf rfl (lv_mono (lv_entry ([Value.ref b]) (n := 10) (Nat.le_of_ble_eq_true rfl)) (fun q hq => ?_))
  have e0 : lvl 0 [(2, (b : Int)), (9, 0), (9, 0), (9, 0), (9, 0), (9, 0), (9, 0), (9, 0), (9, 0), (9, 0)] = [(0, cv (2, (b : Int)))] := rfl
  rw [e0, cv_ref (by omega), Int.toNat_natCast] at hq
  exact hq
set_option maxHeartbeats 4000000 in
theorem lw_walk (l : Launch) (hflags : l.flags = flags0) (b : Addr) (xs : List Int32) : MetFree l x (headSpec (Jvm.Cond.code x code maxLocals ret :: tables_1) room_1) (lw_P b xs) (fun _ _ _ _ _ => True) lw_Q := by
  refine MetFree.of_bodyS (code := code) (maxLocals := maxLocals) (ret := ret) (by decide) ?_ ?_
  · intro args s m h hn
    obtain ⟨meth, c, h1, h2, h3, h4, h5, h6, -, -⟩ := Cond.code_spec hn (atoms_spec (ws := Jvm.Cond.code x code maxLocals ret :: tables_1) h _ List.mem_cons_self)
    exact ⟨meth, c, h1, h2, h3, h4, h5, h6⟩
  · intro p e s m args below meth c s₁ B hml0 hP _
    obtain ⟨rfl, hx, hbd, hgv⟩ := hP
    obtain ⟨scr, harrAt, hlist, hof, hsmall⟩ := hx
    obtain ⟨hcb, hkn, -, -⟩ := State.arrayAt?_spec harrAt
    have hown : s.vm.findClass R_law = some m.cls := findClass_of_methodNamed B.named
    have hts0 : ∀ c ∈ (Jvm.Cond.code x code maxLocals ret :: tables_1), c.before #[Value.ref b] s = true := atoms_spec (ws := Jvm.Cond.code x code maxLocals ret :: tables_1) B.pre
    have hts : ∀ w ∈ lw_tbl, w.before #[Value.ref b] s = true := k2_hts_sels lw_privs (fun w hw => hts0 w (List.mem_cons_of_mem _ hw)) lw_privs_ok
    have hml : c.maxLocals = 10 := B.maxLocals_eq (hts0 _ List.mem_cons_self)
    have X₀ : Stand p l e room_1 s m #[Value.ref b] below meth c s₁ [] 0 0 := Stand.of_body B
    have hh0 : s₁.heap = s.heap := by rw [B.state]; rfl
    have hsz : scr.slots.size = xs.length := by rw [← Array.length_toList, hlist, List.length_map]
    have hval : ∀ j : Nat, j < xs.length → scr.slots[j]? = some (.int (xs.getD j 0)) := fun j hj => by
      rw [← Array.getElem?_toList, hlist]
      simp [hj]
    have hbl : b < s.heap.size := (Array.getElem?_eq_some_iff.mp hcb).1
    have hX : va_X b xs.length (fun j => xs.getD j 0) s s.heap := ⟨scr, hcb, hof, hkn, hsz, hval⟩
    have K : W p l e room_1 s m #[Value.ref b] below meth c s₁.heap [] 0 0 (lw_Z below #[Value.ref b] s) (entryFrame m ([Value.ref b] : List Value).toArray 10) := by
      rw [hh0]
      exact whole_start l hflags hbd ⟨B.exec, B.bytes, B.returns, hml, hown, hts, hX, hbl, B.notSynchronized, hgv⟩
    obtain ⟨t, a1, o, b1, b2, b3⟩ := K s₁ rfl X₀
    exact ⟨t, o, a1, b1, b2, b3⟩
theorem lw_pre_spec {args : Array Value} {s : State} (h : (Jvm.Cond.and given_1 narrow_1).before args s = true) (hr : rest_1_c.before args s = true) : ∃ (b : Addr) (xs : List Int32), lw_P b xs args s := by
  have hs := flat_of_before _ h
  have hq := flat_of_before _ hr
  have hc : (Cond.count 1).before args s = true := hs _ (by decide +kernel)
  have harr : (Cond.arrayOf (.arg 0) .int).before args s = true := hs _ (by decide +kernel)
  have hle : (Cond.le (.length (.arg 0)) (.int 3584)).before args s = true := hs _ (by decide +kernel)
  have hlen : (Cond.isInt (.length (.arg 0))).before args s = true := hq _ (by decide +kernel)
  have hall : (Cond.all (.arg 0) (.isInt (.elem (.arg 0) (.index 0)))).before args s = true := hq _ (by decide +kernel)
  obtain ⟨b, xs, hb, hx⟩ := State.ints_of_pre rfl harr hlen hall
  have hsm : xs.length < 2 ^ 31 := hx.choose_spec.2.2.2
  have hev : (Term.length (.arg 0)).eval args s none [] s = some (.int xs.length.toInt32) := hx.length_eval hb
  have hv := Cond.le_ints hev (show (Term.int 3584).eval args s none [] s = some (.int 3584) from rfl)
  have hd : xs.length.toInt32 ≤ 3584 := by
    simpa [Cond.before, Cond.holds, hv] using hle
  have hN : xs.length ≤ 3584 := (Int32.ofNat_le_ofNat hsm (by decide)).mp (show Int32.ofNat xs.length ≤ Int32.ofNat 3584 from hd)
  exact ⟨b, xs, Cond.one_arg hc (show args[0]? = some (.ref b) from hb), hx, hN, h⟩
theorem lw_comes (l : Launch) (hflags : l.flags = flags0) : Comes l x (Jvm.Cond.code x code maxLocals ret :: tables_1) room_1 (fun tb e args s => Calls_1 tb e args s ∧ rest_1 tb e args s ∧ Pre_1 tb e args s)
    (fun _ _ args s o t => lw_Q args s o t) := by
  intro p e ha hc hk s m args below hf hfit hheap happ hpre
  obtain ⟨b, xs, hP⟩ := lw_pre_spec hpre.2.2 hpre.2.1
  obtain ⟨k, o, h1, h2, h3, hQ⟩ := lw_walk l hflags b xs p e ha hc hk s m args below hf ((Spec.applies_iff_loose hf).mp happ).1 hP trivial
  exact ⟨k, o, h1, h2, h3, hQ⟩
theorem lw_frame {s t : State} {o : Outcome} {args : Array Value} (h : State.butDraws s t lw_cs (fun t1 => Framed s o t1 [] 601024 7293033)) :
    State.butDraws s t [Jvm.Choice.named "NaN.bits"] (fun t1 => Framed s o t1 (fieldLocs frame_1_writes args s ++ arrayLocs frame_1_arrays args s ++ staticLocs frame_1_statics s) 601024 7293033) := h
theorem lw_limb (L : Cond) (hL : ∀ (args : Array Value) (s t : State), L.after args s (.returned (some (.int 1))) t = true) :
    ArmFor flags0 classFile x code maxLocals ret World_1 tables_1 room_1 Calls_1 rest_1 Pre_1
      (fun tb e a s o t => postC L tb e a s o t ∧ State.butDraws s t [Jvm.Choice.named "NaN.bits"] (fun t1 => Framed s o t1 (fieldLocs frame_1_writes a s ++ arrayLocs frame_1_arrays a s ++ staticLocs frame_1_statics s) 601024 7293033)) := by
  intro l hflags _ _ p e ha hc hk s m args below hf hfit hheap happ hpre
  obtain ⟨k, o, h1, h2, h3, rfl, hF⟩ := lw_comes l hflags p e ha hc hk s m args below hf hfit hheap happ hpre
  exact ⟨k, _, h1, h2, h3, hL args s _, lw_frame hF⟩
theorem i_vc : Claimed_1_1 ∧ Claimed_1_2 := ⟨lw_limb limb_1_1 (fun args s t => by simp [limb_1_1, Cond.after, Cond.holds, Cond.value]), lw_limb limb_1_2 (fun args s t => Cond.after_iff.mpr (by
  first | (rw [show limb_1_2 = Cond.eq .result (.int 1) from rfl, Cond.eq_ints (x := 1) (y := 1) rfl rfl]; simp; done) | (simp [limb_1_2, Cond.value, Term.eval]; done)))⟩
