/-! the law's walk; the claim (laid by wip/p47/l29.py; what stands behind whole_start began as the kit's skeleton) -/
theorem kX12_init9 {E l Sh V z} {a9 b9 : Int} (hb : b9 = ((E.2.2 20 : Nat) : Int)) (hs9 : Sh a9 = some (11, 0)) (h0 : 0 ≤ a9) : gM E l yX12_init (.code yX12_init cX12_init 6 none) (rmk 1 0 0 30) [(2, a9), (2, b9)] Sh V z (gDi a9 z Sh V) := by
  subst hb; exact kX12_init hs9 h0
theorem whole_start {p : Program} {e : Env} {s : State} {m : MethodId} {below : List Frame} {meth : Method} {c : Code} (l : Launch) (hflags : l.flags = flags0) {b L : Nat} {xs : Nat → Int32} (hL : L ≤ 260) (C0 : lw_At p s m meth c b L xs) : W p l e room_1 s m #[Value.ref b] below meth c s.heap [] 0 0 (lw_Z below #[Value.ref b] s) (entryFrame m ([Value.ref b] : List Value).toArray 2) := by
  have hr := C0.2.2.1
  have hb0 := C0.2.2.2.2.2.2.2.1
  obtain ⟨E, hE, h20, hC⟩ := st_C l hflags hL C0
  rw [lg_entry_eq]
  have key : gG E 2 p l e room_1 s m #[Value.ref b] below meth c (lw_Z below #[Value.ref b] s) 0 [(2, (b : Int)), (9, 0)] [] (fun _ => none) (fun _ _ => 0) (s.heap.size : Int) 0 0 := by
    generalize hz : (s.heap.size : Int) = q
    have hx0 : 0 ≤ q := by omega
    refine g_new (ci := 12) hC dL_law_0 lL_11 nLL zLL (by decide) ⟨_, rfl, rfl, rfl⟩ ⟨Nat.le_of_ble_eq_true rfl, Nat.le_of_ble_eq_true rfl⟩ (fun _ => ?_)
    refine gB hC _ _ _ _ _ _ _ qL_law_3 rfl ?_
    refine g_new (ci := 11) hC dL_law_4 lL_148 nX12 zX12 (by decide) ⟨_, rfl, rfl, rfl⟩ ⟨Nat.le_of_ble_eq_true rfl, Nat.le_of_ble_eq_true rfl⟩ (fun _ => ?_)
    refine gB hC _ _ _ _ _ _ _ qL_law_7 rfl ?_
    refine g_callI hC _ dL_law_9 mL_294 iX12_init (kX12_init9 (by rw [h20]) (shp_eq _ _ _) (by omega)) rfl (by omega) rfl (Nat.le_of_ble_eq_true rfl) ⟨⟨Nat.le_of_ble_eq_true rfl, Nat.le_of_ble_eq_true rfl⟩, Nat.le_of_ble_eq_true rfl, Nat.le_of_ble_eq_true rfl⟩ (fun r0 S1 V1 z1 h => ?_) (fun X S1 V1 z1 h => nomatch h.1)
    obtain ⟨h1, hS1, hV1, hz1⟩ := h
    cases h1
    subst hS1
    subst hz1
    have eq9 : V1 q = vdf 12 := (hV1 q (by omega)).trans ((vn_ne _ _ (by omega)).trans (vn_eq _ _ _))
    refine g_callI hC _ dL_law_12 mL_297 iL_init (kL_init (q := q) (by omega) hx0 ((shp_ne _ _ (by omega)).trans (shp_eq _ _ _)) (shp_eq _ _ _) ⟨by rw [eq9]; rfl, by rw [eq9]; rfl, by rw [eq9]; rfl, by rw [eq9]; rfl, by rw [eq9]; rfl, by rw [eq9]; rfl, by rw [eq9]; rfl, by rw [eq9]; rfl⟩) rfl hx0 rfl (Nat.le_of_ble_eq_true rfl) ⟨⟨Nat.le_of_ble_eq_true rfl, Nat.le_of_ble_eq_true rfl⟩, Nat.le_of_ble_eq_true rfl, Nat.le_of_ble_eq_true rfl⟩ (fun r0 S2 V2 z2 h => ?_) (fun X S2 V2 z2 h => nomatch h.1)
    obtain ⟨h1, w, hx2, hL2, h202⟩ := h
    cases h1
    refine gB hC _ _ _ _ _ _ _ qL_law_15 rfl ?_
    refine g_act hC dL_law_17 mL_300 vL_begins (kL_begins rfl hx2 hL2 h202) rfl hL2.sL (by decide) rfl (Nat.le_of_ble_eq_true rfl) ⟨⟨Nat.le_of_ble_eq_true rfl, Nat.le_of_ble_eq_true rfl⟩, Nat.le_of_ble_eq_true rfl, Nat.le_of_ble_eq_true rfl⟩ (fun z3 S3 V3 N3 P3 c3 hI3 hx3 hL3 hW3 => ?_)
    refine g_if_eq hC 41 dL_law_20 rfl (by omega) (fun c20 => ?_) (fun c20 => ?_)
    · exact absurd c20 (by decide)
    refine gB hC _ _ _ _ _ _ _ qL_law_23 rfl ?_
    refine g_act hC dL_law_24 mL_303 vL_goesOn (kL_goesOn hI3 hx3 hL3 hW3) rfl hL3.sL (by decide) rfl (Nat.le_of_ble_eq_true rfl) ⟨⟨Nat.le_of_ble_eq_true rfl, Nat.le_of_ble_eq_true rfl⟩, Nat.le_of_ble_eq_true rfl, Nat.le_of_ble_eq_true rfl⟩ (fun z4 S4 V4 N4 P4 c4 hI4 hx4 hL4 hW4 => ?_)
    refine g_if_eq hC 41 dL_law_27 rfl (by omega) (fun c27 => ?_) (fun c27 => ?_)
    · exact absurd c27 (by decide)
    refine gB hC _ _ _ _ _ _ _ qL_law_30 rfl ?_
    refine g_one hC dL_law_31 mL_306 vL_areOffers (kL_areOffers hI4 hx4 hL4) rfl hL4.sL (by decide) rfl (Nat.le_of_ble_eq_true rfl) ⟨⟨Nat.le_of_ble_eq_true rfl, Nat.le_of_ble_eq_true rfl⟩, Nat.le_of_ble_eq_true rfl, Nat.le_of_ble_eq_true rfl⟩ (fun z5 S5 V5 => ?_)
    refine g_if_eq hC 41 dL_law_34 rfl (by omega) (fun c34 => ?_) (fun c34 => ?_)
    · exact absurd c34 (by decide)
    refine gB hC _ _ _ _ _ _ _ qL_law_37 rfl ?_
    exact g_lawEnd hC hE hr dL_law_42 (Nat.le_of_ble_eq_true rfl) (Nat.le_of_ble_eq_true rfl)
  refine key s.heap [] _ (fun a sh ha => by cases ha) rfl va_S.rf rfl (lv_mono (lv_entry ([Value.ref b]) (n := 2) (Nat.le_of_ble_eq_true rfl)) (fun q hq => ?_))
  have e0 : lvl 0 [(2, (b : Int)), (9, 0)] = [(0, cv (2, (b : Int)))] := rfl
  rw [e0, cv_ref (by omega), Int.toNat_natCast] at hq
  exact hq
set_option maxHeartbeats 4000000 in
theorem lw_walk (l : Launch) (hflags : l.flags = flags0) (b : Addr) (xs : List Int32) : MetFree l x (headSpec (Jvm.Cond.code x code maxLocals ret :: tables_1) room_1) (lw_P b xs) (fun _ _ _ _ _ => True) lw_Q := by
  refine MetFree.of_bodyS (code := code) (maxLocals := maxLocals) (ret := ret) (by decide) ?_ ?_
  · intro args s m h hn
    obtain ⟨meth, c, h1, h2, h3, h4, h5, h6, -, -⟩ := Cond.code_spec hn (atoms_spec (ws := Jvm.Cond.code x code maxLocals ret :: tables_1) h _ List.mem_cons_self)
    exact ⟨meth, c, h1, h2, h3, h4, h5, h6⟩
  · intro p e s m args below meth c s₁ B hml0 hP _
    obtain ⟨rfl, hx, hbd, hgv⟩ := hP
    obtain ⟨scr, harrAt, hlist, hof, hsmall⟩ := hx
    obtain ⟨hcb, hkn, -, -⟩ := State.arrayAt?_spec harrAt
    have hown : s.vm.findClass R_law = some m.cls := findClass_of_methodNamed B.named
    have hts0 : ∀ c ∈ (Jvm.Cond.code x code maxLocals ret :: tables_1), c.before #[Value.ref b] s = true := atoms_spec (ws := Jvm.Cond.code x code maxLocals ret :: tables_1) B.pre
    have hts : ∀ w ∈ lw_tbl, w.before #[Value.ref b] s = true := k2_hts_sels lw_privs (fun w hw => hts0 w (List.mem_cons_of_mem _ hw)) lw_privs_ok
    have hml : c.maxLocals = 2 := B.maxLocals_eq (hts0 _ List.mem_cons_self)
    have X₀ : Stand p l e room_1 s m #[Value.ref b] below meth c s₁ [] 0 0 := Stand.of_body B
    have hh0 : s₁.heap = s.heap := by rw [B.state]; rfl
    have hsz : scr.slots.size = xs.length := by rw [← Array.length_toList, hlist, List.length_map]
    have hval : ∀ j : Nat, j < xs.length → scr.slots[j]? = some (.int (xs.getD j 0)) := fun j hj => by
      rw [← Array.getElem?_toList, hlist]
      simp [hj]
    have hbl : b < s.heap.size := (Array.getElem?_eq_some_iff.mp hcb).1
    have hX : va_X b xs.length (fun j => xs.getD j 0) s s.heap := ⟨scr, hcb, hof, hkn, hsz, hval⟩
    have K : W p l e room_1 s m #[Value.ref b] below meth c s₁.heap [] 0 0 (lw_Z below #[Value.ref b] s) (entryFrame m ([Value.ref b] : List Value).toArray 2) := by
      rw [hh0]
      exact whole_start l hflags hbd ⟨B.exec, B.bytes, B.returns, hml, hown, hts, hX, hbl, B.notSynchronized, hgv⟩
    obtain ⟨t, a1, o, b1, b2, b3⟩ := K s₁ rfl X₀
    exact ⟨t, o, a1, b1, b2, b3⟩
theorem lw_pre_spec {args : Array Value} {s : State} (h : (Jvm.Cond.and given_1 narrow_1).before args s = true) (hr : rest_1_c.before args s = true) : ∃ (b : Addr) (xs : List Int32), lw_P b xs args s := by
  have hs := flat_of_before _ h
  have hq := flat_of_before _ hr
  have hc : (Cond.count 1).before args s = true := hs _ (by decide +kernel)
  have harr : (Cond.arrayOf (.arg 0) .int).before args s = true := hs _ (by decide +kernel)
  have hle : (Cond.le (.length (.arg 0)) (.int 260)).before args s = true := hs _ (by decide +kernel)
  have hlen : (Cond.isInt (.length (.arg 0))).before args s = true := hq _ (by decide +kernel)
  have hall : (Cond.all (.arg 0) (.isInt (.elem (.arg 0) (.index 0)))).before args s = true := hq _ (by decide +kernel)
  obtain ⟨b, xs, hb, hx⟩ := State.ints_of_pre rfl harr hlen hall
  have hsm : xs.length < 2 ^ 31 := hx.choose_spec.2.2.2
  have hev : (Term.length (.arg 0)).eval args s none [] s = some (.int xs.length.toInt32) := hx.length_eval hb
  have hv := Cond.le_ints hev (show (Term.int 260).eval args s none [] s = some (.int 260) from rfl)
  have hd : xs.length.toInt32 ≤ 260 := by
    simpa [Cond.before, Cond.holds, hv] using hle
  have hN : xs.length ≤ 260 := (Int32.ofNat_le_ofNat hsm (by decide)).mp (show Int32.ofNat xs.length ≤ Int32.ofNat 260 from hd)
  exact ⟨b, xs, Cond.one_arg hc (show args[0]? = some (.ref b) from hb), hx, hN, h⟩
theorem lw_comes (l : Launch) (hflags : l.flags = flags0) : Comes l x (Jvm.Cond.code x code maxLocals ret :: tables_1) room_1 (fun tb e args s => Calls_1 tb e args s ∧ rest_1 tb e args s ∧ Pre_1 tb e args s)
    (fun _ _ args s o t => lw_Q args s o t) := by
  intro p e ha hc hk s m args below hf hfit hheap happ hpre
  obtain ⟨b, xs, hP⟩ := lw_pre_spec hpre.2.2 hpre.2.1
  obtain ⟨k, o, h1, h2, h3, hQ⟩ := lw_walk l hflags b xs p e ha hc hk s m args below hf ((Spec.applies_iff_loose hf).mp happ).1 hP trivial
  exact ⟨k, o, h1, h2, h3, hQ⟩
theorem lw_frame {s t : State} {o : Outcome} {args : Array Value} (h : Framed s o t [] 600074 7301550) :
    Framed s o t (fieldLocs frame_1_writes args s ++ arrayLocs frame_1_arrays args s ++ staticLocs frame_1_statics s) 600074 7301550 := h
theorem lw_limb (L : Cond) (hL : ∀ (args : Array Value) (s t : State), L.after args s (.returned (some (.int 1))) t = true) :
    ArmFor flags0 classFile x code maxLocals ret World_1 tables_1 room_1 Calls_1 rest_1 Pre_1
      (fun tb e a s o t => postC L tb e a s o t ∧ Framed s o t (fieldLocs frame_1_writes a s ++ arrayLocs frame_1_arrays a s ++ staticLocs frame_1_statics s) 600074 7301550) := by
  intro l hflags _ _ p e ha hc hk s m args below hf hfit hheap happ hpre
  obtain ⟨k, o, h1, h2, h3, rfl, hF⟩ := lw_comes l hflags p e ha hc hk s m args below hf hfit hheap happ hpre
  exact ⟨k, _, h1, h2, h3, hL args s _, lw_frame hF⟩
theorem i_vc : Claimed_1_1 ∧ Claimed_1_2 := ⟨lw_limb limb_1_1 (fun args s t => by simp [limb_1_1, Cond.after, Cond.holds, Cond.value]), lw_limb limb_1_2 (fun args s t => Cond.after_iff.mpr (by
  first | (rw [show limb_1_2 = Cond.eq .result (.int 1) from rfl, Cond.eq_ints (x := 1) (y := 1) rfl rfl]; simp; done) | (simp [limb_1_2, Cond.value, Term.eval]; done)))⟩
