/-! methods with handlers: rows; the law's words (laid by wip/whole/gen97.py) -/
/-- a static callee with a table: its words -/
def gYW (y : MethodName) (bytes : ByteArray) (maxL : Nat) (ret : Option FieldType) (hh : List (Nat × Nat × Nat × Nat)) (na : Nat) : Prop :=
  Cond.initialized y.cls ∈ gws ∧ Cond.codeWith y bytes maxL ret hh ∈ gws ∧ (y.cls ≠ "java/lang/invoke/MethodHandle" ∧ y.cls ≠ "java/lang/invoke/VarHandle" ∧ (parseMethodDescriptor y.desc).map (fun d => d.parameters.length) = some na) ∧ Cond.static y ∈ gws
theorem gM_atW {E : gE} {l : Launch} {y : MethodName} {cc : ByteArray} {maxL : Nat} {ret : Option FieldType} {hh : List (Nat × Nat × Nat × Nat)} {rm : Room} {as L0 : List aV} {Sh : gSh} {V : gV} {z : Int} {P : gPo} (hy : plainName y.cls = true) (hL : entL as maxL = L0) (hA : Nat.ble (entA as).length maxL = true)
    (body : ∀ p e s m args below meth c, gC E y.cls cc maxL p l s m args meth c → meth.sig.returnType = ret → c.exceptionTable.toList = tableOf hh → (E.1 : Int) ≤ z →
      gG E maxL p l e rm s m args below meth c (gMQ E P rm below args s) 0 L0 [] Sh V z 0 0) : gM E l y (Cond.codeWith y cc maxL ret hh) rm as Sh V z P := by
  subst hL
  intro hl
  refine vx_ofWH (cc := cc) (maxL := maxL) (ret := ret) (hh := hh) hy rfl ?_
  intro p e s m args below meth c s₁ B hml hv
  obtain ⟨rfl, h1, h2, h3, h4, h5, h6⟩ := hv
  have hts := atoms_spec (ws := Cond.codeWith y cc maxL ret hh :: gws) B.pre
  have hC : gC E y.cls cc maxL p l s m (as.map cv).toArray meth c := ⟨B.exec, B.bytes, hml, findClass_of_methodNamed B.named, fun w hw => hts w (List.mem_cons_of_mem _ hw), B.notSynchronized, h4, h5, h6, h3, hl⟩
  have key := body p e s m _ below meth c hC B.returns (vx_table (x := y) B (hts _ List.mem_cons_self)) (by omega)
  rw [lg_entry_eq]
  have hle : (lg_sl (as.map cv)).length ≤ maxL := by rw [ent_len]; exact Nat.le_of_ble_eq_true hA
  refine key s.heap [] _ h1 h2 va_S.rf ?_ (lv_mono (lv_entry (as.map cv) (n := maxL) hle) ?_)
  · unfold entL; rw [List.length_append, List.length_replicate]; have := Nat.le_of_ble_eq_true hA; omega
  · intro q hq
    unfold entL at hq
    rw [lvl_app, lvl_rep, List.append_nil] at hq
    exact ent_args as 0 q hq
section GKW
variable {E : gE} {own : String} {cc : ByteArray} {nL : Nat} {p : Program} {l : Launch} {e : Env} {R : Room} {s : State} {m : MethodId} {args : Array Value} {below : List Frame} {meth : Method} {c : Code} {Q : State → Prop} {pc : Nat} {L st r : List aV} {Sh : gSh} {V : gV} {z : Int} {k n : Nat}
variable {P : gPo} {rm : Room}
theorem g_callSW (hC : gC E own cc nL p l s m args meth c) {y : MethodName} {bytes : ByteArray} {maxL na idx : Nat} {ret : Option FieldType} {hh : List (Nat × Nat × Nat × Nat)} {as rest : List aV} (st0 : List aV) (hd : decode cc pc = .ok (.invokestatic idx, 3)) (hl : Cond.methodLink own idx y ∈ gws) (hY : gYW y bytes maxL ret hh na)
    (hM : gM E l y (Cond.codeWith y bytes maxL ret hh) rm as Sh V z P) (hst : st0 = as.reverse ++ rest) (hna : as.length = na) (hW : catS rest ≤ 8) (hR : (rm.frames + 1 ≤ R.frames ∧ 8 + (maxL + 11) + rm.locals ≤ R.locals) ∧ (k + rm.cells ≤ R.cells ∧ n + rm.slots ≤ R.slots))
    (kk : ∀ (r : Option aV) (Sh' : gSh) (V' : gV) (z' : Int), P (.inl r) Sh' V' z' → gG E nL p l e R s m args below meth c Q (pc + 3) L (r.toList ++ rest) Sh' V' z' (k + rm.cells) (n + rm.slots))
    (kx : ∀ (X : String) (Sh' : gSh) (V' : gV) (z' : Int), P (.inr X) Sh' V' z' → gT E nL p l e R s m args below meth c Q X pc L rest Sh' V' z' (k + rm.cells) (n + rm.slots)) : gG E nL p l e R s m args below meth c Q pc L st0 Sh V z k n := by
  subst hst
  intro H locs ls h1 h2 h3 h4 h5
  have hG : GoodIn gws (va_wsS own idx y (Cond.codeWith y bytes maxL ret hh :: gws)) := by
    intro w hw
    have hw2 : w ∈ gws := by
      unfold va_wsS at hw
      rcases List.mem_append.mp hw with hw | hw
      · rcases List.mem_cons.mp hw with rfl | hw
        · exact hl
        · rcases List.mem_cons.mp hw with rfl | hw
          · exact hY.2.2.2
          · rcases List.mem_cons.mp hw with rfl | hw
            · exact hY.1
            · cases hw
      · rcases List.mem_cons.mp hw with rfl | hw
        · exact hY.2.1
        · exact hw
    exact ⟨hw2, gws_good _ hw2⟩
  refine g_behind (vx_runSX ⟨hC.1, hC.2.1, hC.2.2.1, hC.2.2.2.1, hC.2.2.2.2.1⟩ (hM hC.2.2.2.2.2.2.2.2.2.2) (vx_cwSW na hC.2.2.2.2.1 hG rfl rfl rfl hY.2.2.1 hR.1) ⟨gX_blind _ _ _ _ _, fun U hU hWU => g_pre (as := as) hC h1 h2 h3 U hU hWU⟩ rfl (As := as.map cv) (by rw [List.length_map]; exact hna) h5.1 ?_ ?_ hd hR.2) h3 h4 h5 kk kx
  · show _ = (as.map cv).reverse ++ rest.map cv
    rw [List.map_append, List.map_reverse]
  · show 2 * 0 + _ ≤ 8
    rw [catS_ok]; omega
/-- it is caught -/
theorem g_catch (hC : gC E own cc nL p l s m args meth c) {X : String} (pre : List ExceptionTableEntry) (x : ExceptionTableEntry) (suf : List ExceptionTableEntry) (hsplit : c.exceptionTable.toList = pre ++ x :: suf)
    (hpass : ∀ w ∈ pre, covers w pc = false ∨ (w.catchType ≠ 0 ∧ ∃ nm : String, Cond.classLink own w.catchType nm ∈ gws ∧ X ∈ [gxI, gxA, gxS] ∧ nm ∈ [gxI, gxA, gxS] ∧ X ≠ nm)) (hx : covers x pc = true) (h0 : x.catchType ≠ 0)
    (hlink : Cond.classLink own x.catchType X ∈ gws) (hX : X ∈ [gxI, gxA, gxS]) (kk : ∀ q : Int, 0 ≤ q → gG E nL p l e R s m args below meth c Q x.handlerPc L [(2, q)] Sh V z k n) : gT E nL p l e R s m args below meth c Q X pc L st Sh V z k n := by
  intro H locs ls q ce h1 h2 h3 h4 h5 h6 h7 h8
  refine vx_catch hC.2.2.2.1 pre x suf hsplit (fun w hw => ?_) hx h0 (hC.2.2.2.2.1 _ hlink) (va_Nw.use (A := args) rfl (hC.2.2.2.2.2.2.2.1.2.2.1 X hX)) h6 h7 h8 ?_
  · rcases hpass w hw with h | ⟨g1, nm, g2, g3, g4, g5⟩
    · exact Or.inl h
    · exact Or.inr ⟨g1, nm, hC.2.2.2.2.1 _ g2, hC.2.2.2.2.2.2.2.1.2.2.2.2.1 X g3 nm g4 g5⟩
  · have := kk (q : Int) (by omega) H locs ls h1 h2 h3 h4 h5
    rw [show ([((2 : Nat), (q : Int))] : List aV).map cv = [Value.ref q] by rw [List.map_cons, List.map_nil, cv_ref (by omega)]; rfl] at this
    exact this
end GKW
theorem lL_13 : Cond.classLink RL 13 "java/lang/IllegalArgumentException" ∈ gws := gm 570 (by decide +kernel) rfl
theorem lL_15 : Cond.classLink RL 15 "java/lang/IllegalStateException" ∈ gws := gm 571 (by decide +kernel) rfl
theorem lL_21 : Cond.classLink RL 21 "java/lang/IndexOutOfBoundsException" ∈ gws := gm 680 (by decide +kernel) rfl
theorem wL_addDays : gYW yL_addDays cL_addDays 5 (some .int) [(0, 10, 13, 13)] 4 := ⟨gm 56 (by decide +kernel) rfl, gm 1031 (by decide +kernel) rfl, ⟨by decide, by decide, by decide +kernel⟩, gm 1030 (by decide +kernel) rfl⟩
theorem wL_addKind : gYW yL_addKind cL_addKind 5 (some .int) [(0, 10, 13, 13), (0, 10, 17, 15)] 4 := ⟨gm 56 (by decide +kernel) rfl, gm 569 (by decide +kernel) rfl, ⟨by decide, by decide, by decide +kernel⟩, gm 568 (by decide +kernel) rfl⟩
theorem wL_addSeason : gYW yL_addSeason cL_addSeason 7 (some .int) [(0, 14, 17, 13), (0, 14, 21, 15)] 6 := ⟨gm 56 (by decide +kernel) rfl, gm 787 (by decide +kernel) rfl, ⟨by decide, by decide, by decide +kernel⟩, gm 786 (by decide +kernel) rfl⟩
theorem wL_ask : gYW yL_ask cL_ask 9 (some .int) [(0, 18, 21, 21), (0, 18, 25, 13), (0, 18, 29, 15)] 8 := ⟨gm 56 (by decide +kernel) rfl, gm 811 (by decide +kernel) rfl, ⟨by decide, by decide, by decide +kernel⟩, gm 810 (by decide +kernel) rfl⟩
theorem wL_awaited : gYW yL_awaited cL_awaited 5 (some .int) [(0, 9, 12, 13)] 4 := ⟨gm 56 (by decide +kernel) rfl, gm 1105 (by decide +kernel) rfl, ⟨by decide, by decide, by decide +kernel⟩, gm 1104 (by decide +kernel) rfl⟩
theorem wL_book : gYW yL_book cL_book 4 (some .int) [(0, 8, 11, 21)] 3 := ⟨gm 56 (by decide +kernel) rfl, gm 1098 (by decide +kernel) rfl, ⟨by decide, by decide, by decide +kernel⟩, gm 1097 (by decide +kernel) rfl⟩
theorem wL_cancel : gYW yL_cancel cL_cancel 4 (some .int) [(0, 9, 12, 21), (0, 9, 15, 15)] 3 := ⟨gm 56 (by decide +kernel) rfl, gm 886 (by decide +kernel) rfl, ⟨by decide, by decide, by decide +kernel⟩, gm 885 (by decide +kernel) rfl⟩
theorem wL_closeNight : gYW yL_closeNight cL_closeNight 6 (some .int) [(0, 12, 15, 21), (0, 12, 19, 13)] 5 := ⟨gm 56 (by decide +kernel) rfl, gm 679 (by decide +kernel) rfl, ⟨by decide, by decide, by decide +kernel⟩, gm 678 (by decide +kernel) rfl⟩
theorem wL_count : gYW yL_count cL_count 5 (some .int) [(0, 10, 13, 21), (0, 10, 17, 13)] 4 := ⟨gm 56 (by decide +kernel) rfl, gm 1039 (by decide +kernel) rfl, ⟨by decide, by decide, by decide +kernel⟩, gm 1038 (by decide +kernel) rfl⟩
theorem wL_dayOfWeek : gYW yL_dayOfWeek cL_dayOfWeek 4 (some .int) [(0, 9, 12, 13)] 3 := ⟨gm 56 (by decide +kernel) rfl, gm 1023 (by decide +kernel) rfl, ⟨by decide, by decide, by decide +kernel⟩, gm 1022 (by decide +kernel) rfl⟩
theorem wL_greatest : gYW yL_greatest cL_greatest 6 (some .int) [(0, 12, 15, 21), (0, 12, 19, 13)] 5 := ⟨gm 56 (by decide +kernel) rfl, gm 1047 (by decide +kernel) rfl, ⟨by decide, by decide, by decide +kernel⟩, gm 1046 (by decide +kernel) rfl⟩
theorem wL_group : gYW yL_group cL_group 8 (some .int) [(0, 16, 19, 21), (0, 16, 23, 13), (0, 16, 27, 15)] 7 := ⟨gm 56 (by decide +kernel) rfl, gm 837 (by decide +kernel) rfl, ⟨by decide, by decide, by decide +kernel⟩, gm 836 (by decide +kernel) rfl⟩
theorem wL_letGo : gYW yL_letGo cL_letGo 4 (some .int) [(0, 9, 12, 21)] 3 := ⟨gm 56 (by decide +kernel) rfl, gm 849 (by decide +kernel) rfl, ⟨by decide, by decide, by decide +kernel⟩, gm 848 (by decide +kernel) rfl⟩
theorem wL_limit : gYW yL_limit cL_limit 5 (some .int) [(0, 10, 13, 13)] 4 := ⟨gm 56 (by decide +kernel) rfl, gm 1113 (by decide +kernel) rfl, ⟨by decide, by decide, by decide +kernel⟩, gm 1112 (by decide +kernel) rfl⟩
theorem wL_longer : gYW yL_longer cL_longer 5 (some .int) [(0, 10, 13, 21), (0, 10, 17, 13), (0, 10, 21, 15)] 4 := ⟨gm 56 (by decide +kernel) rfl, gm 905 (by decide +kernel) rfl, ⟨by decide, by decide, by decide +kernel⟩, gm 904 (by decide +kernel) rfl⟩
theorem wL_minutes : gYW yL_minutes cL_minutes 4 (some .int) [(0, 9, 12, 13)] 3 := ⟨gm 56 (by decide +kernel) rfl, gm 1150 (by decide +kernel) rfl, ⟨by decide, by decide, by decide +kernel⟩, gm 1149 (by decide +kernel) rfl⟩
theorem wL_monthIncome : gYW yL_monthIncome cL_monthIncome 4 (some .int) [(0, 8, 11, 13)] 3 := ⟨gm 56 (by decide +kernel) rfl, gm 1201 (by decide +kernel) rfl, ⟨by decide, by decide, by decide +kernel⟩, gm 1200 (by decide +kernel) rfl⟩
theorem wL_monthNights : gYW yL_monthNights cL_monthNights 4 (some .int) [(0, 9, 12, 13)] 3 := ⟨gm 56 (by decide +kernel) rfl, gm 1173 (by decide +kernel) rfl, ⟨by decide, by decide, by decide +kernel⟩, gm 1172 (by decide +kernel) rfl⟩
theorem wL_moreToSell : gYW yL_moreToSell cL_moreToSell 6 (some .int) [(0, 12, 15, 21), (0, 12, 19, 13)] 5 := ⟨gm 56 (by decide +kernel) rfl, gm 1135 (by decide +kernel) rfl, ⟨by decide, by decide, by decide +kernel⟩, gm 1134 (by decide +kernel) rfl⟩
theorem wL_needed : gYW yL_needed cL_needed 4 (some .int) [(0, 9, 12, 21)] 3 := ⟨gm 56 (by decide +kernel) rfl, gm 1055 (by decide +kernel) rfl, ⟨by decide, by decide, by decide +kernel⟩, gm 1054 (by decide +kernel) rfl⟩
theorem wL_offer : gYW yL_offer cL_offer 4 (some .int) [(0, 9, 12, 13), (0, 9, 15, 15)] 3 := ⟨gm 56 (by decide +kernel) rfl, gm 1007 (by decide +kernel) rfl, ⟨by decide, by decide, by decide +kernel⟩, gm 1006 (by decide +kernel) rfl⟩
theorem wL_passes : gYW yL_passes cL_passes 4 (some .int) [(0, 9, 12, 13)] 3 := ⟨gm 56 (by decide +kernel) rfl, gm 928 (by decide +kernel) rfl, ⟨by decide, by decide, by decide +kernel⟩, gm 927 (by decide +kernel) rfl⟩
theorem wL_pay : gYW yL_pay cL_pay 4 (some .int) [(0, 9, 12, 21), (0, 9, 15, 15)] 3 := ⟨gm 56 (by decide +kernel) rfl, gm 871 (by decide +kernel) rfl, ⟨by decide, by decide, by decide +kernel⟩, gm 870 (by decide +kernel) rfl⟩
theorem wL_priceOf : gYW yL_priceOf cL_priceOf 5 (some .int) [(0, 10, 13, 21), (0, 10, 17, 13)] 4 := ⟨gm 56 (by decide +kernel) rfl, gm 1082 (by decide +kernel) rfl, ⟨by decide, by decide, by decide +kernel⟩, gm 1081 (by decide +kernel) rfl⟩
theorem wL_refund : gYW yL_refund cL_refund 4 (some .int) [(0, 9, 12, 21)] 3 := ⟨gm 56 (by decide +kernel) rfl, gm 1090 (by decide +kernel) rfl, ⟨by decide, by decide, by decide +kernel⟩, gm 1089 (by decide +kernel) rfl⟩
theorem wL_roomOf : gYW yL_roomOf cL_roomOf 4 (some .int) [(0, 9, 12, 21), (0, 9, 15, 15)] 3 := ⟨gm 56 (by decide +kernel) rfl, gm 1075 (by decide +kernel) rfl, ⟨by decide, by decide, by decide +kernel⟩, gm 1074 (by decide +kernel) rfl⟩
theorem wL_rounds : gYW yL_rounds cL_rounds 4 (some .int) [(0, 9, 12, 13)] 3 := ⟨gm 56 (by decide +kernel) rfl, gm 1162 (by decide +kernel) rfl, ⟨by decide, by decide, by decide +kernel⟩, gm 1161 (by decide +kernel) rfl⟩
theorem wL_saleAt : gYW yL_saleAt cL_saleAt 4 (some .int) [(0, 9, 12, 13), (0, 9, 15, 15)] 3 := ⟨gm 56 (by decide +kernel) rfl, gm 1120 (by decide +kernel) rfl, ⟨by decide, by decide, by decide +kernel⟩, gm 1119 (by decide +kernel) rfl⟩
theorem wL_sell : gYW yL_sell cL_sell 5 (some .int) [(0, 10, 13, 13)] 4 := ⟨gm 56 (by decide +kernel) rfl, gm 976 (by decide +kernel) rfl, ⟨by decide, by decide, by decide +kernel⟩, gm 975 (by decide +kernel) rfl⟩
theorem wL_setExtra : gYW yL_setExtra cL_setExtra 5 (some .int) [(0, 10, 13, 21), (0, 10, 17, 13)] 4 := ⟨gm 56 (by decide +kernel) rfl, gm 780 (by decide +kernel) rfl, ⟨by decide, by decide, by decide +kernel⟩, gm 779 (by decide +kernel) rfl⟩
theorem wL_setOdds : gYW yL_setOdds cL_setOdds 6 (some .int) [(0, 12, 15, 21), (0, 12, 19, 13)] 5 := ⟨gm 56 (by decide +kernel) rfl, gm 965 (by decide +kernel) rfl, ⟨by decide, by decide, by decide +kernel⟩, gm 964 (by decide +kernel) rfl⟩
theorem wL_setWeekend : gYW yL_setWeekend cL_setWeekend 5 (some .int) [(0, 10, 13, 13)] 4 := ⟨gm 56 (by decide +kernel) rfl, gm 804 (by decide +kernel) rfl, ⟨by decide, by decide, by decide +kernel⟩, gm 803 (by decide +kernel) rfl⟩
theorem wL_share : gYW yL_share cL_share 5 (some .int) [(0, 10, 13, 21), (0, 10, 17, 13)] 4 := ⟨gm 56 (by decide +kernel) rfl, gm 1216 (by decide +kernel) rfl, ⟨by decide, by decide, by decide +kernel⟩, gm 1215 (by decide +kernel) rfl⟩
theorem wL_shorter : gYW yL_shorter cL_shorter 5 (some .int) [(0, 10, 13, 21), (0, 10, 17, 13), (0, 10, 21, 15)] 4 := ⟨gm 56 (by decide +kernel) rfl, gm 917 (by decide +kernel) rfl, ⟨by decide, by decide, by decide +kernel⟩, gm 916 (by decide +kernel) rfl⟩
theorem wL_stayAt : gYW yL_stayAt cL_stayAt 5 (some .int) [(0, 10, 13, 21), (0, 10, 17, 13)] 4 := ⟨gm 56 (by decide +kernel) rfl, gm 1062 (by decide +kernel) rfl, ⟨by decide, by decide, by decide +kernel⟩, gm 1061 (by decide +kernel) rfl⟩
theorem wL_waitFor : gYW yL_waitFor cL_waitFor 8 (some .int) [(0, 16, 19, 21), (0, 16, 23, 13), (0, 16, 27, 15)] 7 := ⟨gm 56 (by decide +kernel) rfl, gm 860 (by decide +kernel) rfl, ⟨by decide, by decide, by decide +kernel⟩, gm 859 (by decide +kernel) rfl⟩
