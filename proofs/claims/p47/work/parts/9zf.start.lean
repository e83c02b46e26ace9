/-! the law's start: what the tables give (laid by wip/p47/l29.py) -/
theorem gA_arr {s : State} {args : Array Value} {ty : FieldType} (h : (Cond.arrayClass ty).before args s = true) (hp : ∀ C : String, ty ≠ .object C) : ∃ cA : ClassId, ArrOfT s cA ty ∧ va_RA s cA ty := by
  obtain ⟨cA, kA, comp, h1, h2, h3⟩ := Cond.arrayClass_spec h
  refine ⟨cA, fun n z => ⟨fun k h => (by cases h), kA, h2, comp, h3⟩, ?_⟩
  cases ty with
  | object C => exact absurd rfl (hp C)
  | _ => exact h1
theorem gA_obj {s : State} {args : Array Value} {C : String} (h : (Cond.arrayOver (.object C)).before args s = true) : ∃ cA : ClassId, ArrOfT s cA (.object C) ∧ va_RA s cA (.object C) := by
  obtain ⟨comp, cA, kA, h1, h2, h3, h4, h5⟩ := Cond.arrayOver_spec h
  exact ⟨cA, fun n z => ⟨fun k h => (by cases h), kA, h3, comp, h4⟩, kA, comp, h3, h4, h1, h5⟩
theorem gA_arr2 {s : State} {args : Array Value} {ty : FieldType} (h : (Cond.arrayOver (.array ty)).before args s = true) : ∃ cA : ClassId, ArrOfT s cA (.array ty) ∧ va_RA s cA (.array ty) := by
  obtain ⟨comp, cA, kA, h1, -, h2, h3, h4⟩ := gA2_spec h
  exact ⟨cA, fun n z => ⟨fun k h => (by cases h), kA, h2, comp, h3⟩, h4⟩
theorem gA_RR {s : State} {args : Array Value} {ty : FieldType} (h : (Cond.arrayOver (.array ty)).before args s = true) (h0 : (Cond.arrayClass ty).before args s = true) : gRR ty s := by
  obtain ⟨comp, cA, kA, h1, -, h2, h3, h4⟩ := gA2_spec h
  obtain ⟨c0, k0, cc, g1, g2, g3⟩ := Cond.arrayClass_spec h0
  have h1 : s.vm.findClass ("[" ++ ty.toString) = some comp := h1
  have e : c0 = comp := Option.some.inj (g1.symm.trans h1)
  subst e
  exact ⟨h, c0, cA, cc, kA, k0, h1, h4, h2, h3, g2, g3⟩
section GST
variable {s : State} {b0 : Nat}
theorem st_words (hts : ∀ w ∈ lw_tbl, w.before #[Value.ref b0] s = true) : ∀ w ∈ gws, w.before #[Value.ref b0] s = true := fun w hw => hts w (List.mem_filter.mp hw).1
theorem st_K (hts : ∀ w ∈ lw_tbl, w.before #[Value.ref b0] s = true) : ∃ (D : va_G) (cA : Nat → ClassId), va_K D vwCl (gtys cA) s ∧ cA 20 = b0 := by
  have hg := st_words hts
  have hc : ∀ k : Nat, ∃ q : ClassId × (Nat → Nat), ∀ r : vw_C, vwCl[k]? = some r → u_Kn s r.1 r.2.1 r.2.2 q.1 q.2 := by
    intro k
    cases hk : vwCl[k]? with
    | none => exact ⟨((0 : Nat), fun _ => 0), fun r h => by cases h⟩
    | some r =>
      have hw := (gcf k r hk).1
      have hi : (Cond.instantiable r.1 r.2.2).before #[Value.ref b0] s = true := by
        match k, hk with
        | 0, hk => cases hk; exact hg _ nX1
        | 1, hk => cases hk; exact hg _ nX2
        | 2, hk => cases hk; exact hg _ nX3
        | 3, hk => cases hk; exact hg _ nX4
        | 4, hk => cases hk; exact hg _ nX5
        | 5, hk => cases hk; exact hg _ nX6
        | 6, hk => cases hk; exact hg _ nX7
        | 7, hk => cases hk; exact hg _ nX8
        | 8, hk => cases hk; exact hg _ nX9
        | 9, hk => cases hk; exact hg _ nX10
        | 10, hk => cases hk; exact hg _ nX11
        | 11, hk => cases hk; exact hg _ nX12
        | 12, hk => cases hk; exact hg _ nLL
        | k + 13, hk => simp [vwCl] at hk
      obtain ⟨cC, iS, h⟩ := u_known (C := r.1) (T := r.2.1) (N := r.2.2) hg hw hi
      exact ⟨(cC, iS), fun r' h' => by cases h'; exact h⟩
  have ha : ∀ j : Nat, ∃ cA : ClassId, (j < 10 → ArrOfT s cA (eTy j) ∧ va_RA s cA (eTy j)) ∧ (j = 20 → cA = b0) := by
    intro j
    match j with
    | 0 => obtain ⟨c, h⟩ := gA_arr (hg _ gArr_int) (fun C q => by cases q); exact ⟨c, fun _ => h, fun q => absurd q (by decide)⟩
    | 1 => obtain ⟨c, h⟩ := gA_arr (hg _ gArr_long) (fun C q => by cases q); exact ⟨c, fun _ => h, fun q => absurd q (by decide)⟩
    | 2 => obtain ⟨c, h⟩ := gA_arr (hg _ gArr_boolean) (fun C q => by cases q); exact ⟨c, fun _ => h, fun q => absurd q (by decide)⟩
    | 3 => obtain ⟨c, h⟩ := gA_obj (C := "HotelNights$Hotel") (hts _ (List.mem_of_getElem? (i := 374) (by decide +kernel))); exact ⟨c, fun _ => h, fun q => absurd q (by decide)⟩
    | 4 => obtain ⟨c, h⟩ := gA_obj (C := "HotelNights$Kind") (hts _ (List.mem_of_getElem? (i := 99) (by decide +kernel))); exact ⟨c, fun _ => h, fun q => absurd q (by decide)⟩
    | 5 => obtain ⟨c, h⟩ := gA_obj (C := "HotelNights$Season") (hts _ (List.mem_of_getElem? (i := 101) (by decide +kernel))); exact ⟨c, fun _ => h, fun q => absurd q (by decide)⟩
    | 6 => obtain ⟨c, h⟩ := gA_obj (C := "HotelNights$Stay") (hts _ (List.mem_of_getElem? (i := 111) (by decide +kernel))); exact ⟨c, fun _ => h, fun q => absurd q (by decide)⟩
    | 7 => obtain ⟨c, h⟩ := gA_obj (C := "HotelNights$Wish") (hts _ (List.mem_of_getElem? (i := 103) (by decide +kernel))); exact ⟨c, fun _ => h, fun q => absurd q (by decide)⟩
    | 8 => obtain ⟨c, h⟩ := gA_arr2 (ty := .int) (hts _ (List.mem_of_getElem? (i := 434) (by decide +kernel))); exact ⟨c, fun _ => h, fun q => absurd q (by decide)⟩
    | 9 => obtain ⟨c, h⟩ := gA_arr2 (ty := .boolean) (hts _ (List.mem_of_getElem? (i := 432) (by decide +kernel))); exact ⟨c, fun _ => h, fun q => absurd q (by decide)⟩
    | j + 10 => exact ⟨b0, fun q => absurd q (by omega), fun _ => rfl⟩
  obtain ⟨f, hf⟩ := Classical.axiomOfChoice hc
  obtain ⟨cA, hcA⟩ := Classical.axiomOfChoice ha
  refine ⟨(fun k => (f k).1, fun k => (f k).2), cA, ⟨fun k r h => hf k r h, fun k q hq => ?_⟩, (hcA 20).2 rfl⟩
  match k, hq with
  | 0, hq => cases hq; exact (hcA 0).1 (by decide)
  | 1, hq => cases hq; exact (hcA 1).1 (by decide)
  | 2, hq => cases hq; exact (hcA 2).1 (by decide)
  | 3, hq => cases hq; exact (hcA 3).1 (by decide)
  | 4, hq => cases hq; exact (hcA 4).1 (by decide)
  | 5, hq => cases hq; exact (hcA 5).1 (by decide)
  | 6, hq => cases hq; exact (hcA 6).1 (by decide)
  | 7, hq => cases hq; exact (hcA 7).1 (by decide)
  | 8, hq => cases hq; exact (hcA 8).1 (by decide)
  | 9, hq => cases hq; exact (hcA 9).1 (by decide)
  | k + 10, hq => simp [gtys] at hq
theorem st_N (hts : ∀ w ∈ lw_tbl, w.before #[Value.ref b0] s = true) (hgv : (Jvm.Cond.and given_1 narrow_1).before #[Value.ref b0] s = true) : gN s := by
  have hs := flat_of_before _ hgv
  refine ⟨?_, ?_, ?_, ?_, ?_, ?_, ?_, ?_⟩
  · exact List.forall_mem_cons.mpr ⟨va_Nw.of rfl (hts _ (List.mem_of_getElem? (i := 388) (by decide +kernel))), List.forall_mem_cons.mpr ⟨va_Nw.of rfl (hts _ (List.mem_of_getElem? (i := 839) (by decide +kernel))), List.forall_mem_cons.mpr ⟨va_Nw.of rfl (hts _ (List.mem_of_getElem? (i := 189) (by decide +kernel))), List.forall_mem_cons.mpr ⟨va_Nw.of rfl (hts _ (List.mem_of_getElem? (i := 205) (by decide +kernel))), List.forall_mem_cons.mpr ⟨va_Nw.of rfl (hts _ (List.mem_of_getElem? (i := 234) (by decide +kernel))), List.forall_mem_cons.mpr ⟨va_Nw.of rfl (hts _ (List.mem_of_getElem? (i := 258) (by decide +kernel))), List.forall_mem_cons.mpr ⟨va_Nw.of rfl (hts _ (List.mem_of_getElem? (i := 1165) (by decide +kernel))), List.forall_mem_cons.mpr ⟨va_Nw.of rfl (hts _ (List.mem_of_getElem? (i := 931) (by decide +kernel))), List.forall_mem_cons.mpr ⟨va_Nw.of rfl (hts _ (List.mem_of_getElem? (i := 113) (by decide +kernel))), fun _ h => absurd h List.not_mem_nil⟩⟩⟩⟩⟩⟩⟩⟩⟩
  · exact List.forall_mem_cons.mpr ⟨va_Nw.of rfl (hts _ (List.mem_of_getElem? (i := 537) (by decide +kernel))), List.forall_mem_cons.mpr ⟨va_Nw.of rfl (hts _ (List.mem_of_getElem? (i := 538) (by decide +kernel))), List.forall_mem_cons.mpr ⟨va_Nw.of rfl (hts _ (List.mem_of_getElem? (i := 535) (by decide +kernel))), List.forall_mem_cons.mpr ⟨va_Nw.of rfl (hts _ (List.mem_of_getElem? (i := 536) (by decide +kernel))), List.forall_mem_cons.mpr ⟨va_Nw.of rfl (hts _ (List.mem_of_getElem? (i := 539) (by decide +kernel))), List.forall_mem_cons.mpr ⟨va_Nw.of rfl (hts _ (List.mem_of_getElem? (i := 540) (by decide +kernel))), fun _ h => absurd h List.not_mem_nil⟩⟩⟩⟩⟩⟩
  · exact List.forall_mem_cons.mpr ⟨va_Nw.of rfl (hts _ (List.mem_of_getElem? (i := 752) (by decide +kernel))), List.forall_mem_cons.mpr ⟨va_Nw.of rfl (hts _ (List.mem_of_getElem? (i := 534) (by decide +kernel))), List.forall_mem_cons.mpr ⟨va_Nw.of rfl (hts _ (List.mem_of_getElem? (i := 688) (by decide +kernel))), fun _ h => absurd h List.not_mem_nil⟩⟩⟩
  · exact List.forall_mem_cons.mpr ⟨va_AO.of (A := #[Value.ref b0]) (hts _ (List.mem_of_getElem? (i := 374) (by decide +kernel))), List.forall_mem_cons.mpr ⟨va_AO.of (A := #[Value.ref b0]) (hts _ (List.mem_of_getElem? (i := 99) (by decide +kernel))), List.forall_mem_cons.mpr ⟨va_AO.of (A := #[Value.ref b0]) (hts _ (List.mem_of_getElem? (i := 101) (by decide +kernel))), List.forall_mem_cons.mpr ⟨va_AO.of (A := #[Value.ref b0]) (hts _ (List.mem_of_getElem? (i := 111) (by decide +kernel))), List.forall_mem_cons.mpr ⟨va_AO.of (A := #[Value.ref b0]) (hts _ (List.mem_of_getElem? (i := 103) (by decide +kernel))), fun _ h => absurd h List.not_mem_nil⟩⟩⟩⟩⟩
  · exact fun _ _ _ _ _ => trivial
  · obtain ⟨a, -, -, -, h, -⟩ := Cond.exactly_spec (hs (Cond.exactly (.string "HotelNights" 310) "java/lang/String") (by decide +kernel))
    exact ⟨a, vk_R.of (A := #[Value.ref b0]) (hts _ (List.mem_of_getElem? (i := 759) (by decide +kernel))) h⟩
  · obtain ⟨a, -, -, -, h, -⟩ := Cond.exactly_spec (hs (Cond.exactly (.string "HotelNights" 317) "java/lang/String") (by decide +kernel))
    exact ⟨a, vk_R.of (A := #[Value.ref b0]) (hts _ (List.mem_of_getElem? (i := 573) (by decide +kernel))) h⟩
  · obtain ⟨a, -, -, -, h, -⟩ := Cond.exactly_spec (hs (Cond.exactly (.string "HotelNights" 322) "java/lang/String") (by decide +kernel))
    exact ⟨a, vk_R.of (A := #[Value.ref b0]) (hts _ (List.mem_of_getElem? (i := 695) (by decide +kernel))) h⟩
theorem st_S (hts : ∀ w ∈ lw_tbl, w.before #[Value.ref b0] s = true) (hgv : (Jvm.Cond.and given_1 narrow_1).before #[Value.ref b0] s = true) {E : gE} (hE : E.1 = s.heap.size) (hScr : gScr E s s.heap) : gS E s s.heap := by
  have hs := flat_of_before _ hgv
  have hA : ∀ a : Nat, a < s.heap.size → ¬ E.1 ≤ a := fun a h => by omega
  have tb : ∀ j : Nat, j < 12 → (Term.elem (.static "HotelNights$Days" "BEFORE_MONTH" "[I") (.int (Int32.ofNat j))).eval #[Value.ref b0] s none [] s = some (.int (Int32.ofInt (bmT j))) := by
    intro j hj
    match j, hj with
    | 0, _ => exact va_eqt (hs _ (by decide +kernel))
    | 1, _ => exact va_eqt (hs _ (by decide +kernel))
    | 2, _ => exact va_eqt (hs _ (by decide +kernel))
    | 3, _ => exact va_eqt (hs _ (by decide +kernel))
    | 4, _ => exact va_eqt (hs _ (by decide +kernel))
    | 5, _ => exact va_eqt (hs _ (by decide +kernel))
    | 6, _ => exact va_eqt (hs _ (by decide +kernel))
    | 7, _ => exact va_eqt (hs _ (by decide +kernel))
    | 8, _ => exact va_eqt (hs _ (by decide +kernel))
    | 9, _ => exact va_eqt (hs _ (by decide +kernel))
    | 10, _ => exact va_eqt (hs _ (by decide +kernel))
    | 11, _ => exact va_eqt (hs _ (by decide +kernel))
    | j + 12, hj => exact absurd hj (by omega)
  obtain ⟨t, h1, h2⟩ := va_Tof (tm := .static "HotelNights$Days" "BEFORE_MONTH" "[I") (ty := .int) (N := 12) (f := fun j => .int (Int32.ofInt (bmT j))) (A := fun q => E.1 ≤ q) (by decide) (hs _ (by decide +kernel)) (va_eqt (hs _ (by decide +kernel))) tb hA
  refine ⟨⟨t, va_Zref (hts _ (List.mem_of_getElem? (i := 528) (by decide +kernel))) (hts _ (List.mem_of_getElem? (i := 56) (by decide +kernel))) h1 hA, h2⟩, ?_, ?_, gA_RR (hts _ (List.mem_of_getElem? (i := 434) (by decide +kernel))) (st_words hts _ gArr_int), gA_RR (hts _ (List.mem_of_getElem? (i := 432) (by decide +kernel))) (st_words hts _ gArr_boolean), hScr⟩
  · exact vx_Zqof (hts _ (List.mem_of_getElem? (i := 559) (by decide +kernel))) (hts _ (List.mem_of_getElem? (i := 57) (by decide +kernel))) (hs _ (by decide +kernel)) hA
  · exact vx_Zqof (hts _ (List.mem_of_getElem? (i := 561) (by decide +kernel))) (hts _ (List.mem_of_getElem? (i := 57) (by decide +kernel))) (hs _ (by decide +kernel)) hA
theorem st_C {p : Program} {m : MethodId} {meth : Method} {c : Code} (l : Launch) (hflags : l.flags = flags0) {L : Nat} {xs : Nat → Int32} (hL : L ≤ 260) (C0 : lw_At p s m meth c b0 L xs) : ∃ E : gE, E.1 = s.heap.size ∧ E.2.2 20 = b0 ∧ gC E RL cL_law 2 p l s m #[Value.ref b0] meth c := by
  obtain ⟨hx, hb, hr, hml, hown, hts, hX, hbl, hlocks, hgv⟩ := C0
  obtain ⟨D, cA, hK, h20⟩ := st_K hts
  refine ⟨(s.heap.size, D, cA), rfl, h20, hx, hb, hml, hown, st_words hts, hlocks, hK, st_N hts hgv, st_S hts hgv rfl ?_, Nat.le_refl _, ?_⟩
  · obtain ⟨scr, h1, h2, h3, h4, h5⟩ := hX
    refine ⟨L, fun j => (xs j).toInt, ⟨hL, fun j => i32_in _⟩, scr, ?_, h2, h3, by omega, by rw [h4], fun j hj => ?_, ?_⟩
    · rw [show (s.heap.size, D, cA).2.2 20 = b0 from h20]; exact h1
    · exact (h5 j hj).trans (congrArg some (congrArg Value.int (Int32.ofInt_toInt (xs j)).symm))
    · show ¬ s.heap.size ≤ cA 20
      rw [h20]; omega
  unfold Launch.stackTraces
  rw [hflags]
  decide +kernel
end GST
