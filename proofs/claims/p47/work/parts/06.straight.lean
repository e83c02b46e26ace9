section GX
variable {E : gE} {own : String} {cc : ByteArray} {nL : Nat} {p : Program} {l : Launch} {e : Env} {R : Room} {s : State} {m : MethodId} {args : Array Value} {below : List Frame} {meth : Method} {c : Code} {Q : State → Prop} {pc : Nat} {L st : List aV} {Sh : gSh} {V : gV} {z : Int} {k n : Nat}
theorem st_cat1v {L L' : List aV} {i : Nat} {v : Value} {lv : List (Nat × Value)} (h : ∀ q ∈ lvl 0 L', q = (0 + i, v) ∨ (q ∈ lvl 0 L ∧ q.1 ≠ 0 + i ∧ ¬ (q.1 + 1 = 0 + i ∧ q.2.category = 2))) (e : (i, v) :: (lvl 0 L).filter (fun q => !(q.1 == i) && !(q.1 + 1 == i && q.2.category == 2)) = lv) : ∀ q ∈ lvl 0 L', q ∈ lv := by
  subst e
  intro q hq
  rcases h q hq with h1 | ⟨h1, h2, h3⟩
  · rw [h1, Nat.zero_add]; exact List.mem_cons_self
  · refine List.mem_cons_of_mem _ (List.mem_filter.mpr ⟨h1, ?_⟩)
    rw [Nat.zero_add] at h2 h3
    simp only [Bool.and_eq_true, Bool.not_eq_true', beq_eq_false_iff_ne, Bool.and_eq_false_iff]
    refine ⟨h2, ?_⟩
    by_cases g : q.1 + 1 = i
    · exact Or.inr (fun g2 => h3 ⟨g, g2⟩)
    · exact Or.inl g
set_option maxHeartbeats 4000000 in
theorem ex1_ok (hC : gC E own cc nL p l s m args meth c) (i : Instr) (hd : decode cc pc = .ok (i, ilen i)) (hj : okJ i pc = true) {k1 : List aV → List aV → kO} {r : List aV × List aV} (h : ex1 i L st k1 = some r)
    (K : ∀ L1 st1, k1 L1 st1 = some r → gG E nL p l e R s m args below meth c Q (nxt i pc) L1 st1 Sh V z k n) : gG E nL p l e R s m args below meth c Q pc L st Sh V z k n := by
  obtain ⟨hx, hb, hml, -⟩ := hC
  cases i with
  | iconst a =>
    intro H locs ls h1 h2 h3 h4 h5
    exact lv_iconst hx hb hd rfl (K _ _ h H locs ls h1 h2 h3 h4 h5)
  | bipush a =>
    simp only [ex1] at h
    split at h
    · rename_i hn
      intro H locs ls h1 h2 h3 h4 h5
      exact lv_bipush hx hb hd (bip_ok hn) (K _ _ h H locs ls h1 h2 h3 h4 h5)
    · cases h
  | sipush a =>
    simp only [ex1] at h
    split at h
    · rename_i hn
      intro H locs ls h1 h2 h3 h4 h5
      exact lv_sipush hx hb hd (sip_ok hn) (K _ _ h H locs ls h1 h2 h3 h4 h5)
    · cases h
  | lconst a =>
    intro H locs ls h1 h2 h3 h4 h5
    refine lv_lconst hx hb hd ?_ (K _ _ h H locs ls h1 h2 h3 h4 h5)
    match a with
    | 0 => rfl
    | 1 => rfl
  | iload a =>
    intro H locs ls h1 h2 h3 h4 h5
    obtain ⟨x, e1, e2⟩ := ld_val (by decide) h h5
    exact lv_iload hx hb hd e2 (K _ _ e1 H locs ls h1 h2 h3 h4 h5)
  | iload_n a =>
    intro H locs ls h1 h2 h3 h4 h5
    obtain ⟨x, e1, e2⟩ := ld_val (by decide) h h5
    exact lv_iload_n hx hb hd rfl e2 (K _ _ e1 H locs ls h1 h2 h3 h4 h5)
  | lload a =>
    intro H locs ls h1 h2 h3 h4 h5
    obtain ⟨x, e1, e2⟩ := ld_val (by decide) h h5
    exact lv_lload hx hb hd e2 (K _ _ e1 H locs ls h1 h2 h3 h4 h5)
  | lload_n a =>
    intro H locs ls h1 h2 h3 h4 h5
    obtain ⟨x, e1, e2⟩ := ld_val (by decide) h h5
    exact lv_lload_n hx hb hd rfl e2 (K _ _ e1 H locs ls h1 h2 h3 h4 h5)
  | aload a =>
    intro H locs ls h1 h2 h3 h4 h5
    obtain ⟨x, e1, e2⟩ := ld_val (by decide) h h5
    have kk := K _ _ e1 H locs ls h1 h2 h3 h4 h5
    by_cases hn : x < 0
    · rw [cv_null hn] at e2
      refine lv_aloadN hx hb hd e2 ?_
      rw [List.map_cons, cv_null hn] at kk
      exact kk
    · rw [cv_ref (by omega)] at e2
      refine lv_aload hx hb hd e2 ?_
      rw [List.map_cons, cv_ref (by omega)] at kk
      exact kk
  | aload_n a =>
    intro H locs ls h1 h2 h3 h4 h5
    obtain ⟨x, e1, e2⟩ := ld_val (by decide) h h5
    have kk := K _ _ e1 H locs ls h1 h2 h3 h4 h5
    by_cases hn : x < 0
    · rw [cv_null hn] at e2
      refine lv_aload_nN hx hb hd rfl e2 ?_
      rw [List.map_cons, cv_null hn] at kk
      exact kk
    · rw [cv_ref (by omega)] at e2
      refine lv_aload_n hx hb hd rfl e2 ?_
      rw [List.map_cons, cv_ref (by omega)] at kk
      exact kk
  | istore a =>
    simp only [ex1] at h
    split at h
    · obtain ⟨L', e1, e2, e3, e4⟩ := stK_ok L _ 0 _ _ _ h
      intro H locs ls h1 h2 h3 h4 h5
      exact lv_istore hx hb hd h5 (by omega) rfl (fun ls' h6 => K _ _ e1 H locs ls' h1 h2 h3 (by omega) (lv_mono h6 (st_cat1 e4 rfl)))
    · cases h
  | lstore a =>
    simp only [ex1] at h
    split at h
    · obtain ⟨L', e1, e2, e3, e4⟩ := stK2_ok L _ 0 _ _ _ h
      intro H locs ls h1 h2 h3 h4 h5
      exact lv_lstore hx hb hd h5 (by omega) rfl (fun ls' h6 => K _ _ e1 H locs ls' h1 h2 h3 (by omega) (lv_mono h6 (st_cat2 e4 rfl)))
    · cases h
  | istore_n a =>
    simp only [ex1] at h
    split at h
    · obtain ⟨L', e1, e2, e3, e4⟩ := stK_ok L _ 0 _ _ _ h
      intro H locs ls h1 h2 h3 h4 h5
      exact lv_istore_n hx hb hd rfl h5 (by omega) rfl (fun ls' h6 => K _ _ e1 H locs ls' h1 h2 h3 (by omega) (lv_mono h6 (st_cat1 e4 rfl)))
    · cases h
  | lstore_n a =>
    simp only [ex1] at h
    split at h
    · obtain ⟨L', e1, e2, e3, e4⟩ := stK2_ok L _ 0 _ _ _ h
      intro H locs ls h1 h2 h3 h4 h5
      exact lv_lstore_n hx hb hd rfl h5 (by omega) rfl (fun ls' h6 => K _ _ e1 H locs ls' h1 h2 h3 (by omega) (lv_mono h6 (st_cat2 e4 rfl)))
    · cases h
  | astore a =>
    simp only [ex1] at h
    split at h
    · rename_i x r0
      obtain ⟨L', e1, e2, e3, e4⟩ := stK_ok L _ 0 _ _ _ h
      intro H locs ls h1 h2 h3 h4 h5
      have kk := K _ _ e1 H locs
      rw [List.map_cons]
      by_cases hn : x < 0
      · rw [cv_null hn] at e4 ⊢
        exact lv_astoreN hx hb hd h5 (by omega) rfl (fun ls' h6 => kk ls' h1 h2 h3 (by omega) (lv_mono h6 (st_cat1v e4 rfl)))
      · rw [cv_ref (by omega)] at e4 ⊢
        exact lv_astore hx hb hd h5 (by omega) rfl (fun ls' h6 => kk ls' h1 h2 h3 (by omega) (lv_mono h6 (st_cat1v e4 rfl)))
    · cases h
  | astore_n a =>
    simp only [ex1] at h
    split at h
    · rename_i x r0
      obtain ⟨L', e1, e2, e3, e4⟩ := stK_ok L _ 0 _ _ _ h
      intro H locs ls h1 h2 h3 h4 h5
      have kk := K _ _ e1 H locs
      rw [List.map_cons]
      by_cases hn : x < 0
      · rw [cv_null hn] at e4 ⊢
        exact lv_astore_nN hx hb hd rfl h5 (by omega) rfl (fun ls' h6 => kk ls' h1 h2 h3 (by omega) (lv_mono h6 (st_cat1v e4 rfl)))
      · rw [cv_ref (by omega)] at e4 ⊢
        exact lv_astore_n hx hb hd rfl h5 (by omega) rfl (fun ls' h6 => kk ls' h1 h2 h3 (by omega) (lv_mono h6 (st_cat1v e4 rfl)))
    · cases h
  | iinc a d =>
    intro H locs ls h1 h2 h3 h4 h5
    obtain ⟨x, e1, e2⟩ := ldK_ok L a 0 0 _ r (by decide) h
    obtain ⟨L', e3, e4, e5, e6⟩ := stK_ok L _ 0 _ _ _ e1
    rw [Nat.zero_add] at e2
    obtain ⟨i0, hi0⟩ := List.getElem?_of_mem e2
    exact lv_iinc hx hb hd h5 hi0 (iI_add x d) (by omega) rfl (fun ls' h6 => K _ _ e3 H locs ls' h1 h2 h3 (by omega) (lv_mono h6 (st_cat1 e6 rfl)))
  | iadd =>
    simp only [ex1] at h
    split at h
    · rename_i y x r0
      intro H locs ls h1 h2 h3 h4 h5
      have kk := K _ _ h H locs ls h1 h2 h3 h4 h5
      refine lv_iadd hx hb hd ?_
      rw [iI_add]
      exact kk
    · cases h
  | isub =>
    simp only [ex1] at h
    split at h
    · rename_i y x r0
      intro H locs ls h1 h2 h3 h4 h5
      have kk := K _ _ h H locs ls h1 h2 h3 h4 h5
      refine lv_isub hx hb hd ?_
      rw [iI_sub]
      exact kk
    · cases h
  | imul =>
    simp only [ex1] at h
    split at h
    · rename_i y x r0
      intro H locs ls h1 h2 h3 h4 h5
      have kk := K _ _ h H locs ls h1 h2 h3 h4 h5
      refine lv_imul hx hb hd ?_
      rw [iI_mul]
      exact kk
    · cases h
  | ladd =>
    simp only [ex1] at h
    split at h
    · rename_i y x r0
      intro H locs ls h1 h2 h3 h4 h5
      have kk := K _ _ h H locs ls h1 h2 h3 h4 h5
      refine lv_ladd hx hb hd ?_
      rw [iL_add]
      exact kk
    · cases h
  | lsub =>
    simp only [ex1] at h
    split at h
    · rename_i y x r0
      intro H locs ls h1 h2 h3 h4 h5
      have kk := K _ _ h H locs ls h1 h2 h3 h4 h5
      refine lv_lsub hx hb hd ?_
      rw [iL_sub]
      exact kk
    · cases h
  | lmul =>
    simp only [ex1] at h
    split at h
    · rename_i y x r0
      intro H locs ls h1 h2 h3 h4 h5
      have kk := K _ _ h H locs ls h1 h2 h3 h4 h5
      refine lv_lmul hx hb hd ?_
      rw [iL_mul]
      exact kk
    · cases h
  | l2i =>
    simp only [ex1] at h
    split at h
    · intro H locs ls h1 h2 h3 h4 h5
      exact lv_l2i hx hb hd (iL_i _) (K _ _ h H locs ls h1 h2 h3 h4 h5)
    · cases h
  | dup =>
    simp only [ex1] at h
    split at h
    · intro H locs ls h1 h2 h3 h4 h5
      exact lv_dup hx hb hd rfl (K _ _ h H locs ls h1 h2 h3 h4 h5)
    · intro H locs ls h1 h2 h3 h4 h5
      exact lv_dup hx hb hd (by rw [cv_cat]; rfl) (K _ _ h H locs ls h1 h2 h3 h4 h5)
    · cases h
  | dup2 =>
    simp only [ex1] at h
    split at h
    · intro H locs ls h1 h2 h3 h4 h5
      exact lv_dup2_11 hx hb hd rfl (by rw [cv_cat]; rfl) (K _ _ h H locs ls h1 h2 h3 h4 h5)
    · cases h
  | pop =>
    simp only [ex1] at h
    split at h
    · intro H locs ls h1 h2 h3 h4 h5
      exact lv_pop hx hb hd rfl (K _ _ h H locs ls h1 h2 h3 h4 h5)
    · intro H locs ls h1 h2 h3 h4 h5
      exact lv_pop hx hb hd (by rw [cv_cat]; rfl) (K _ _ h H locs ls h1 h2 h3 h4 h5)
    · cases h
  | goto off =>
    intro H locs ls h1 h2 h3 h4 h5
    exact lv_goto hx hb hd (of_decide_eq_true hj) (K _ _ h H locs ls h1 h2 h3 h4 h5)
  | _ => exact absurd h (by simp [ex1])
/-- straight code -/
theorem gB (hC : gC E own cc nL p l s m args meth c) : ∀ (is : List Instr) (pc pc' : Nat) (L st L' st' : List aV), decB cc pc is pc' = true → exO is L st = some (L', st') → gG E nL p l e R s m args below meth c Q pc' L' st' Sh V z k n → gG E nL p l e R s m args below meth c Q pc L st Sh V z k n := by
  intro is
  induction is with
  | nil =>
    intro pc pc' L st L' st' hd h K
    have e1 : pc = pc' := of_decide_eq_true hd
    cases h
    rw [e1]
    exact K
  | cons i is ih =>
    intro pc pc' L st L' st' hd h K
    unfold decB at hd
    rw [Bool.and_eq_true, Bool.and_eq_true] at hd
    exact ex1_ok hC i (of_decide_eq_true hd.1) hd.2.1 h (fun L1 st1 h1 => ih _ _ _ _ _ _ hd.2.2 h1 K)
end GX
