/-! memory: fields, arrays, new cells -/
theorem inG1 : ∀ w ∈ wsX10, w ∈ gws := gm_all (by decide +kernel)
theorem inG2 : ∀ w ∈ wsX20, w ∈ gws := gm_all (by decide +kernel)
theorem inG3 : ∀ w ∈ wsX30, w ∈ gws := gm_all (by decide +kernel)
theorem inG4 : ∀ w ∈ wsX40, w ∈ gws := gm_all (by decide +kernel)
theorem inG5 : ∀ w ∈ wsX50, w ∈ gws := gm_all (by decide +kernel)
theorem inG6 : ∀ w ∈ wsX60, w ∈ gws := gm_all (by decide +kernel)
theorem inG7 : ∀ w ∈ wsX70, w ∈ gws := gm_all (by decide +kernel)
theorem inG8 : ∀ w ∈ wsX80, w ∈ gws := gm_all (by decide +kernel)
theorem inG9 : ∀ w ∈ wsX90, w ∈ gws := gm_all (by decide +kernel)
theorem inG10 : ∀ w ∈ wsX100, w ∈ gws := gm_all (by decide +kernel)
theorem inG11 : ∀ w ∈ wsX110, w ∈ gws := gm_all (by decide +kernel)
theorem inG12 : ∀ w ∈ wsX120, w ∈ gws := gm_all (by decide +kernel)
theorem inGL : ∀ w ∈ wsL0, w ∈ gws := gm_all (by decide +kernel)
theorem gcf : ∀ (ci : Nat) (r : vw_C), vwCl[ci]? = some r → (∀ w ∈ u_ws r.1 r.2.1 r.2.2, w ∈ gws) ∧ (∀ k, k < r.2.2 → parseFieldDescriptor (r.2.1 k).2.2.1 = some (gTy ci k)) ∧ (∀ a, a < r.2.2 → ∀ b, b < r.2.2 → a ≠ b → (r.2.1 a).2.1 ≠ (r.2.1 b).2.1) ∧ (∀ k, k < r.2.2 → tyOk (ftt ci k) (gTy ci k) = true) ∧ r.2.2 ≤ 23 := by
  intro ci r h
  match ci, h with
  | 0, h => cases h; exact ⟨inG1, tyX1_ok, nmX1, by decide +kernel, by decide⟩
  | 1, h => cases h; exact ⟨inG2, tyX2_ok, nmX2, by decide +kernel, by decide⟩
  | 2, h => cases h; exact ⟨inG3, tyX3_ok, nmX3, by decide +kernel, by decide⟩
  | 3, h => cases h; exact ⟨inG4, tyX4_ok, nmX4, by decide +kernel, by decide⟩
  | 4, h => cases h; exact ⟨inG5, tyX5_ok, nmX5, by decide +kernel, by decide⟩
  | 5, h => cases h; exact ⟨inG6, tyX6_ok, nmX6, by decide +kernel, by decide⟩
  | 6, h => cases h; exact ⟨inG7, tyX7_ok, nmX7, by decide +kernel, by decide⟩
  | 7, h => cases h; exact ⟨inG8, tyX8_ok, nmX8, by decide +kernel, by decide⟩
  | 8, h => cases h; exact ⟨inG9, tyX9_ok, nmX9, by decide +kernel, by decide⟩
  | 9, h => cases h; exact ⟨inG10, tyX10_ok, nmX10, by decide +kernel, by decide⟩
  | 10, h => cases h; exact ⟨inG11, tyX11_ok, nmX11, by decide +kernel, by decide⟩
  | 11, h => cases h; exact ⟨inG12, tyX12_ok, nmX12, by decide +kernel, by decide⟩
  | 12, h => cases h; exact ⟨inGL, tyL_ok, nmL, by decide +kernel, by decide⟩
  | n + 13, h => cases h
/-- a field's link: own's entry idx names field k of class ci -/
def gFL (own : String) (idx ci k : Nat) : Prop := ∃ r : vw_C, vwCl[ci]? = some r ∧ k < r.2.2 ∧ Cond.fieldLink own idx (r.2.1 k).1 (r.2.1 k).2.1 (r.2.1 k).2.2.1 ∈ gws
theorem up_fun (V : gV) (a k x : Int) : up V a k x a = fun j => if j = k then x else V a j := by
  funext j
  simp [up]
section GM
variable {E : gE} {own : String} {cc : ByteArray} {nL : Nat} {p : Program} {l : Launch} {e : Env} {R : Room} {s : State} {m : MethodId} {args : Array Value} {below : List Frame} {meth : Method} {c : Code} {Q : State → Prop} {pc : Nat} {L st r : List aV} {Sh : gSh} {V : gV} {z : Int} {k n : Nat}
theorem g_get (hC : gC E own cc nL p l s m args meth c) {ci kf idx : Nat} {a : Int} (hd : decode cc pc = .ok (.getfield idx, 3)) (hf : gFL own idx ci kf) (hsh : Sh a = some (ci, 0)) (hci : ci < 100)
    (kk : okT (ftt ci kf) (V a kf) → gG E nL p l e R s m args below meth c Q (pc + 3) L ((vtg (ftt ci kf), V a kf) :: r) Sh V z k n) : gG E nL p l e R s m args below meth c Q pc L ((2, a) :: r) Sh V z k n := by
  obtain ⟨hx, hb, hml, hown, hts, hlocks, hK, -, -, hE, -⟩ := hC
  obtain ⟨rc, hc, hk, hl⟩ := hf
  obtain ⟨hin, hty, hnm, htt, h15⟩ := gcf ci rc hc
  intro H locs ls h1 h2 h3 h4 h5
  obtain ⟨ha, hco⟩ := h1 a _ hsh
  unfold cOk at hco
  rw [if_pos hci] at hco
  obtain ⟨⟨r1, hr1, cell, q1, q2, q3, q4⟩, hok⟩ := hco
  cases hr1.symm.trans hc
  have ha0 : 0 ≤ a := by omega
  obtain ⟨hS, hfc, kC, hkC, hkind⟩ := hK.1 ci _ hc
  obtain ⟨cf, kf0, fi, f, hi, hsl⟩ := hS kf hk
  rw [List.map_cons, cv_ref ha0]
  refine W.getf hx hb hown (hts _ hl) hi (u_facts hfc hkC (u_lays hts hin hk) hi).1 q1 (by rw [q3]; exact fun h => by cases h) (v := cv (vtg (ftt ci kf), V a kf)) ?_ rfl rfl hd (kk (hok kf (by omega)) H locs ls h1 h2 h3 h4 h5)
  rw [hsl, q4 kf hk]
theorem g_put (hC : gC E own cc nL p l s m args meth c) {ci kf idx : Nat} {a x : Int} (hd : decode cc pc = .ok (.putfield idx, 3)) (hf : gFL own idx ci kf) (hsh : Sh a = some (ci, 0)) (hci : ci < 100)
    (hfin : ∀ r : vw_C, vwCl[ci]? = some r → (r.2.1 kf).2.2.2 = false) (hok1 : okT (ftt ci kf) x)
    (kk : gG E nL p l e R s m args below meth c Q (pc + 3) L r Sh (up V a kf x) z k n) : gG E nL p l e R s m args below meth c Q pc L ((vtg (ftt ci kf), x) :: (2, a) :: r) Sh V z k n := by
  obtain ⟨hx, hb, hml, hown, hts, hlocks, hK, -, -, hE, -⟩ := hC
  obtain ⟨rc, hc, hk, hl⟩ := hf
  obtain ⟨hin, hty, hnm, htt, h15⟩ := gcf ci rc hc
  have hfin := hfin rc hc
  intro H locs ls h1 h2 h3 h4 h5
  obtain ⟨ha, hco⟩ := h1 a _ hsh
  have hco0 := hco
  unfold cOk at hco
  rw [if_pos hci] at hco
  obtain ⟨⟨r1, hr1, cell, q1, q2, q3, q4⟩, hok⟩ := hco
  cases hr1.symm.trans hc
  have ha0 : 0 ≤ a := by omega
  have hap := va_apart (own := own) hts hin (gTy ci) hty hnm hK hc
  obtain ⟨hS, hfc, kC, hkC, hkind⟩ := hK.1 ci _ hc
  obtain ⟨cf, kf0, fi, f, hi, hsl⟩ := hS kf hk
  have hlay := hts _ (hin _ (u_in_lay hk))
  unfold u_lay at hlay
  rw [if_neg (by rw [hfin]; decide)] at hlay
  have hst := (u_facts hfc hkC (u_lays hts hin hk) hi).1
  have hnf := vt_ok (htt kf hk) hok1
  have h6 := u_store hfc hkC hkind hlay hi (hty kf hk) hnf.1 hnf.2
  rw [List.map_cons, List.map_cons, cv_ref ha0]
  refine W.putK hx hb (f := f) ⟨hown, hts _ hl, ⟨_, _, _, hi⟩, hst⟩ (by rw [q2]; exact h6) q1 q3 (by rw [hsl]; exact k2_hasslot (q4 kf hk)) rfl rfl hd fun H' e1 e2 e3 => ?_
  rw [hsl] at e1 ⊢
  refine kk H' _ ls (gH_put h1 hsh ?_ e3) (by rw [e2]; exact h2) (h3.put e2 e3 (show E.1 ≤ a.toNat by omega)) h4 h5
  unfold cOk
  rw [if_pos hci]
  refine ⟨⟨rc, hc, t_OB.to (V := updV (fun k => cv (vtg (ftt ci k), V a k)) kf (cv (vtg (ftt ci kf), x))) ⟨_, e1, q2, q3, t_set q4 hap hk _⟩ (fun j _ => ?_)⟩, fun j hj => ?_⟩
  · rw [up_fun]
    by_cases hjk : j = kf
    · subst hjk
      simp [updV]
    · have : ¬ (j : Int) = (kf : Int) := by omega
      simp [updV, hjk, this]
  · rw [up_fun]
    by_cases hjk : j = kf
    · subst hjk
      simp only [if_true]
      exact hok1
    · have : ¬ (j : Int) = (kf : Int) := by omega
      simp only [if_neg this]
      exact hok j hj
theorem g_putF (hC : gC E own cc nL p l s m args meth c) {ci kf idx : Nat} {a x : Int} (hd : decode cc pc = .ok (.putfield idx, 3)) (hf : gFL own idx ci kf) (hsh : Sh a = some (ci, 0)) (hci : ci < 100)
    (hfin : ∀ r : vw_C, vwCl[ci]? = some r → (r.2.1 kf).2.2.2 = true ∧ (r.2.1 kf).1 = own) (hin2 : meth.name = "<init>") (hok1 : okT (ftt ci kf) x)
    (kk : gG E nL p l e R s m args below meth c Q (pc + 3) L r Sh (up V a kf x) z k n) : gG E nL p l e R s m args below meth c Q pc L ((vtg (ftt ci kf), x) :: (2, a) :: r) Sh V z k n := by
  obtain ⟨hx, hb, hml, hown, hts, hlocks, hK, -, -, hE, -⟩ := hC
  obtain ⟨rc, hc, hk, hl⟩ := hf
  obtain ⟨hin, hty, hnm, htt, h15⟩ := gcf ci rc hc
  obtain ⟨hfin, hdecl⟩ := hfin rc hc
  intro H locs ls h1 h2 h3 h4 h5
  obtain ⟨ha, hco⟩ := h1 a _ hsh
  have hco0 := hco
  unfold cOk at hco
  rw [if_pos hci] at hco
  obtain ⟨⟨r1, hr1, cell, q1, q2, q3, q4⟩, hok⟩ := hco
  cases hr1.symm.trans hc
  have ha0 : 0 ≤ a := by omega
  have hap := va_apart (own := own) hts hin (gTy ci) hty hnm hK hc
  obtain ⟨hS, hfc, kC, hkC, hkind⟩ := hK.1 ci _ hc
  obtain ⟨cf, kf0, fi, f, hi, hsl⟩ := hS kf hk
  have hlay := hts _ (hin _ (u_in_lay hk))
  unfold u_lay at hlay
  rw [if_pos hfin] at hlay
  have hst := (u_facts hfc hkC (u_lays hts hin hk) hi).1
  have hcf : m.cls = cf := by
    obtain ⟨_, _, c', _, _, _, -, -, hf', -, -, -, hown2, -⟩ := Cond.laysFinal_spec hlay
    have e1 : c' = cf := by have := hi.symm.trans hf'; simp at this; exact this.1.symm
    rw [hdecl] at hown2
    rw [← e1]; exact Option.some.inj (hown.symm.trans hown2)
  have hnf := vt_ok (htt kf hk) hok1
  have h6 := u_fits hfc hkC hkind (Or.inr hlay) hi (hty kf hk) hnf.1 hnf.2
  rw [List.map_cons, List.map_cons, cv_ref ha0]
  refine W.putFinK hx hb hown (hts _ hl) hi hst hcf hin2 (by rw [q2]; exact h6) q1 q3 (by rw [hsl]; exact k2_hasslot (q4 kf hk)) rfl rfl hd fun H' e1 e2 e3 => ?_
  rw [hsl] at e1 ⊢
  refine kk H' _ ls (gH_put h1 hsh ?_ e3) (by rw [e2]; exact h2) (h3.put e2 e3 (show E.1 ≤ a.toNat by omega)) h4 h5
  unfold cOk
  rw [if_pos hci]
  refine ⟨⟨rc, hc, t_OB.to (V := updV (fun k => cv (vtg (ftt ci k), V a k)) kf (cv (vtg (ftt ci kf), x))) ⟨_, e1, q2, q3, t_set q4 hap hk _⟩ (fun j _ => ?_)⟩, fun j hj => ?_⟩
  · rw [up_fun]
    by_cases hjk : j = kf
    · subst hjk
      simp [updV]
    · have : ¬ (j : Int) = (kf : Int) := by omega
      simp [updV, hjk, this]
  · rw [up_fun]
    by_cases hjk : j = kf
    · subst hjk
      simp only [if_true]
      exact hok1
    · have : ¬ (j : Int) = (kf : Int) := by omega
      simp only [if_neg this]
      exact hok j hj
theorem g_iaload (hC : gC E own cc nL p l s m args meth c) {N : Nat} {a i : Int} (hd : decode cc pc = .ok (.iaload, 1)) (hsh : Sh a = some (100, N)) (h0 : 0 ≤ i) (hn : i < N) (hN : (N : Int) ≤ 2147483647)
    (kk : inI (V a i) → gG E nL p l e R s m args below meth c Q (pc + 1) L ((0, V a i) :: r) Sh V z k n) : gG E nL p l e R s m args below meth c Q pc L ((0, i) :: (2, a) :: r) Sh V z k n := by
  obtain ⟨hx, hb, hml, hown, hts, hlocks, hK, -, -, hE, -⟩ := hC
  intro H locs ls h1 h2 h3 h4 h5
  obtain ⟨ha, hco⟩ := h1 a _ hsh
  unfold cOk at hco
  rw [if_neg (by show ¬ 100 < 100; decide)] at hco
  obtain ⟨q1, q2, q3⟩ := hco
  have ha0 : 0 ≤ a := by omega
  have ei : ((i.toNat : Nat) : Int) = i := by omega
  have hlt : (Int32.ofInt i).toNatClampNeg < N := by rw [in_clamp h0 (by omega)]; omega
  rw [List.map_cons, List.map_cons, cv_ref ha0]
  refine W.iald hx hb q1 ((hK.2 0 _ rfl).1 N _) (fun q => by cases q) (v := cv (0, V a i)) (by show ¬ (_ ∨ (arrV _ _ _).slots.size ≤ _); rw [arrV_size]; exact in_idx h0 (by omega) hn) ?_ rfl rfl hd (kk ?_ H locs ls h1 h2 h3 h4 h5)
  · show (arrV _ _ _).slots[_]? = _
    rw [arrV_read _ _ hlt, in_clamp h0 (by omega), ei]
    rfl
  · have := q3 i.toNat (by show i.toNat < N; omega)
    rw [ei] at this
    exact this
theorem g_laload (hC : gC E own cc nL p l s m args meth c) {N : Nat} {a i : Int} (hd : decode cc pc = .ok (.laload, 1)) (hsh : Sh a = some (101, N)) (h0 : 0 ≤ i) (hn : i < N) (hN : (N : Int) ≤ 2147483647)
    (kk : inL (V a i) → gG E nL p l e R s m args below meth c Q (pc + 1) L ((1, V a i) :: r) Sh V z k n) : gG E nL p l e R s m args below meth c Q pc L ((0, i) :: (2, a) :: r) Sh V z k n := by
  obtain ⟨hx, hb, hml, hown, hts, hlocks, hK, -, -, hE, -⟩ := hC
  intro H locs ls h1 h2 h3 h4 h5
  obtain ⟨ha, hco⟩ := h1 a _ hsh
  unfold cOk at hco
  rw [if_neg (by show ¬ 101 < 100; decide)] at hco
  obtain ⟨q1, q2, q3⟩ := hco
  have ha0 : 0 ≤ a := by omega
  have ei : ((i.toNat : Nat) : Int) = i := by omega
  have hlt : (Int32.ofInt i).toNatClampNeg < N := by rw [in_clamp h0 (by omega)]; omega
  rw [List.map_cons, List.map_cons, cv_ref ha0]
  refine W.lald hx hb q1 ((hK.2 1 _ rfl).1 N _) (fun q => by cases q) (v := cv (1, V a i)) (by show ¬ (_ ∨ (arrV _ _ _).slots.size ≤ _); rw [arrV_size]; exact in_idx h0 (by omega) hn) ?_ rfl rfl hd (kk ?_ H locs ls h1 h2 h3 h4 h5)
  · show (arrV _ _ _).slots[_]? = _
    rw [arrV_read _ _ hlt, in_clamp h0 (by omega), ei]
    rfl
  · have := q3 i.toNat (by show i.toNat < N; omega)
    rw [ei] at this
    exact this
theorem g_aaload (hC : gC E own cc nL p l s m args meth c) {j N : Nat} {a i : Int} (hd : decode cc pc = .ok (.aaload, 1)) (hsh : Sh a = some (100 + j, N)) (hj : 3 ≤ j) (h0 : 0 ≤ i) (hn : i < N) (hN : (N : Int) ≤ 2147483647)
    (kk : gG E nL p l e R s m args below meth c Q (pc + 1) L ((2, V a i) :: r) Sh V z k n) : gG E nL p l e R s m args below meth c Q pc L ((0, i) :: (2, a) :: r) Sh V z k n := by
  obtain ⟨hx, hb, hml, hown, hts, hlocks, hK, -, -, hE, -⟩ := hC
  intro H locs ls h1 h2 h3 h4 h5
  obtain ⟨ha, hco⟩ := h1 a _ hsh
  unfold cOk at hco
  rw [if_neg (by show ¬ 100 + j < 100; omega)] at hco
  obtain ⟨q1, q2, q3⟩ := hco
  have hj8 : j < 10 := by have : 100 + j < 110 := q2; omega
  have ej : 100 + j - 100 = j := by omega
  have q1 : H[a.toNat]? = some (arrV (E.2.2 (100 + j - 100)) N (fun i => cv (ett (100 + j - 100), V a i))) := q1
  rw [ej] at q1
  have et : ett j = 2 := by
    match j, hj, hj8 with
    | 3, _, _ => rfl
    | 4, _, _ => rfl
    | 5, _, _ => rfl
    | 6, _, _ => rfl
    | 7, _, _ => rfl
    | 8, _, _ => rfl
    | 9, _, _ => rfl
  have hr : (eTy j).isReference = true := by
    match j, hj, hj8 with
    | 3, _, _ => rfl
    | 4, _, _ => rfl
    | 5, _, _ => rfl
    | 6, _, _ => rfl
    | 7, _, _ => rfl
    | 8, _, _ => rfl
    | 9, _, _ => rfl
  have ha0 : 0 ≤ a := by omega
  have ei : ((i.toNat : Nat) : Int) = i := by omega
  have hlt : (Int32.ofInt i).toNatClampNeg < N := by rw [in_clamp h0 (by omega)]; omega
  rw [List.map_cons, List.map_cons, cv_ref ha0]
  refine W.aald hx hb q1 ((hK.2 j _ (gtys_at _ hj8)).1 N _) hr (fun q => by cases q) (v := cv (2, V a i)) (by show ¬ (_ ∨ (arrV _ _ _).slots.size ≤ _); rw [arrV_size]; exact in_idx h0 (by omega) hn) ?_ rfl rfl hd (kk H locs ls h1 h2 h3 h4 h5)
  show (arrV _ _ _).slots[_]? = _
  rw [arrV_read _ _ hlt, in_clamp h0 (by omega), ei, et]
theorem g_iastore (hC : gC E own cc nL p l s m args meth c) {N : Nat} {a i x : Int} (hd : decode cc pc = .ok (.iastore, 1)) (hsh : Sh a = some (100, N)) (h0 : 0 ≤ i) (hn : i < N) (hN : (N : Int) ≤ 2147483647) (hxx : inI x)
    (kk : gG E nL p l e R s m args below meth c Q (pc + 1) L r Sh (up V a i x) z k n) : gG E nL p l e R s m args below meth c Q pc L ((0, x) :: (0, i) :: (2, a) :: r) Sh V z k n := by
  obtain ⟨hx, hb, hml, hown, hts, hlocks, hK, -, -, hE, -⟩ := hC
  intro H locs ls h1 h2 h3 h4 h5
  obtain ⟨ha, hco⟩ := h1 a _ hsh
  unfold cOk at hco
  rw [if_neg (by show ¬ 100 < 100; decide)] at hco
  obtain ⟨q1, q2, q3⟩ := hco
  have ha0 : 0 ≤ a := by omega
  have ei : ((i.toNat : Nat) : Int) = i := by omega
  rw [List.map_cons, List.map_cons, List.map_cons, cv_ref ha0]
  refine W.iast hx hb q1 ((hK.2 0 _ rfl).1 N _) (fun q => by cases q) (by show ¬ (_ ∨ (arrV _ _ _).slots.size ≤ _); rw [arrV_size]; exact in_idx h0 (by omega) hn) rfl rfl hd fun H' e1 e2 e3 => ?_
  refine kk H' _ ls (gH_put h1 hsh ?_ e3) (by rw [e2]; exact h2) (h3.put e2 e3 (show E.1 ≤ a.toNat by omega)) h4 h5
  unfold cOk
  rw [if_neg (by show ¬ 100 < 100; decide)]
  refine ⟨?_, by show 100 < 110; decide, fun j hj => ?_⟩
  · rw [e1, arrV_store, in_clamp h0 (by omega)]
    show some (arrV _ _ _) = some (arrV _ _ _)
    congr 2
    funext j
    rw [up_fun]
    by_cases hji : j = i.toNat
    · subst hji
      simp only [updV, if_true, ei]
      rfl
    · have : ¬ (j : Int) = i := by omega
      simp only [updV, if_neg hji, if_neg this]
  · rw [up_fun]
    by_cases hji : (j : Int) = i
    · simp only [if_pos hji]
      exact hxx
    · simp only [if_neg hji]
      exact q3 j hj
theorem g_lastore (hC : gC E own cc nL p l s m args meth c) {N : Nat} {a i x : Int} (hd : decode cc pc = .ok (.lastore, 1)) (hsh : Sh a = some (101, N)) (h0 : 0 ≤ i) (hn : i < N) (hN : (N : Int) ≤ 2147483647) (hxx : inL x)
    (kk : gG E nL p l e R s m args below meth c Q (pc + 1) L r Sh (up V a i x) z k n) : gG E nL p l e R s m args below meth c Q pc L ((1, x) :: (0, i) :: (2, a) :: r) Sh V z k n := by
  obtain ⟨hx, hb, hml, hown, hts, hlocks, hK, -, -, hE, -⟩ := hC
  intro H locs ls h1 h2 h3 h4 h5
  obtain ⟨ha, hco⟩ := h1 a _ hsh
  unfold cOk at hco
  rw [if_neg (by show ¬ 101 < 100; decide)] at hco
  obtain ⟨q1, q2, q3⟩ := hco
  have ha0 : 0 ≤ a := by omega
  have ei : ((i.toNat : Nat) : Int) = i := by omega
  rw [List.map_cons, List.map_cons, List.map_cons, cv_ref ha0]
  refine W.last hx hb q1 ((hK.2 1 _ rfl).1 N _) (fun q => by cases q) (by show ¬ (_ ∨ (arrV _ _ _).slots.size ≤ _); rw [arrV_size]; exact in_idx h0 (by omega) hn) rfl rfl hd fun H' e1 e2 e3 => ?_
  refine kk H' _ ls (gH_put h1 hsh ?_ e3) (by rw [e2]; exact h2) (h3.put e2 e3 (show E.1 ≤ a.toNat by omega)) h4 h5
  unfold cOk
  rw [if_neg (by show ¬ 101 < 100; decide)]
  refine ⟨?_, by show 101 < 110; decide, fun j hj => ?_⟩
  · rw [e1, arrV_store, in_clamp h0 (by omega)]
    show some (arrV _ _ _) = some (arrV _ _ _)
    congr 2
    funext j
    rw [up_fun]
    by_cases hji : j = i.toNat
    · subst hji
      simp only [updV, if_true, ei]
      rfl
    · have : ¬ (j : Int) = i := by omega
      simp only [updV, if_neg hji, if_neg this]
  · rw [up_fun]
    by_cases hji : (j : Int) = i
    · simp only [if_pos hji]
      exact hxx
    · simp only [if_neg hji]
      exact q3 j hj
theorem g_alen (hC : gC E own cc nL p l s m args meth c) {j N : Nat} {a : Int} (hd : decode cc pc = .ok (.arraylength, 1)) (hsh : Sh a = some (100 + j, N))
    (kk : gG E nL p l e R s m args below meth c Q (pc + 1) L ((0, (N : Int)) :: r) Sh V z k n) : gG E nL p l e R s m args below meth c Q pc L ((2, a) :: r) Sh V z k n := by
  obtain ⟨hx, hb, hml, hown, hts, hlocks, hK, -, -, hE, -⟩ := hC
  intro H locs ls h1 h2 h3 h4 h5
  obtain ⟨ha, hco⟩ := h1 a _ hsh
  unfold cOk at hco
  rw [if_neg (by show ¬ 100 + j < 100; omega)] at hco
  obtain ⟨q1, q2, q3⟩ := hco
  have hj8 : j < 10 := by have : 100 + j < 110 := q2; omega
  have ej : 100 + j - 100 = j := by omega
  have q1 : H[a.toNat]? = some (arrV (E.2.2 (100 + j - 100)) N (fun i => cv (ett (100 + j - 100), V a i))) := q1
  rw [ej] at q1
  have ha0 : 0 ≤ a := by omega
  rw [List.map_cons, cv_ref ha0]
  refine W.alen (n := Int32.ofInt N) hx hb q1 ((hK.2 j _ (gtys_at _ hj8)).1 N _) (by rw [arrV_size]; rfl) rfl rfl hd (kk H locs ls h1 h2 h3 h4 h5)
end GM
