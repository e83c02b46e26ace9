/-! the world: an address and a place give a whole number; a shape says how it lies in the heap -/
abbrev gE : Type := Nat × va_G × (Nat → ClassId)
abbrev gSh : Type := Int → Option (Nat × Nat)
abbrev gV : Type := Int → Int → Int
def gws : List Cond := lw_tbl.filter goodWord
theorem gm {w : Cond} (i : Nat) (h : lw_tbl[i]? = some w) (hg : goodWord w = true) : w ∈ gws := List.mem_filter.mpr ⟨List.mem_of_getElem? h, hg⟩
theorem gm_all {ws : List Cond} (h : ws.all (fun w => decide (w ∈ lw_tbl) && goodWord w) = true) : ∀ w ∈ ws, w ∈ gws := by
  intro w hw
  have h1 := List.all_eq_true.mp h w hw
  rw [Bool.and_eq_true] at h1
  exact List.mem_filter.mpr ⟨of_decide_eq_true h1.1, h1.2⟩
/-- the type tag of a field: 0 int, 1 long, 2 reference, 5 boolean -/
def ftt : Nat → Nat → Nat := fun c k => match c, k with
  | 0, 0 => 2
  | 1, 8 => 2
  | 1, 9 => 2
  | 1, 10 => 2
  | 1, 11 => 2
  | 1, 12 => 2
  | 1, 13 => 2
  | 1, 14 => 2
  | 2, 3 => 2
  | 3, _ => 2
  | 4, 0 => 2
  | 4, 2 => 2
  | 4, 3 => 5
  | 4, 4 => 2
  | 5, 0 => 5
  | 5, 6 => 2
  | 7, 11 => 2
  | 8, 0 => 2
  | 10, _ => 2
  | 11, 0 => 1
  | 12, 0 => 2
  | 12, 1 => 2
  | 12, 2 => 2
  | 12, 3 => 2
  | 12, 5 => 2
  | 12, 6 => 2
  | 12, 7 => 2
  | 12, 8 => 2
  | 12, 15 => 2
  | 12, 16 => 2
  | 12, 19 => 2
  | 12, 21 => 2
  | _, _ => 0
/-- a tag of a value -/
def vtg (t : Nat) : Nat := if t = 5 then 0 else t
def okT (t : Nat) (x : Int) : Prop := match t with
  | 0 => inI x
  | 1 => inL x
  | 5 => x = 0 ∨ x = 1
  | _ => True
/-- the type of a field -/
def gTy : Nat → Nat → FieldType := fun c => match c with
  | 0 => tyX1
  | 1 => tyX2
  | 2 => tyX3
  | 3 => tyX4
  | 4 => tyX5
  | 5 => tyX6
  | 6 => tyX7
  | 7 => tyX8
  | 8 => tyX9
  | 9 => tyX10
  | 10 => tyX11
  | 11 => tyX12
  | _ => tyL
def tyOk (t : Nat) (ty : FieldType) : Bool := match t, ty with
  | 0, .int => true
  | 1, .long => true
  | 5, .boolean => true
  | 2, .object _ => true
  | 2, .array _ => true
  | _, _ => false
/-- the type of an array's elements: 0 int, 1 long, 2 double, 3 .. references -/
def eTy : Nat → FieldType := fun j => match j with
  | 0 => .int
  | 1 => .long
  | 2 => .boolean
  | 3 => .object "HotelNights$Hotel"
  | 4 => .object "HotelNights$Kind"
  | 5 => .object "HotelNights$Season"
  | 6 => .object "HotelNights$Stay"
  | 7 => .object "HotelNights$Wish"
  | 8 => .array .int
  | _ => .array .boolean
def ett : Nat → Nat := fun j => match j with
  | 0 => 0
  | 1 => 1
  | 2 => 0
  | _ => 2
def gtys (cA : Nat → ClassId) : List (ClassId × FieldType) := [(cA 0, eTy 0), (cA 1, eTy 1), (cA 2, eTy 2), (cA 3, eTy 3), (cA 4, eTy 4), (cA 5, eTy 5), (cA 6, eTy 6), (cA 7, eTy 7), (cA 8, eTy 8), (cA 9, eTy 9)]
theorem gtys_at (cA : Nat → ClassId) {j : Nat} (h : j < 10) : (gtys cA)[j]? = some (cA j, eTy j) := by
  match j, h with
  | 0, _ => rfl
  | 1, _ => rfl
  | 2, _ => rfl
  | 3, _ => rfl
  | 4, _ => rfl
  | 5, _ => rfl
  | 6, _ => rfl
  | 7, _ => rfl
  | 8, _ => rfl
  | 9, _ => rfl
def gK (E : gE) (U : State) : Prop := va_K E.2.1 vwCl (gtys E.2.2) U
/-- a cell of a shape: an object (class number below 100), or an array (100 + the number of its type, its length) -/
def cOk (E : gE) (H : Heap) (a : Int) (sh : Nat × Nat) (f : Int → Int) : Prop :=
  if sh.1 < 100 then (∃ r : vw_C, vwCl[sh.1]? = some r ∧ t_OB a.toNat (E.2.1.1 sh.1) r.2.2 (E.2.1.2 sh.1) H (fun k => cv (vtg (ftt sh.1 k), f k))) ∧ ∀ k : Nat, k < 23 → okT (ftt sh.1 k) (f k)
  else H[a.toNat]? = some (arrV (E.2.2 (sh.1 - 100)) sh.2 (fun i => cv (ett (sh.1 - 100), f i))) ∧ sh.1 < 110 ∧ ∀ i : Nat, i < sh.2 → okT (ett (sh.1 - 100)) (f i)
def gH (E : gE) (Sh : gSh) (V : gV) (H : Heap) : Prop := ∀ (a : Int) (sh : Nat × Nat), Sh a = some sh → (E.1 : Int) ≤ a ∧ cOk E H a sh (V a)
theorem cOk_lt {E : gE} {H : Heap} {a : Int} {sh : Nat × Nat} {f : Int → Int} (h : cOk E H a sh f) : a.toNat < H.size := by
  unfold cOk at h
  split at h
  · obtain ⟨⟨r, -, cell, h1, -⟩, -⟩ := h
    exact (Array.getElem?_eq_some_iff.mp h1).1
  · exact (Array.getElem?_eq_some_iff.mp h.1).1
theorem cOk_kept {E : gE} {H H1 : Heap} {a : Int} {sh : Nat × Nat} {f : Int → Int} (h : cOk E H a sh f) (hq : H1[a.toNat]? = H[a.toNat]?) : cOk E H1 a sh f := by
  unfold cOk at h ⊢
  split at h
  · rename_i hs
    rw [if_pos hs]
    obtain ⟨⟨r, h1, h2⟩, h3⟩ := h
    exact ⟨⟨r, h1, h2.kept hq⟩, h3⟩
  · rename_i hs
    rw [if_neg hs, hq]
    exact h
theorem cOk_congr {E : gE} {H : Heap} {a : Int} {sh : Nat × Nat} {f g : Int → Int} (h : cOk E H a sh f) (hfg : ∀ k, f k = g k) : cOk E H a sh g := by
  have : f = g := funext hfg
  rw [← this]
  exact h
/-- fewer cells, or others' contents -/
theorem gH_sub {E : gE} {Sh Sh' : gSh} {V V' : gV} {H : Heap} (h : gH E Sh V H) (hs : ∀ a sh, Sh' a = some sh → Sh a = some sh ∧ ∀ k, V a k = V' a k) : gH E Sh' V' H := by
  intro a sh ha
  obtain ⟨h1, h2⟩ := hs a sh ha
  obtain ⟨h3, h4⟩ := h a sh h1
  exact ⟨h3, cOk_congr h4 h2⟩
def up (V : gV) (a k x : Int) : gV := fun b j => if b = a ∧ j = k then x else V b j
theorem up_eq (V : gV) (a k x : Int) : up V a k x a k = x := by simp [up]
theorem up_ne (V : gV) {a k b j : Int} (x : Int) (h : b ≠ a ∨ j ≠ k) : up V a k x b j = V b j := by
  unfold up
  rw [if_neg]
  rintro ⟨h1, h2⟩
  rcases h with h | h
  · exact h h1
  · exact h h2
/-- one cell changed -/
theorem gH_put {E : gE} {Sh : gSh} {V : gV} {H H1 : Heap} {a k x : Int} {sh : Nat × Nat} (h : gH E Sh V H) (ha : Sh a = some sh) (hc : cOk E H1 a sh (up V a k x a)) (oq : ∀ q : Nat, q ≠ a.toNat → H1[q]? = H[q]?) : gH E Sh (up V a k x) H1 := by
  intro b sb hb
  obtain ⟨h1, h2⟩ := h b sb hb
  refine ⟨h1, ?_⟩
  by_cases hab : b = a
  · subst hab
    cases hb.symm.trans ha
    exact hc
  · have hg := (h a sh ha).1
    have : b.toNat ≠ a.toNat := by omega
    exact cOk_congr (cOk_kept h2 (oq _ this)) (fun j => (up_ne V x (Or.inl hab)).symm)
theorem gH_mono {E : gE} {Sh : gSh} {V : gV} {H H1 : Heap} (h : gH E Sh V H) (oq : ∀ q : Nat, q < H.size → H1[q]? = H[q]?) : gH E Sh V H1 := by
  intro b sb hb
  obtain ⟨h1, h2⟩ := h b sb hb
  exact ⟨h1, cOk_kept h2 (oq _ (cOk_lt h2))⟩
/-- one cell more -/
def shp (Sh : gSh) (a : Int) (sh : Nat × Nat) : gSh := fun b => if b = a then some sh else Sh b
def vnew (V : gV) (a : Int) (f : Int → Int) : gV := fun b => if b = a then f else V b
theorem gH_push {E : gE} {Sh : gSh} {V : gV} {H H1 : Heap} {sh : Nat × Nat} {f : Int → Int} (h : gH E Sh V H) (hE : E.1 ≤ H.size) (hc : cOk E H1 (H.size : Int) sh f) (oq : ∀ q : Nat, q < H.size → H1[q]? = H[q]?) : gH E (shp Sh H.size sh) (vnew V H.size f) H1 := by
  intro b sb hb
  unfold shp at hb
  by_cases hab : b = (H.size : Int)
  · rw [if_pos hab] at hb
    cases hb
    subst hab
    refine ⟨by omega, ?_⟩
    have : vnew V H.size f (H.size : Int) = f := by simp [vnew]
    rw [this]
    exact hc
  · rw [if_neg hab] at hb
    obtain ⟨h1, h2⟩ := h b sb hb
    refine ⟨h1, ?_⟩
    have : vnew V H.size f b = V b := by simp [vnew, hab]
    rw [this]
    exact cOk_kept h2 (oq _ (cOk_lt h2))
theorem gH_fresh {E : gE} {Sh : gSh} {V : gV} {H : Heap} (h : gH E Sh V H) {b : Int} (hb : (H.size : Int) ≤ b) : Sh b = none := by
  cases hs : Sh b with
  | none => rfl
  | some sb =>
    have := cOk_lt (h b sb hs).2
    omega
theorem vt_ok {t : Nat} {ty : FieldType} {x : Int} (h : tyOk t ty = true) (hx : okT t x) : narrow ty (cv (vtg t, x)) = cv (vtg t, x) ∧ fits ty (cv (vtg t, x)) = true := by
  unfold tyOk at h
  split at h
  · exact ⟨rfl, rfl⟩
  · exact ⟨rfl, rfl⟩
  · rcases hx with rfl | rfl
    · exact ⟨rfl, rfl⟩
    · exact ⟨rfl, rfl⟩
  · by_cases hn : x < 0
    · rw [show (vtg 2, x) = (2, x) from rfl, cv_null hn]; exact ⟨rfl, rfl⟩
    · rw [show (vtg 2, x) = (2, x) from rfl, cv_ref (by omega)]; exact ⟨rfl, rfl⟩
  · by_cases hn : x < 0
    · rw [show (vtg 2, x) = (2, x) from rfl, cv_null hn]; exact ⟨rfl, rfl⟩
    · rw [show (vtg 2, x) = (2, x) from rfl, cv_ref (by omega)]; exact ⟨rfl, rfl⟩
  · cases h
/-- the number that a new cell's field holds -/
def dfl (t : Nat) : Int := if t = 2 then -1 else 0
theorem dfl_ok {t : Nat} {ty : FieldType} (h : tyOk t ty = true) : defaultValue ty = cv (vtg t, dfl t) ∧ okT t (dfl t) := by
  unfold tyOk at h
  split at h
  · exact ⟨rfl, ⟨by decide, by decide⟩⟩
  · exact ⟨rfl, ⟨by decide, by decide⟩⟩
  · exact ⟨rfl, Or.inl rfl⟩
  · exact ⟨rfl, trivial⟩
  · exact ⟨rfl, trivial⟩
  · cases h
