section GW4
variable {E : gE} {own : String} {nL : Nat} {p : Program} {l : Launch} {e : Env} {R : Room} {s : State} {m : MethodId} {args : Array Value} {below : List Frame} {meth : Method} {c : Code} {Q : State → Prop} {pc k n : Nat} {L r : List aV} {Sh : gSh} {V : gV} {z : Int} {cc : ByteArray}
theorem g_tsIn (hC : gC E own cc nL p l s m args meth c) {x : Int} {dflt lo hi : Int} {offs : Array Int} {len : Nat} {off : Int} (tgt : Nat) (hd : decode cc pc = .ok (.tableswitch dflt lo hi offs, len)) (hx : inI x) (h1 : lo ≤ x) (h2 : x ≤ hi) (ho : offs[(x - lo).toNat]? = some off) (ht : (pc : Int) + off = (tgt : Int))
    (kk : gG E nL p l e R s m args below meth c Q tgt L r Sh V z k n) : gG E nL p l e R s m args below meth c Q pc L ((0, x) :: r) Sh V z k n := by
  have hx2 := iI_toInt hx
  intro H locs ls a1 a2 a3 a4 a5
  exact lv_tableIn hC.1 hC.2.1 hd (by rw [hx2]; omega) (by rw [hx2]; omega) (by rw [hx2]; exact ho) ht (kk H locs ls a1 a2 a3 a4 a5)
theorem g_tsOut (hC : gC E own cc nL p l s m args meth c) {x : Int} {dflt lo hi : Int} {offs : Array Int} {len : Nat} (tgt : Nat) (hd : decode cc pc = .ok (.tableswitch dflt lo hi offs, len)) (hx : inI x) (h1 : x < lo ∨ hi < x) (ht : (pc : Int) + dflt = (tgt : Int))
    (kk : gG E nL p l e R s m args below meth c Q tgt L r Sh V z k n) : gG E nL p l e R s m args below meth c Q pc L ((0, x) :: r) Sh V z k n := by
  have hx2 := iI_toInt hx
  intro H locs ls a1 a2 a3 a4 a5
  exact lv_tableOut hC.1 hC.2.1 hd (by rw [hx2]; exact h1) ht (kk H locs ls a1 a2 a3 a4 a5)
end GW4
theorem stZ_in {N : gN0} {s : Int} (h : sOk N s) (hn : N 1 ≤ 3) (w : Int) : inI (stZ N s w) := by
  have h1 := h.1
  have h2 := sPr_in h
  have h3 := sTx_in h
  have h4 := dateZ_in (d := sF N s 2) (by omega) (by omega)
  have h5 := dateZ_in (d := sF N s 9) (by omega) (by omega)
  have h4' : inI (dateZ (sF N s 2)) := by omega
  have h5' : inI (dateZ (sF N s 9)) := by omega
  clear h4 h5
  have key : ∀ (a c : Int) (P : Prop) [Decidable P], inI a → inI c → inI (if P then a else c) := by
    intro a c P _ ha hc
    split
    · exact ha
    · exact hc
  unfold stZ
  exact key _ _ _ (by omega) (key _ _ _ (by omega) (key _ _ _ h4' (key _ _ _ (by omega) (key _ _ _ (by omega) (key _ _ _ (by omega) (key _ _ _ (by omega) (key _ _ _ (by omega) h5')))))))
theorem roV_ro (V : gV) (b : Int) (r1 r2 : gN0) (n : Int) : roV (roV V b r1 n) b r2 n = roV V b r2 n := by
  funext a j
  unfold roV
  by_cases h : a = b + 3 ∧ 0 ≤ j ∧ j < n
  · rw [if_pos h, if_pos h]
  · rw [if_neg h, if_neg h, if_neg h]
/-- rooms of one kind after another -/
def rhV (V : gV) (b : Int) (N : gN0) : Nat → gV
  | 0 => V
  | k + 1 => roV V b (gvT N k (kF N k 0) (N 5).toNat).1 (N 5)
theorem rhV_next (V : gV) (b : Int) (N : gN0) (k : Nat) : roV (rhV V b N k) b (gvT N k (kF N k 0) (N 5).toNat).1 (N 5) = rhV V b N (k + 1) := by
  cases k with
  | zero => rfl
  | succ k => exact roV_ro _ _ _ _ _
theorem gMd_rh {b : Int} {N : gN0} {Sh : gSh} {V : gV} (h : gMd b N Sh V) (k : Nat) : gMd b N Sh (rhV V b N k) := by
  cases k with
  | zero => exact h
  | succ k => exact gMd_ro h _ _
/-- a room is left, is used -/
def ndI (N rho : gN0) (r d : Int) : Nat → Int × Int
  | 0 => (0, 0)
  | n + 1 => if rho n = r ∧ sF N n 2 ≤ d ∧ d ≤ sF N n 2 + sF N n 3 - 1 then (if (ndI N rho r d n).1 = 1 ∨ sF N n 2 + sF N n 3 - 1 = d then 1 else 0, 1) else ndI N rho r d n
theorem ndI_in (N rho : gN0) (r d : Int) : ∀ n, ((ndI N rho r d n).1 = 0 ∨ (ndI N rho r d n).1 = 1) ∧ ((ndI N rho r d n).2 = 0 ∨ (ndI N rho r d n).2 = 1) := by
  intro n
  induction n with
  | zero => exact ⟨Or.inl rfl, Or.inl rfl⟩
  | succ n ih =>
    unfold ndI
    split
    · dsimp only
      split <;> simp
    · exact ih
def ndR (N rho : gN0) (m d : Int) : Nat → Int
  | 0 => 0
  | r + 1 => ndR N rho m d r + (if (m = 45 ∧ (ndI N rho r d (N 5).toNat).1 = 1) ∨ (m ≠ 45 ∧ (ndI N rho r d (N 5).toNat).2 = 1 ∧ (ndI N rho r d (N 5).toNat).1 = 0) then 1 else 0)
theorem ndR_in (N rho : gN0) (m d : Int) : ∀ n : Nat, 0 ≤ ndR N rho m d n ∧ ndR N rho m d n ≤ n := by
  intro n
  induction n with
  | zero => exact ⟨Int.le_refl _, Int.le_refl _⟩
  | succ n ih => unfold ndR; split <;> omega
def ndK (N : gN0) (m d : Int) : Nat → Int
  | 0 => 0
  | k + 1 => ndK N m d k + ndR N (gvT N k (kF N k 0) (N 5).toNat).1 m d (gvT N k (kF N k 0) (N 5).toNat).2.2.2.toNat
theorem ndK_in {N : gN0} (hI : InvC N) (m d : Int) : ∀ n : Nat, (n : Int) ≤ N 1 → 0 ≤ ndK N m d n ∧ ndK N m d n ≤ 6 * n := by
  intro n
  induction n with
  | zero => intro _; exact ⟨Int.le_refl _, by show (0 : Int) ≤ 6 * ((0 : Nat) : Int); omega⟩
  | succ n ih =>
    intro hn
    have h1 := ih (by omega)
    have hk := hI.2.1 n (by omega) (by omega)
    unfold kOk at hk
    have hg := gvT_in N n (rooms := kF N n 0) (by omega) (N 5).toNat
    have h2 := ndR_in N (gvT N n (kF N n 0) (N 5).toNat).1 m d (gvT N n (kF N n 0) (N 5).toNat).2.2.2.toNat
    unfold ndK
    omega
/-- the fewest rounds, of some pairs -/
def roF (a b : Int) : Nat → Int
  | 0 => a + b
  | n + 1 => min (roF a b n) (n + (a - 2 * n) + (max 0 (b - n - 3 * (a - 2 * n)) + 5) / 6)
theorem roF_in {a b : Int} (ha : 0 ≤ a) (hb : 0 ≤ b) : ∀ n : Nat, 2 * (n : Int) ≤ a + 2 → 0 ≤ roF a b n ∧ roF a b n ≤ a + b := by
  intro n
  induction n with
  | zero => intro _; show 0 ≤ a + b ∧ a + b ≤ a + b; omega
  | succ n ih =>
    intro hn
    have := ih (by omega)
    unfold roF
    omega
/-- whether a kind is over, whether one is without -/
def erI (N rho : gN0) (k : Int) : Nat → Int × Int
  | 0 => (0, 0)
  | n + 1 => if (sF N n 0 = 0 ∨ sF N n 0 = 1) ∧ sF N n 1 = k then (if (erI N rho k n).1 = 1 ∨ kF N k 0 < cnt N k (sF N n 2) then 1 else 0, if (erI N rho k n).2 = 1 ∨ rho n = -1 then 1 else 0) else erI N rho k n
theorem erI_in (N rho : gN0) (k : Int) : ∀ n, ((erI N rho k n).1 = 0 ∨ (erI N rho k n).1 = 1) ∧ ((erI N rho k n).2 = 0 ∨ (erI N rho k n).2 = 1) := by
  intro n
  induction n with
  | zero => exact ⟨Or.inl rfl, Or.inl rfl⟩
  | succ n ih =>
    unfold erI
    split
    · dsimp only
      constructor <;> split <;> simp
    · exact ih
def erK (N : gN0) : Nat → Int
  | 0 => 0
  | k + 1 => erK N k + (if (erI N (gvT N k (kF N k 0) (N 5).toNat).1 k (N 5).toNat).1 = (erI N (gvT N k (kF N k 0) (N 5).toNat).1 k (N 5).toNat).2 then 0 else 1)
theorem erK_in (N : gN0) : ∀ n : Nat, 0 ≤ erK N n ∧ erK N n ≤ n := by
  intro n
  induction n with
  | zero => exact ⟨Int.le_refl _, Int.le_refl _⟩
  | succ n ih => unfold erK; split <;> omega

theorem rhV_rh (V : gV) (b : Int) (N : gN0) : ∀ k : Nat, rhV (rhV V b N k) b N k = rhV V b N k := by
  intro k
  cases k with
  | zero => rfl
  | succ k => exact roV_ro _ _ _ _ _
def miZ (N : gN0) (d : Int) : Int := 45 * ndK N 45 (d - 1) (N 1).toNat + 20 * ndK N 20 (d - 1) (N 1).toNat
def roZ (N : gN0) (d : Int) : Int := roF (ndK N 45 (d - 1) (N 1).toNat) (ndK N 20 (d - 1) (N 1).toNat) (ndK N 45 (d - 1) (N 1).toNat / 2 + 1).toNat

