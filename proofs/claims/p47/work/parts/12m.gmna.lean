/-! new rows of rows in this world (laid by wip/p47/mna.py) -/
/-- rows of rows, new -/
def shM (Sh : gSh) (z : Int) (so si : Nat) (N K : Nat) : gSh := fun a => if a = z then some (so, N) else if z < a ∧ a ≤ z + N then some (si, K) else Sh a
def vnM (V : gV) (z : Int) (N : Nat) : gV := fun a i => if a = z then (if 0 ≤ i ∧ i < N then z + 1 + i else 0) else if z < a ∧ a ≤ z + N then 0 else V a i
theorem shM_ne {Sh : gSh} {z a : Int} {so si N K : Nat} (h : a < z ∨ z + N < a) : shM Sh z so si N K a = Sh a := by unfold shM; rw [if_neg (by omega), if_neg (by omega)]
theorem vnM_ne {V : gV} {z a : Int} {N : Nat} (h : a < z ∨ z + N < a) : vnM V z N a = V a := by funext i; unfold vnM; rw [if_neg (by omega), if_neg (by omega)]
section MNA
variable {E : gE} {own : String} {cc : ByteArray} {nL : Nat} {p : Program} {l : Launch} {e : Env} {R : Room} {s : State} {m : MethodId} {args : Array Value} {below : List Frame} {meth : Method} {c : Code} {Q : State → Prop} {pc : Nat} {L st r rest st0 as : List aV} {Sh : gSh} {V : gV} {z : Int} {k n : Nat} {rm : Room}
theorem g_mna (hC : gC E own cc nL p l s m args meth c) {ji jo : Nat} {x y : Int} {N K idx : Nat} (hj : (ji = 0 ∧ jo = 8) ∨ (ji = 2 ∧ jo = 9)) (hd : decode cc pc = .ok (.multianewarray idx 2, 4)) (hl : Cond.classLink own idx ("[" ++ (eTy jo).toString) ∈ gws) (hx : x = N) (hy : y = K) (hN : N ≤ 1000) (hK : K ≤ 1000) (hR : k + (1 + N) ≤ R.cells ∧ n + (N + N * K) ≤ R.slots)
    (kk : gG E nL p l e R s m args below meth c Q (pc + 4) L ((2, z) :: r) (shM Sh z (100 + jo) (100 + ji) N K) (vnM V z N) (z + 1 + N) (k + (1 + N)) (n + (N + N * K))) : gG E nL p l e R s m args below meth c Q pc L ((0, y) :: (0, x) :: r) Sh V z k n := by
  subst hx
  subst hy
  obtain ⟨hx, hb, hml, hown, hts, hlocks, hKK, -, hSS, hE, -⟩ := hC
  intro H locs ls h1 h2 h3 h4 h5
  subst h2
  have hEH : E.1 ≤ H.size := Nat.le_trans hE h3.1
  have neg : ∀ M : Nat, M ≤ 1000 → ¬ Int32.ofInt (M : Int) < 0 := fun M hM q => by
    rw [Int32.lt_iff_toInt_lt, iI_toInt ⟨by omega, by omega⟩, Int32.toInt_zero] at q
    omega
  have cl : ∀ M : Nat, M ≤ 1000 → (Int32.ofInt (M : Int)).toNatClampNeg = M := fun M hM => by rw [in_clamp (by omega) (by omega)]; omega
  -- what lies in the heap behind
  have key : ∀ (H1 : Heap), H1.size = H.size + 1 + N → (∀ q : Nat, q < H.size → H1[q]? = H[q]?) → H1[H.size]? = some (arrV (E.2.2 jo) N (fun i => .ref (H.size + 1 + i))) → (∀ j : Nat, j < N → H1[H.size + 1 + j]? = some (arrV (E.2.2 ji) K (fun _ => cv (ett ji, 0)))) → W p l e R s m args below meth c H1 locs (k + 1 + N) (n + N + N * K) Q (F0 m (pc + 4) ls (.ref H.size :: r.map cv)) := by
    intro H1 g1 g2 g3 g4
    have hjo : jo < 10 ∧ ett jo = 2 ∧ ji < 10 ∧ ett ji = 0 := by rcases hj with ⟨rfl, rfl⟩ | ⟨rfl, rfl⟩ <;> exact ⟨by decide, rfl, by decide, rfl⟩
    have gh : gH E (shM Sh (H.size : Int) (100 + jo) (100 + ji) N K) (vnM V (H.size : Int) N) H1 := by
      intro b sb hsb
      unfold shM at hsb
      by_cases hb0 : b = (H.size : Int)
      · rw [if_pos hb0] at hsb
        cases hsb
        subst hb0
        refine ⟨by omega, cOk_arr hjo.1 ?_ (fun i hi => by rw [hjo.2.1]; trivial)⟩
        rw [hjo.2.1, show ((H.size : Nat) : Int).toNat = H.size by omega, g3]
        refine congrArg some (arrV_cg (fun j hjn => ?_))
        unfold vnM
        rw [if_pos rfl, if_pos ⟨by omega, by omega⟩, cv_ref (by omega)]
        congr 1
      · rw [if_neg hb0] at hsb
        by_cases hb1 : (H.size : Int) < b ∧ b ≤ (H.size : Int) + N
        · rw [if_pos hb1] at hsb
          cases hsb
          have hf : vnM V (H.size : Int) N b = fun _ => 0 := by funext i; unfold vnM; rw [if_neg hb0, if_pos hb1]
          rw [hf]
          refine ⟨by omega, cOk_arr hjo.2.2.1 ?_ (fun i hi => by rw [hjo.2.2.2]; exact ⟨by decide, by decide⟩)⟩
          have := g4 (b.toNat - (H.size + 1)) (by omega)
          rw [show H.size + 1 + (b.toNat - (H.size + 1)) = b.toNat by omega] at this
          exact this
        · rw [if_neg hb1] at hsb
          obtain ⟨q1, q2⟩ := h1 b sb hsb
          have hf : vnM V (H.size : Int) N b = V b := by funext i; unfold vnM; rw [if_neg hb0, if_neg hb1]
          rw [hf]
          exact ⟨q1, cOk_kept q2 (g2 _ (cOk_lt q2))⟩
    have ka := kk H1 locs ls gh (by omega) ⟨by have := h3.1; omega, fun x q1 q2 => (g2 x (Nat.lt_of_lt_of_le q1 h3.1)).trans (h3.2.1 x q1 q2), h3.2.2⟩ h4 h5
    rw [List.map_cons, cv_ref (by omega), ← Nat.add_assoc, ← Nat.add_assoc] at ka
    exact ka
  rw [List.map_cons, List.map_cons]
  rcases hj with ⟨rfl, rfl⟩ | ⟨rfl, rfl⟩
  · refine w_mna (ty := .int) hx hb hown (hts _ hl) hSS.2.2.2.1.1 (hts _ gArr_int) hd (neg N hN) (neg K hK) (cl N hN) (cl K hK) hN (by show K * 4 ≤ _; omega) hK rfl rfl hR.1 hR.2 (fun H1 cA comp fA fC g1 g2 g3 g4 => ?_)
    have e8 : cA = E.2.2 8 := Option.some.inj (fA.symm.trans (hKK.2 8 _ rfl).2)
    have e0 : comp = E.2.2 0 := Option.some.inj (fC.symm.trans (hKK.2 0 _ rfl).2)
    subst e8
    subst e0
    exact key H1 g1 g2 g3 g4
  · refine w_mna (ty := .boolean) hx hb hown (hts _ hl) hSS.2.2.2.2.1.1 (hts _ gArr_boolean) hd (neg N hN) (neg K hK) (cl N hN) (cl K hK) hN (by show K * 1 ≤ _; omega) hK rfl rfl hR.1 hR.2 (fun H1 cA comp fA fC g1 g2 g3 g4 => ?_)
    have e8 : cA = E.2.2 9 := Option.some.inj (fA.symm.trans (hKK.2 9 _ rfl).2)
    have e0 : comp = E.2.2 2 := Option.some.inj (fC.symm.trans (hKK.2 2 _ rfl).2)
    subst e8
    subst e0
    exact key H1 g1 g2 g3 g4
end MNA
