/-! values, locals and straight code over whole numbers. A value is (tag, number): 0 int, 1 long, 2 reference (below 0: null), 3 float, 4 double (bits); a local's tag 9: nothing is said -/
abbrev aV : Type := Nat × Int
def cv (v : aV) : Value := match v with
  | (0, x) => .int (Int32.ofInt x)
  | (1, x) => .long (Int64.ofInt x)
  | (2, x) => va_rf (if x < 0 then none else some x.toNat)
  | (3, x) => .float (UInt32.ofNat x.toNat)
  | (_, x) => .double (UInt64.ofNat x.toNat)
theorem cv_ref {x : Int} (h : 0 ≤ x) : cv (2, x) = .ref x.toNat := by
  show va_rf (if x < 0 then none else some x.toNat) = _
  rw [if_neg (by omega)]
  rfl
theorem cv_null {x : Int} (h : x < 0) : cv (2, x) = .null := by
  show va_rf (if x < 0 then none else some x.toNat) = _
  rw [if_pos h]
  rfl
def lvl : Nat → List aV → List (Nat × Value)
  | _, [] => []
  | i, v :: r => if v.1 = 9 then lvl (i + 1) r else (i, cv v) :: lvl (i + 1) r
abbrev kO : Type := Option (List aV × List aV)
def ldK : List aV → Nat → Nat → (aV → kO) → kO
  | [], _, _, _ => none
  | v :: _, 0, t, k => if v.1 = t then k v else none
  | _ :: r, n + 1, t, k => ldK r n t k
def stK : List aV → Nat → aV → (List aV → kO) → kO
  | [], _, _, _ => none
  | _ :: r, 0, v, k => k (v :: r)
  | x :: r, n + 1, v, k => if n = 0 ∧ (x.1 = 1 ∨ 4 ≤ x.1) then stK r n v (fun r' => k ((9, 0) :: r')) else stK r n v (fun r' => k (x :: r'))
def stK2 : List aV → Nat → aV → (List aV → kO) → kO
  | [], _, _, _ => none
  | _ :: r, 0, v, k => match r with
    | [] => none
    | _ :: r' => k (v :: (9, 0) :: r')
  | x :: r, n + 1, v, k => if n = 0 ∧ (x.1 = 1 ∨ 4 ≤ x.1) then stK2 r n v (fun r' => k ((9, 0) :: r')) else stK2 r n v (fun r' => k (x :: r'))
theorem cv_cat (v : aV) : (cv v).category = if v.1 = 1 ∨ 4 ≤ v.1 then 2 else 1 := by
  obtain ⟨t, x⟩ := v
  match t with
  | 0 => rfl
  | 1 => rfl
  | 2 =>
    by_cases h : x < 0
    · rw [cv_null h]; rfl
    · rw [cv_ref (by omega)]; rfl
  | 3 => rfl
  | n + 4 => rw [if_pos (Or.inr (by show 4 ≤ n + 4; omega))]; rfl
theorem lvl_ge : ∀ (L : List aV) (j : Nat) (q : Nat × Value), q ∈ lvl j L → j ≤ q.1 := by
  intro L
  induction L with
  | nil => intro j q h; exact absurd h List.not_mem_nil
  | cons v r ih =>
    intro j q h
    unfold lvl at h
    split at h
    · have := ih _ _ h; omega
    · rcases List.mem_cons.mp h with rfl | h
      · exact Nat.le_refl _
      · have := ih _ _ h; omega
theorem ldK_ok : ∀ (L : List aV) (i t j : Nat) (k : aV → kO) (r : List aV × List aV), t ≠ 9 → ldK L i t k = some r → ∃ x : Int, k (t, x) = some r ∧ (j + i, cv (t, x)) ∈ lvl j L := by
  intro L
  induction L with
  | nil => intro i t j k r _ h; cases h
  | cons v s ih =>
    intro i t j k r ht h
    cases i with
    | zero =>
      unfold ldK at h
      split at h
      · rename_i hv
        obtain ⟨tv, x⟩ := v
        have hv : tv = t := hv
        subst hv
        refine ⟨x, h, ?_⟩
        unfold lvl
        rw [if_neg ht]
        exact List.mem_cons_self
      · cases h
    | succ n =>
      obtain ⟨x, h1, h2⟩ := ih n t (j + 1) k r ht h
      refine ⟨x, h1, ?_⟩
      unfold lvl
      rw [show j + (n + 1) = j + 1 + n by omega]
      split
      · exact h2
      · exact List.mem_cons_of_mem _ h2
theorem stK_ok : ∀ (L : List aV) (i j : Nat) (v : aV) (k : List aV → kO) (r : List aV × List aV), stK L i v k = some r → ∃ L', k L' = some r ∧ L'.length = L.length ∧ i < L.length ∧
    ∀ q ∈ lvl j L', q = (j + i, cv v) ∨ (q ∈ lvl j L ∧ q.1 ≠ j + i ∧ ¬ (q.1 + 1 = j + i ∧ q.2.category = 2)) := by
  intro L
  induction L with
  | nil => intro i j v k r h; cases h
  | cons x s ih =>
    intro i j v k r h
    cases i with
    | zero =>
      refine ⟨v :: s, h, rfl, Nat.succ_pos _, fun q hq => ?_⟩
      unfold lvl at hq
      have key : ∀ q ∈ lvl (j + 1) s, q = (j + 0, cv v) ∨ (q ∈ lvl j (x :: s) ∧ q.1 ≠ j + 0 ∧ ¬ (q.1 + 1 = j + 0 ∧ q.2.category = 2)) := by
        intro q hq
        have hge := lvl_ge _ _ _ hq
        refine Or.inr ⟨?_, by omega, by omega⟩
        unfold lvl
        split
        · exact hq
        · exact List.mem_cons_of_mem _ hq
      split at hq
      · exact key q hq
      · rcases List.mem_cons.mp hq with rfl | hq
        · exact Or.inl rfl
        · exact key q hq
    | succ n =>
      unfold stK at h
      split at h
      · rename_i hn
        obtain ⟨L', h1, h2, h3, h4⟩ := ih n (j + 1) v _ r h
        refine ⟨(9, 0) :: L', h1, by simp [h2], by simp; omega, fun q hq => ?_⟩
        unfold lvl at hq
        rw [if_pos rfl] at hq
        rcases h4 q hq with h5 | ⟨h5, h6, h7⟩
        · left; rw [h5]; congr 1; omega
        · refine Or.inr ⟨?_, by omega, by rw [show j + (n + 1) = j + 1 + n by omega]; exact h7⟩
          unfold lvl
          split
          · exact h5
          · exact List.mem_cons_of_mem _ h5
      · rename_i hn
        obtain ⟨L', h1, h2, h3, h4⟩ := ih n (j + 1) v _ r h
        refine ⟨x :: L', h1, by simp [h2], by simp; omega, fun q hq => ?_⟩
        have key : ∀ q ∈ lvl (j + 1) L', q = (j + (n + 1), cv v) ∨ (q ∈ lvl j (x :: s) ∧ q.1 ≠ j + (n + 1) ∧ ¬ (q.1 + 1 = j + (n + 1) ∧ q.2.category = 2)) := by
          intro q hq
          rcases h4 q hq with h5 | ⟨h5, h6, h7⟩
          · left; rw [h5]; congr 1; omega
          · refine Or.inr ⟨?_, by omega, by rw [show j + (n + 1) = j + 1 + n by omega]; exact h7⟩
            unfold lvl
            split
            · exact h5
            · exact List.mem_cons_of_mem _ h5
        unfold lvl at hq
        split at hq
        · exact key q hq
        · rename_i hx9
          rcases List.mem_cons.mp hq with rfl | hq
          · refine Or.inr ⟨?_, by show j ≠ j + (n + 1); omega, ?_⟩
            · unfold lvl
              rw [if_neg hx9]
              exact List.mem_cons_self
            · rintro ⟨e1, e2⟩
              have e1 : j + 1 = j + (n + 1) := e1
              have e2 : (cv x).category = 2 := e2
              rw [cv_cat] at e2
              split at e2
              · rename_i hx
                exact hn ⟨by omega, hx⟩
              · cases e2
          · exact key q hq
theorem stK2_ok : ∀ (L : List aV) (i j : Nat) (v : aV) (k : List aV → kO) (r : List aV × List aV), stK2 L i v k = some r → ∃ L', k L' = some r ∧ L'.length = L.length ∧ i + 1 < L.length ∧
    ∀ q ∈ lvl j L', q = (j + i, cv v) ∨ (q ∈ lvl j L ∧ q.1 ≠ j + i ∧ q.1 ≠ j + i + 1 ∧ ¬ (q.1 + 1 = j + i ∧ q.2.category = 2)) := by
  intro L
  induction L with
  | nil => intro i j v k r h; cases h
  | cons x s ih =>
    intro i j v k r h
    cases i with
    | zero =>
      unfold stK2 at h
      cases s with
      | nil => cases h
      | cons y s' =>
        refine ⟨v :: (9, 0) :: s', h, rfl, by simp, fun q hq => ?_⟩
        have key : ∀ q ∈ lvl (j + 1 + 1) s', q = (j + 0, cv v) ∨ (q ∈ lvl j (x :: y :: s') ∧ q.1 ≠ j + 0 ∧ q.1 ≠ j + 0 + 1 ∧ ¬ (q.1 + 1 = j + 0 ∧ q.2.category = 2)) := by
          intro q hq
          have hge := lvl_ge _ _ _ hq
          refine Or.inr ⟨?_, by omega, by omega, by omega⟩
          have h2 : q ∈ lvl (j + 1) (y :: s') := by
            unfold lvl
            split
            · exact hq
            · exact List.mem_cons_of_mem _ hq
          unfold lvl
          split
          · exact h2
          · exact List.mem_cons_of_mem _ h2
        unfold lvl at hq
        split at hq
        · unfold lvl at hq
          rw [if_pos rfl] at hq
          exact key q hq
        · rcases List.mem_cons.mp hq with rfl | hq
          · exact Or.inl rfl
          · unfold lvl at hq
            rw [if_pos rfl] at hq
            exact key q hq
    | succ n =>
      unfold stK2 at h
      split at h
      · rename_i hn
        obtain ⟨L', h1, h2, h3, h4⟩ := ih n (j + 1) v _ r h
        refine ⟨(9, 0) :: L', h1, by simp [h2], by simp; omega, fun q hq => ?_⟩
        unfold lvl at hq
        rw [if_pos rfl] at hq
        rcases h4 q hq with h5 | ⟨h5, h6, h7, h8⟩
        · left; rw [h5]; congr 1; omega
        · refine Or.inr ⟨?_, by omega, by omega, by rw [show j + (n + 1) = j + 1 + n by omega]; exact h8⟩
          unfold lvl
          split
          · exact h5
          · exact List.mem_cons_of_mem _ h5
      · rename_i hn
        obtain ⟨L', h1, h2, h3, h4⟩ := ih n (j + 1) v _ r h
        refine ⟨x :: L', h1, by simp [h2], by simp; omega, fun q hq => ?_⟩
        have key : ∀ q ∈ lvl (j + 1) L', q = (j + (n + 1), cv v) ∨ (q ∈ lvl j (x :: s) ∧ q.1 ≠ j + (n + 1) ∧ q.1 ≠ j + (n + 1) + 1 ∧ ¬ (q.1 + 1 = j + (n + 1) ∧ q.2.category = 2)) := by
          intro q hq
          rcases h4 q hq with h5 | ⟨h5, h6, h7, h8⟩
          · left; rw [h5]; congr 1; omega
          · refine Or.inr ⟨?_, by omega, by omega, by rw [show j + (n + 1) = j + 1 + n by omega]; exact h8⟩
            unfold lvl
            split
            · exact h5
            · exact List.mem_cons_of_mem _ h5
        unfold lvl at hq
        split at hq
        · exact key q hq
        · rename_i hx9
          rcases List.mem_cons.mp hq with rfl | hq
          · refine Or.inr ⟨?_, by show j ≠ j + (n + 1); omega, by show j ≠ j + (n + 1) + 1; omega, ?_⟩
            · unfold lvl
              rw [if_neg hx9]
              exact List.mem_cons_self
            · rintro ⟨e1, e2⟩
              have e1 : j + 1 = j + (n + 1) := e1
              have e2 : (cv x).category = 2 := e2
              rw [cv_cat] at e2
              split at e2
              · rename_i hx
                exact hn ⟨by omega, hx⟩
              · cases e2
          · exact key q hq
