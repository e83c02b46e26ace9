/-! the law: what stands behind the two calls of a case (laid by wip/whole/gen9g.py) -/
theorem ft2 {x1 : Int} : fitC x1 1 1 ≠ 2 := by unfold fitC; split <;> decide
theorem ft3 {x1 x2 : Int} : fitC x1 x2 1 ≠ 3 := by unfold fitC; split <;> (try split) <;> decide
theorem ft_in {x1 x2 x3 : Int} : inI (fitC x1 x2 x3) := by have := fitC_in x1 x2 x3; omega
section GTL
variable {E : gE} {p : Program} {l : Launch} {e : Env} {s : State} {m : MethodId} {args : Array Value} {below : List Frame} {meth : Method} {c : Code} {Q : State → Prop} {pc k n : Nat} {Sh : gSh} {V : gV} {z : Int}
variable {b0 x b o d i C r r' : Int} {N2 : gN0} {P2 : Int → gN0} {c2 : Int}
theorem g_fgt4 {a0 a1 a2 a3 a4 a5 b6 b7 b8 b9 : aV} {st : List aV} (kk : gG E 10 p l e room_1 s m args below meth c Q pc [a0, a1, a2, a3, a4, a5, (9, 0), (9, 0), (9, 0), (9, 0)] st Sh V z k n) : gG E 10 p l e room_1 s m args below meth c Q pc [a0, a1, a2, a3, a4, a5, b6, b7, b8, b9] st Sh V z k n :=
  g_fgt (L' := [a0, a1, a2, a3, a4, a5, (9, 0), (9, 0), (9, 0), (9, 0)]) rfl (fun i v h => by
    match i, h with
    | 0, h => exact Or.inr h
    | 1, h => exact Or.inr h
    | 2, h => exact Or.inr h
    | 3, h => exact Or.inr h
    | 4, h => exact Or.inr h
    | 5, h => exact Or.inr h
    | 6, h => left; cases h; rfl
    | 7, h => left; cases h; rfl
    | 8, h => left; cases h; rfl
    | 9, h => left; cases h; rfl
    | i + 10, h => simp at h) kk
/-- an int is compared -/
theorem g_tailI (hC : gC E RL cL_law 10 p l s m args meth c) (p0 : Nat) {off : Int} (q1 : decB cL_law p0 [.istore 7, .aload_n 2] (p0 + 3) = true) (d1 : decode cL_law (p0 + 3) = .ok (.invokevirtual 143, 3)) (q2 : decB cL_law (p0 + 6) [.iload 6] (p0 + 8) = true) (d2 : decode cL_law (p0 + 8) = .ok (.if_icmp .eq 5, 3))
    (q3 : decB cL_law (p0 + 13) [.iload 6] (p0 + 15) = true) (d3 : decode cL_law (p0 + 15) = .ok (.ifCond .ne 15, 3)) (q4 : decB cL_law (p0 + 18) [.aload_n 3, .iconst 0] (p0 + 20) = true) (d4 : decode cL_law (p0 + 20) = .ok (.laload, 1)) (q5 : decB cL_law (p0 + 21) [.iload 7] (p0 + 23) = true)
    (d5 : decode cL_law (p0 + 23) = .ok (.i2l, 1)) (d6 : decode cL_law (p0 + 24) = .ok (.lcmp, 1)) (d7 : decode cL_law (p0 + 25) = .ok (.ifCond .eq 5, 3)) (q6 : decB cL_law (p0 + 30) [.goto off] 2865 = true)
    (H : LI x b o d Sh V N2 P2 c2) (hCi : inI C) (h3 : V b 3 = C) (h0 : C = 0 → V o 0 = wI r) (hr : r' = if C = 0 then r else 0) (hk : k ≤ 601024) (hn : n ≤ 7293033)
    (K : ∀ z', gG E 10 p l e room_1 s m args below meth c Q 2865 [(2, b0), (2, x), (2, b), (2, o), (2, d), (0, i), (9, 0), (9, 0), (9, 0), (9, 0)] [] Sh V z' k n) : gG E 10 p l e room_1 s m args below meth c Q p0 [(2, b0), (2, x), (2, b), (2, o), (2, d), (0, i), (0, C), (9, 0), (9, 0), (9, 0)] [(0, r')] Sh V z k n := by
  refine gB hC _ _ _ _ _ _ _ q1 rfl ?_
  refine g_cV1i hC d1 mL_143 vX12_thrown (kX12_thrown H.md) rfl H.sb (by decide) rfl (Nat.le_of_ble_eq_true rfl) ⟨⟨Nat.le_of_ble_eq_true rfl, Nat.le_of_ble_eq_true rfl⟩, hk, hn⟩ (fun z1 i1 => ?_)
  refine g_widen (k' := k) (n' := n) (Nat.le_refl _) (Nat.le_refl _) ?_
  refine gB hC _ _ _ _ _ _ _ q2 rfl ?_
  refine g_icmp_eq hC (p0 + 13) d2 (by omega) i1 hCi (fun _ => ?_) (fun q => absurd h3 q)
  refine gB hC _ _ _ _ _ _ _ q3 rfl ?_
  refine g_if_ne hC (p0 + 30) d3 (by omega) hCi (fun _ => ?_) (fun hc => ?_)
  · refine gB hC _ _ _ _ _ _ _ q6 rfl ?_
    exact g_fgt4 (K _)
  · refine gB hC _ _ _ _ _ _ _ q4 rfl ?_
    refine g_lald hC d4 H.so (h0 hc) (by decide) (by decide) (by decide) (fun _ => ?_)
    refine gB hC _ _ _ _ _ _ _ q5 rfl ?_
    rw [hr, if_pos hc]
    refine g_wrap1 ?_
    refine g_i2l hC d5 (wI_in _) ?_
    refine g_lcmp hC d6 (wI_L _) (wI_L _) ?_
    refine g_if_eq hC (p0 + 30) d7 (by omega) (cmpZ_in _ _) (fun _ => ?_) (fun q => absurd ((cmpZ_eq _ _).mpr rfl) q)
    refine gB hC _ _ _ _ _ _ _ q6 rfl ?_
    exact g_fgt4 (K _)
/-- a long is compared -/
theorem g_tailL (hC : gC E RL cL_law 10 p l s m args meth c) (p0 : Nat) {off : Int} (q1 : decB cL_law p0 [.lstore 7, .aload_n 2] (p0 + 3) = true) (d1 : decode cL_law (p0 + 3) = .ok (.invokevirtual 143, 3)) (q2 : decB cL_law (p0 + 6) [.iload 6] (p0 + 8) = true) (d2 : decode cL_law (p0 + 8) = .ok (.if_icmp .eq 5, 3))
    (q3 : decB cL_law (p0 + 13) [.iload 6] (p0 + 15) = true) (d3 : decode cL_law (p0 + 15) = .ok (.ifCond .ne 14, 3)) (q4 : decB cL_law (p0 + 18) [.aload_n 3, .iconst 0] (p0 + 20) = true) (d4 : decode cL_law (p0 + 20) = .ok (.laload, 1)) (q5 : decB cL_law (p0 + 21) [.lload 7] (p0 + 23) = true)
    (d6 : decode cL_law (p0 + 23) = .ok (.lcmp, 1)) (d7 : decode cL_law (p0 + 24) = .ok (.ifCond .eq 5, 3)) (q6 : decB cL_law (p0 + 29) [.goto off] 2865 = true)
    (H : LI x b o d Sh V N2 P2 c2) (hCi : inI C) (h3 : V b 3 = C) (h0 : C = 0 → V o 0 = r) (hr : r' = if C = 0 then r else 0) (hri : C = 0 → inL r) (hk : k ≤ 601024) (hn : n ≤ 7293033)
    (K : ∀ z', gG E 10 p l e room_1 s m args below meth c Q 2865 [(2, b0), (2, x), (2, b), (2, o), (2, d), (0, i), (9, 0), (9, 0), (9, 0), (9, 0)] [] Sh V z' k n) : gG E 10 p l e room_1 s m args below meth c Q p0 [(2, b0), (2, x), (2, b), (2, o), (2, d), (0, i), (0, C), (9, 0), (9, 0), (9, 0)] [(1, r')] Sh V z k n := by
  refine gB hC _ _ _ _ _ _ _ q1 rfl ?_
  refine g_cV1i hC d1 mL_143 vX12_thrown (kX12_thrown H.md) rfl H.sb (by decide) rfl (Nat.le_of_ble_eq_true rfl) ⟨⟨Nat.le_of_ble_eq_true rfl, Nat.le_of_ble_eq_true rfl⟩, hk, hn⟩ (fun z1 i1 => ?_)
  refine g_widen (k' := k) (n' := n) (Nat.le_refl _) (Nat.le_refl _) ?_
  refine gB hC _ _ _ _ _ _ _ q2 rfl ?_
  refine g_icmp_eq hC (p0 + 13) d2 (by omega) i1 hCi (fun _ => ?_) (fun q => absurd h3 q)
  refine gB hC _ _ _ _ _ _ _ q3 rfl ?_
  refine g_if_ne hC (p0 + 29) d3 (by omega) hCi (fun _ => ?_) (fun hc => ?_)
  · refine gB hC _ _ _ _ _ _ _ q6 rfl ?_
    exact g_fgt4 (K _)
  · refine gB hC _ _ _ _ _ _ _ q4 rfl ?_
    refine g_lald hC d4 H.so (h0 hc) (by decide) (by decide) (by decide) (fun _ => ?_)
    refine gB hC _ _ _ _ _ _ _ q5 rfl ?_
    rw [hr, if_pos hc]
    refine g_lcmp hC d6 (hri hc) (hri hc) ?_
    refine g_if_eq hC (p0 + 29) d7 (by omega) (cmpZ_in _ _) (fun _ => ?_) (fun q => absurd ((cmpZ_eq _ _).mpr rfl) q)
    refine gB hC _ _ _ _ _ _ _ q6 rfl ?_
    exact g_fgt4 (K _)
end GTL
