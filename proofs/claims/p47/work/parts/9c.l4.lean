/-! the law: dice (rows laid by wip/p47/l4.py) -/
theorem lushr33 (x : Int) : ((Int64.ofInt x).toUInt64 >>> ((Int32.ofInt 33).toInt64.toUInt64 &&& Int64.toUInt64 63)).toInt64 = Int64.ofInt (x % 18446744073709551616 / 8589934592) := by
  have hb : ((Int32.ofInt 33).toInt64.toUInt64 &&& Int64.toUInt64 63) = 33 := by decide
  rw [hb]
  apply Int64.toBitVec_inj.mp
  apply BitVec.eq_of_toNat_eq
  show (BitVec.ofInt 64 x >>> (33 : UInt64).toBitVec.toNat).toNat = (BitVec.ofInt 64 (x % 18446744073709551616 / 8589934592)).toNat
  rw [BitVec.toNat_ushiftRight, BitVec.toNat_ofInt, BitVec.toNat_ofInt, Nat.shiftRight_eq_div_pow]
  have h33 : (33 : UInt64).toBitVec.toNat = 33 := by decide
  rw [h33]
  have e1 : ((2 ^ 64 : Nat) : Int) = 18446744073709551616 := rfl
  have e2 : (2 ^ 33 : Nat) = 8589934592 := rfl
  rw [e1, e2]
  omega
/-- a die is thrown: a number below n -/
def gDc (a n : Int) (Sh : gSh) (V : gV) : gPo := fun o Sh' V' _ => ∃ x σ : Int, o = .inl (some (0, x)) ∧ (0 ≤ x ∧ x < n) ∧ Sh' = Sh ∧ V' = up V a 0 σ
/-- the script -/
def gTs (E : gE) (s : State) (N : Nat) (xs : Nat → Int) : Prop := va_T .int (E.2.2 20) N (fun j => .int (Int32.ofInt (xs j))) (fun q => E.1 ≤ q) s s.heap
section DCE
variable {E : gE} {own : String} {cc : ByteArray} {nL : Nat} {p : Program} {l : Launch} {e : Env} {R : Room} {s : State} {m : MethodId} {args : Array Value} {below : List Frame} {meth : Method} {c : Code} {Q : State → Prop} {pc : Nat} {L st r rest st0 as : List aV} {Sh : gSh} {V : gV} {z : Int} {k n : Nat} {rm : Room}
theorem g_dice (hC : gC E own cc nL p l s m args meth c) {y : MethodName} {bytes : ByteArray} {x : Int} {maxL na ci idx : Nat} {ret : Option FieldType} {a : Int} (hd : decode cc pc = .ok (.invokevirtual idx, 3)) (hl : Cond.methodLink own idx y ∈ gws) (hY : gYV y bytes maxL ret na ci)
    (hM : gM E l y (Cond.code y bytes maxL ret) rm ((2, a) :: as) Sh V z (gDc a x Sh V)) (hst : st0 = as.reverse ++ (2, a) :: rest) (hsh : Sh a = some (ci, 0)) (hci : ci < 100) (hna : as.length = na) (hW : catS rest ≤ 8) (hR : (rm.frames + 1 ≤ R.frames ∧ 8 + (maxL + 11) + rm.locals ≤ R.locals) ∧ (k + rm.cells ≤ R.cells ∧ n + rm.slots ≤ R.slots))
    (kk : ∀ z' y σ V1, 0 ≤ y → y < x → V1 = up V a 0 σ → gG E nL p l e R s m args below meth c Q (pc + 3) L ((0, y) :: rest) Sh V1 z' (k + rm.cells) (n + rm.slots)) : gG E nL p l e R s m args below meth c Q pc L st0 Sh V z k n :=
  g_callV hC st0 hd hl hY hM hst hsh hci hna hW hR (fun r0 Sh' V' z' h => by obtain ⟨y, σ, h1, h2, rfl, h3⟩ := h; cases h1; exact kk z' y σ V' h2.1 h2.2 h3) (fun X Sh' V' z' h => by obtain ⟨y, σ, h1, _⟩ := h; cases h1)
theorem g_slen (hC : gC E own cc nL p l s m args meth c) {N : Nat} {xs : Nat → Int} (hd : decode cc pc = .ok (.arraylength, 1)) (ht : gTs E s N xs) (kk : gG E nL p l e R s m args below meth c Q (pc + 1) L ((0, (N : Int)) :: r) Sh V z k n) : gG E nL p l e R s m args below meth c Q pc L ((2, ((E.2.2 20 : Nat) : Int)) :: r) Sh V z k n := by
  obtain ⟨hx, hb, hml, hown, hts, -⟩ := hC
  obtain ⟨cell, q1, q2, q3, q4, q5, q6, q7⟩ := ht
  intro H locs ls h1 h2 h3 h4 h5
  rw [List.map_cons, cv_ref (by omega)]
  refine W.alen (n := Int32.ofNat N) hx hb (cell := cell) ?_ q2 q5 rfl rfl hd (kk H locs ls h1 h2 h3 h4 h5)
  rw [show (((E.2.2 20 : Nat) : Int)).toNat = E.2.2 20 from rfl, h3.2.1 _ (Array.getElem?_eq_some_iff.mp q1).1 q7]
  exact q1
theorem g_sald (hC : gC E own cc nL p l s m args meth c) {N : Nat} {xs : Nat → Int} {i : Nat} (hd : decode cc pc = .ok (.iaload, 1)) (ht : gTs E s N xs) (hi : i < N) (hN : N ≤ 1000) (kk : gG E nL p l e R s m args below meth c Q (pc + 1) L ((0, xs i) :: r) Sh V z k n) : gG E nL p l e R s m args below meth c Q pc L ((0, (i : Int)) :: (2, ((E.2.2 20 : Nat) : Int)) :: r) Sh V z k n := by
  obtain ⟨hx, hb, hml, hown, hts, -⟩ := hC
  obtain ⟨cell, q1, q2, q3, q4, q5, q6, q7⟩ := ht
  intro H locs ls h1 h2 h3 h4 h5
  have hq6 := q6 i hi
  rw [List.map_cons, List.map_cons, cv_ref (by omega)]
  refine W.iald hx hb (cell := cell) ?_ q2 q3 (v := cv (0, xs i)) (fun q => ?_) ?_ rfl rfl hd (kk H locs ls h1 h2 h3 h4 h5)
  · rw [show (((E.2.2 20 : Nat) : Int)).toNat = E.2.2 20 from rfl, h3.2.1 _ (Array.getElem?_eq_some_iff.mp q1).1 q7]
    exact q1
  · exact in_idx (x := (i : Int)) (n := N) (by omega) (by omega) (by omega) (q.imp_right (fun q => Nat.le_trans q4 q))
  · rw [in_clamp (x := (i : Int)) (by omega) (by omega)]
    exact hq6
end DCE

theorem kX12_next {E l Sh V z} {a9 n9 : Int} (hs9 : Sh a9 = some (11, 0)) (h1 : 1 ≤ n9) (h2 : n9 ≤ 2147483647) : gM E l yX12_next (.code yX12_next cX12_next 2 (some .int)) (rmk 0 0 0 0) [(2, a9), (0, n9)] Sh V z (gDc a9 n9 Sh V) := by
  refine gM_at (L0 := [(2, a9), (0, n9)]) rfl rfl rfl ?_
  intro p e s m args below meth c hC hr hex hnm hz
  refine gB hC _ _ _ _ _ _ _ qX12_next_0 rfl ?_
  refine g_getl hC dX12_next_2 fX12_9 hs9 (by decide) rfl 0 rfl (fun i2 => ?_)
  refine g_ldc2 hC 6364136223846793005 kX12_17 rfl dX12_next_5 ?_
  refine gB hC _ _ _ _ _ _ _ qX12_next_8 rfl ?_
  refine g_ldc2 hC 1442695040888963407 kX12_19 rfl dX12_next_9 ?_
  refine gB hC _ _ _ _ _ _ _ qX12_next_12 rfl ?_
  refine g_wrapL (fun v13 hv13 _ => ?_)
  refine g_putl hC dX12_next_13 fX12_9 hs9 (by decide) rfl (fun _ h => by cases h; rfl) 0 rfl (by first | omega | exact hv13) (fun V13 e13 => ?_)
  refine gB hC _ _ _ _ _ _ _ qX12_next_16 rfl ?_
  refine g_getl hC dX12_next_17 fX12_9 hs9 (by decide) rfl 0 rfl (fun i17 => ?_)
  refine gB hC _ _ _ _ _ _ _ qX12_next_20 rfl ?_
  refine g_lushr hC dX12_next_22 (lushr33 _) ?_
  refine gB hC _ _ _ _ _ _ _ qX12_next_23 rfl ?_
  refine g_i2l hC dX12_next_24 (by first | omega | exact hv13) ?_
  refine g_lrem hC dX12_next_25 (by first | omega | exact hv13) (by first | omega | exact hv13) (by omega) (by omega) ?_
  
  refine gB hC _ _ _ _ _ _ _ qX12_next_26 rfl ?_
  refine g_ireturn hC dX12_next_27 hr ⟨_, _, rfl, ⟨?_, ?_⟩, rfl, e13⟩ gs_rfl ⟨Nat.le_of_ble_eq_true rfl, Nat.le_of_ble_eq_true rfl⟩
  · exact Int.emod_nonneg _ (by omega)
  · exact Int.emod_lt_of_pos _ (by omega)
