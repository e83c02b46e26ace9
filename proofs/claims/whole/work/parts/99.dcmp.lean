/-! comparing a double with itself (laid by wip/whole/gen99.py) -/
theorem n64_dec {x : UInt64} (h : vf_n64 x) : FP.Core.decode FP.Core.b64 x.toNat ≠ .nan := by
  apply dec_ok
  unfold vf_n64 at h
  rw [UInt64.le_iff_toNat_le, UInt64.toNat_and] at h
  have e : (0x7fffffffffffffff : UInt64).toNat = 2 ^ 63 - 1 := by decide
  rw [e, Nat.and_two_pow_sub_one_eq_mod] at h
  exact h
theorem n32_dec {x : UInt32} (h : vf_n32 x) : FP.Core.decode FP.Core.b32 x.toNat ≠ .nan := by
  unfold vf_n32 at h
  rw [UInt32.le_iff_toNat_le, UInt32.toNat_and] at h
  have e : (0x7fffffff : UInt32).toNat = 2 ^ 31 - 1 := by decide
  rw [e, Nat.and_two_pow_sub_one_eq_mod] at h
  have h : x.toNat % 2147483648 ≤ 2139095040 := h
  have ht : FP.Core.b32.tails = 8388608 := by decide
  have hxp : FP.Core.b32.exps = 256 := by decide
  unfold FP.Core.decode
  split
  · rename_i h1
    split
    · intro q; cases q
    · rename_i h2
      unfold FP.Core.fieldE at h1
      unfold FP.Core.fieldT at h2
      rw [ht] at *
      rw [hxp] at h1
      omega
  · split <;> (intro q; cases q)
theorem order_self (d : FP.Core.Datum) (h : d ≠ .nan) : FP.Core.order d d = some .eq := by
  cases d with
  | nan => exact absurd rfl h
  | inf s => cases s <;> rfl
  | fin s c q => simp [FP.Core.order]
theorem dcmp_self {x : UInt64} (h : vf_n64 x) : FP.dcmp x x = some .eq := order_self _ (n64_dec h)
theorem fcmp_self {x : UInt32} (h : vf_n32 x) : FP.fcmp x x = some .eq := order_self _ (n32_dec h)
theorem f2d_n {x : UInt32} (h : vf_n32 x) : vf_n64 (FP.f2d x) := by
  have key : FP.Core.encode FP.Core.b64 (FP.Core.round FP.Core.b64 (FP.Core.decode FP.Core.b32 x.toNat)) < 18446744073709551616 ∧ FP.Core.encode FP.Core.b64 (FP.Core.round FP.Core.b64 (FP.Core.decode FP.Core.b32 x.toNat)) % 9223372036854775808 ≤ 9218868437227405312 := by
    apply enc_ok
    have hn := n32_dec h
    cases hz : FP.Core.decode FP.Core.b32 x.toNat with
    | nan => exact absurd hz hn
    | inf t => exact Or.inl ⟨_, rfl⟩
    | fin t c q => exact rr_ok _ _ _ _
  have hf : FP.Core.fIsNaN x = false := decide_eq_false (n32_dec h)
  unfold FP.f2d
  rw [if_neg (by rw [hf]; decide)]
  exact n64_of key.1 key.2
