/-! the class: rounds, powers (rows laid by wip/whole/c4.py) -/
def pwZ (b : Int) : Nat → Int
  | 0 => 1
  | n + 1 => pwZ b n * b
def fewZ (a b : Int) : Int := a / 2 + a % 2 + (max 0 (b - a / 2 - 3 * (a % 2)) + 5) / 6
theorem roF_few {a b : Int} (ha : 0 ≤ a) (hb : 0 ≤ b) : ∀ n : Nat, (n : Int) ≤ a / 2 + 1 → fewZ a b ≤ roF a b n := by
  intro n
  induction n with
  | zero => intro _; show fewZ a b ≤ a + b; unfold fewZ; omega
  | succ n ih =>
    intro hn
    have := ih (by omega)
    unfold roF
    unfold fewZ at *
    omega
/-- pairs of long rooms are best -/
theorem roF_eq {a b : Int} (ha : 0 ≤ a) (hb : 0 ≤ b) : roF a b (a / 2 + 1).toNat = fewZ a b := by
  have h1 := roF_few ha hb (a / 2 + 1).toNat (by omega)
  have h2 : (a / 2 + 1).toNat = (a / 2).toNat + 1 := by omega
  rw [h2] at h1 ⊢
  have h3 : roF a b ((a / 2).toNat + 1) ≤ fewZ a b := by
    unfold roF fewZ
    omega
  omega

theorem kX11_power {E l Sh V z} {b0 : Int} {n0 : Int} (h0 : 0 ≤ n0) (h1 : inI n0) : gM E l yX11_power (.code yX11_power cX11_power 6 (some .long)) (rmk 0 0 0 0) [(1, b0), (0, n0)] Sh V z (gR (some (1, pwZ b0 n0.toNat)) Sh V) := by
  refine gM_at (L0 := [(1, b0), (9, 0), (0, n0), (9, 0), (9, 0), (9, 0)]) rfl rfl rfl ?_
  intro p e s m args below meth c hC hr hex hnm hz
  refine gB hC _ _ _ _ _ _ _ qX11_power_0 rfl ?_
  refine g_loop (fun x : Nat => (x : Int) ≤ n0) (fun x => (n0 - (x : Int)).toNat) 5 (fun x => [(1, b0), (9, 0), (0, n0), (1, pwZ b0 x), (9, 0), (0, (x : Int))]) (fun _ => V) 0 (by show (0 : Int) ≤ n0; omega) ?_
  rintro n z hn ih
  refine gB hC _ _ _ _ _ _ _ qX11_power_5 rfl ?_
  refine g_icmp_ge hC 21 dX11_power_8 rfl (by first | omega | exact bI_in _) (by first | omega | exact bI_in _) (fun c8 => ?_) (fun c8 => ?_)
  · obtain rfl : n = n0.toNat := by omega
    refine gB hC _ _ _ _ _ _ _ qX11_power_21 rfl ?_
    refine g_lreturn hC dX11_power_22 hr ⟨rfl, rfl, rfl⟩ gs_rfl ⟨Nat.le_of_ble_eq_true rfl, Nat.le_of_ble_eq_true rfl⟩
  · refine gB hC _ _ _ _ _ _ _ qX11_power_11 rfl ?_
    exact ih (n + 1) z (by show ((n + 1 : Nat) : Int) ≤ n0; omega) (by show (n0 - ((n + 1 : Nat) : Int)).toNat < (n0 - (n : Int)).toNat; omega)

