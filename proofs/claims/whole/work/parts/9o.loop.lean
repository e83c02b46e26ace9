/-! the law: one call; the loop (laid by wip/whole/gen9o.py) -/
section LST
variable {E : gE} {p : Program} {l : Launch} {e : Env} {s : State} {m : MethodId} {args : Array Value} {below : List Frame} {meth : Method} {c : Code} {Q : State → Prop} {pc k n : Nat} {Sh : gSh} {V : gV} {z : Int}
variable {b0 Ls : Nat} {xs : Nat → Int32} {x b o d i cc : Int} {N : gN0} {P9 : Int → gN0}
set_option maxHeartbeats 4000000 in
theorem lw_step (hC : gC E RL cL_law 10 p l s m args meth c) {v : Int} (hv : inI v) (hX : va_X b0 Ls xs s s.heap) (hb0 : b0 < s.heap.size) (hbE : b0 < E.1) (hLs : Ls ≤ 3584) (hi0 : 0 ≤ i) (hi7 : i + 7 ≤ Ls) (H : LI x b o d Sh V N P9 cc) (hk : k + 60 ≤ 601024) (hn : n + 600 ≤ 7293033)
    (K : ∀ (N2 : gN0) (P2 : Int → gN0) (c2 : Int) (V2 : gV) (z2 : Int), LI x b o d Sh V2 N2 P2 c2 → gG E 10 p l e room_1 s m args below meth c Q 2865 [(2, (b0 : Int)), (2, x), (2, b), (2, o), (2, d), (0, i), (9, 0), (9, 0), (9, 0), (9, 0)] [] Sh V2 z2 (k + 60) (n + 600)) : gG E 10 p l e room_1 s m args below meth c Q 45 [(2, (b0 : Int)), (2, x), (2, b), (2, o), (2, d), (0, i), (9, 0), (9, 0), (9, 0), (9, 0)] [(0, v)] Sh V z k n := by
  by_cases hr : v < 0 ∨ 43 < v
  · refine g_tsOut hC 2865 dL_law_45 hv hr rfl ?_
    exact g_widen (k' := k + 60) (n' := n + 600) (by omega) (by omega) (K _ _ _ V z H)
  · have hc : v = 0 ∨ v = 1 ∨ v = 2 ∨ v = 3 ∨ v = 4 ∨ v = 5 ∨ v = 6 ∨ v = 7 ∨ v = 8 ∨ v = 9 ∨ v = 10 ∨ v = 11 ∨ v = 12 ∨ v = 13 ∨ v = 14 ∨ v = 15 ∨ v = 16 ∨ v = 17 ∨ v = 18 ∨ v = 19 ∨ v = 20 ∨ v = 21 ∨ v = 22 ∨ v = 23 ∨ v = 24 ∨ v = 25 ∨ v = 26 ∨ v = 27 ∨ v = 28 ∨ v = 29 ∨ v = 30 ∨ v = 31 ∨ v = 32 ∨ v = 33 ∨ v = 34 ∨ v = 35 ∨ v = 36 ∨ v = 37 ∨ v = 38 ∨ v = 39 ∨ v = 40 ∨ v = 41 ∨ v = 42 ∨ v = 43 := by omega
    rcases hc with rfl | rfl | rfl | rfl | rfl | rfl | rfl | rfl | rfl | rfl | rfl | rfl | rfl | rfl | rfl | rfl | rfl | rfl | rfl | rfl | rfl | rfl | rfl | rfl | rfl | rfl | rfl | rfl | rfl | rfl | rfl | rfl | rfl | rfl | rfl | rfl | rfl | rfl | rfl | rfl | rfl | rfl | rfl | rfl
    · exact g_tsIn hC 236 dL_law_45 (by decide) (by decide) (by decide) rfl rfl (lc_addKind hC hX hb0 hbE hLs hi0 hi7 H hk hn K)
    · exact g_tsIn hC 304 dL_law_45 (by decide) (by decide) (by decide) rfl rfl (lc_closeNight hC hX hb0 hbE hLs hi0 hi7 H hk hn K)
    · exact g_tsIn hC 400 dL_law_45 (by decide) (by decide) (by decide) rfl rfl (lc_setExtra hC hX hb0 hbE hLs hi0 hi7 H hk hn K)
    · exact g_tsIn hC 468 dL_law_45 (by decide) (by decide) (by decide) rfl rfl (lc_addSeason hC hX hb0 hbE hLs hi0 hi7 H hk hn K)
    · exact g_tsIn hC 560 dL_law_45 (by decide) (by decide) (by decide) rfl rfl (lc_setWeekend hC hX hb0 hbE hLs hi0 hi7 H hk hn K)
    · exact g_tsIn hC 628 dL_law_45 (by decide) (by decide) (by decide) rfl rfl (lc_ask hC hX hb0 hbE hLs hi0 hi7 H hk hn K)
    · exact g_tsIn hC 746 dL_law_45 (by decide) (by decide) (by decide) rfl rfl (lc_group hC hX hb0 hbE hLs hi0 hi7 H hk hn K)
    · exact g_tsIn hC 850 dL_law_45 (by decide) (by decide) (by decide) rfl rfl (lc_letGo hC hX hb0 hbE hLs hi0 hi7 H hk hn K)
    · exact g_tsIn hC 906 dL_law_45 (by decide) (by decide) (by decide) rfl rfl (lc_waitFor hC hX hb0 hbE hLs hi0 hi7 H hk hn K)
    · exact g_tsIn hC 1010 dL_law_45 (by decide) (by decide) (by decide) rfl rfl (lc_pay hC hX hb0 hbE hLs hi0 hi7 H hk hn K)
    · exact g_tsIn hC 1066 dL_law_45 (by decide) (by decide) (by decide) rfl rfl (lc_cancel hC hX hb0 hbE hLs hi0 hi7 H hk hn K)
    · exact g_tsIn hC 1122 dL_law_45 (by decide) (by decide) (by decide) rfl rfl (lc_longer hC hX hb0 hbE hLs hi0 hi7 H hk hn K)
    · exact g_tsIn hC 1190 dL_law_45 (by decide) (by decide) (by decide) rfl rfl (lc_shorter hC hX hb0 hbE hLs hi0 hi7 H hk hn K)
    · exact g_tsIn hC 1258 dL_law_45 (by decide) (by decide) (by decide) rfl rfl (lc_passes hC hX hb0 hbE hLs hi0 hi7 H hk hn K)
    · exact g_tsIn hC 1314 dL_law_45 (by decide) (by decide) (by decide) rfl rfl (lc_setOdds hC hX hb0 hbE hLs hi0 hi7 H hk hn K)
    · exact g_tsIn hC 1394 dL_law_45 (by decide) (by decide) (by decide) rfl rfl (lc_sell hC hX hb0 hbE hLs hi0 hi7 H hk hn K)
    · exact g_tsIn hC 1462 dL_law_45 (by decide) (by decide) (by decide) rfl rfl (lc_offer hC hX hb0 hbE hLs hi0 hi7 H hk hn K)
    · exact g_tsIn hC 1518 dL_law_45 (by decide) (by decide) (by decide) rfl rfl (lc_undo hC hX hb0 hbE hLs hi0 hi7 H hk hn K)
    · exact g_tsIn hC 1531 dL_law_45 (by decide) (by decide) (by decide) rfl rfl (lc_today hC hX hb0 hbE hLs hi0 hi7 H hk hn K)
    · exact g_tsIn hC 1544 dL_law_45 (by decide) (by decide) (by decide) rfl rfl (lc_dayOfWeek hC hX hb0 hbE hLs hi0 hi7 H hk hn K)
    · exact g_tsIn hC 1600 dL_law_45 (by decide) (by decide) (by decide) rfl rfl (lc_addDays hC hX hb0 hbE hLs hi0 hi7 H hk hn K)
    · exact g_tsIn hC 1668 dL_law_45 (by decide) (by decide) (by decide) rfl rfl (lc_kinds hC hX hb0 hbE hLs hi0 hi7 H hk hn K)
    · exact g_tsIn hC 1681 dL_law_45 (by decide) (by decide) (by decide) rfl rfl (lc_count hC hX hb0 hbE hLs hi0 hi7 H hk hn K)
    · exact g_tsIn hC 1749 dL_law_45 (by decide) (by decide) (by decide) rfl rfl (lc_greatest hC hX hb0 hbE hLs hi0 hi7 H hk hn K)
    · exact g_tsIn hC 1829 dL_law_45 (by decide) (by decide) (by decide) rfl rfl (lc_needed hC hX hb0 hbE hLs hi0 hi7 H hk hn K)
    · exact g_tsIn hC 1885 dL_law_45 (by decide) (by decide) (by decide) rfl rfl (lc_refusedNight hC hX hb0 hbE hLs hi0 hi7 H hk hn K)
    · exact g_tsIn hC 1898 dL_law_45 (by decide) (by decide) (by decide) rfl rfl (lc_stayAt hC hX hb0 hbE hLs hi0 hi7 H hk hn K)
    · exact g_tsIn hC 1966 dL_law_45 (by decide) (by decide) (by decide) rfl rfl (lc_roomOf hC hX hb0 hbE hLs hi0 hi7 H hk hn K)
    · exact g_tsIn hC 2022 dL_law_45 (by decide) (by decide) (by decide) rfl rfl (lc_priceOf hC hX hb0 hbE hLs hi0 hi7 H hk hn K)
    · exact g_tsIn hC 2090 dL_law_45 (by decide) (by decide) (by decide) rfl rfl (lc_refund hC hX hb0 hbE hLs hi0 hi7 H hk hn K)
    · exact g_tsIn hC 2146 dL_law_45 (by decide) (by decide) (by decide) rfl rfl (lc_book hC hX hb0 hbE hLs hi0 hi7 H hk hn K)
    · exact g_tsIn hC 2201 dL_law_45 (by decide) (by decide) (by decide) rfl rfl (lc_waiting hC hX hb0 hbE hLs hi0 hi7 H hk hn K)
    · exact g_tsIn hC 2214 dL_law_45 (by decide) (by decide) (by decide) rfl rfl (lc_awaited hC hX hb0 hbE hLs hi0 hi7 H hk hn K)
    · exact g_tsIn hC 2281 dL_law_45 (by decide) (by decide) (by decide) rfl rfl (lc_limit hC hX hb0 hbE hLs hi0 hi7 H hk hn K)
    · exact g_tsIn hC 2349 dL_law_45 (by decide) (by decide) (by decide) rfl rfl (lc_saleAt hC hX hb0 hbE hLs hi0 hi7 H hk hn K)
    · exact g_tsIn hC 2405 dL_law_45 (by decide) (by decide) (by decide) rfl rfl (lc_moreToSell hC hX hb0 hbE hLs hi0 hi7 H hk hn K)
    · exact g_tsIn hC 2485 dL_law_45 (by decide) (by decide) (by decide) rfl rfl (lc_minutes hC hX hb0 hbE hLs hi0 hi7 H hk hn K)
    · exact g_tsIn hC 2541 dL_law_45 (by decide) (by decide) (by decide) rfl rfl (lc_rounds hC hX hb0 hbE hLs hi0 hi7 H hk hn K)
    · exact g_tsIn hC 2597 dL_law_45 (by decide) (by decide) (by decide) rfl rfl (lc_monthNights hC hX hb0 hbE hLs hi0 hi7 H hk hn K)
    · exact g_tsIn hC 2653 dL_law_45 (by decide) (by decide) (by decide) rfl rfl (lc_monthIncome hC hX hb0 hbE hLs hi0 hi7 H hk hn K)
    · exact g_tsIn hC 2708 dL_law_45 (by decide) (by decide) (by decide) rfl rfl (lc_meanPrice hC hX hb0 hbE hLs hi0 hi7 H hk hn K)
    · exact g_tsIn hC 2749 dL_law_45 (by decide) (by decide) (by decide) rfl rfl (lc_share hC hX hb0 hbE hLs hi0 hi7 H hk hn K)
    · exact g_tsIn hC 2839 dL_law_45 (by decide) (by decide) (by decide) rfl rfl (lc_checksum hC hX hb0 hbE hLs hi0 hi7 H hk hn K)
    · exact g_tsIn hC 2852 dL_law_45 (by decide) (by decide) (by decide) rfl rfl (lc_errors hC hX hb0 hbE hLs hi0 hi7 H hk hn K)
end LST
section LLP
variable {E : gE} {p : Program} {l : Launch} {e : Env} {s : State} {m : MethodId} {args : Array Value} {below : List Frame} {meth : Method} {c : Code} {Q : State → Prop} {pc k n : Nat} {Sh : gSh} {V : gV} {z : Int}
variable {b0 Ls : Nat} {xs : Nat → Int32} {x b o d i cc : Int} {N : gN0} {P9 : Int → gN0}
theorem lw_loop (hC : gC E RL cL_law 10 p l s m #[Value.ref b0] meth c) (hE : E.1 = s.heap.size) (hr : meth.sig.returnType = ret) (hX : va_X b0 Ls xs s s.heap) (hb0 : b0 < s.heap.size) (hLs : Ls ≤ 3584) : ∀ (t j : Nat) (i : Int) (V : gV) (N : gN0) (P9 : Int → gN0) (cc z : Int), t + j = 513 → i = 7 * (j : Int) → LI x b o d Sh V N P9 cc →
    gG E 10 p l e room_1 s m #[Value.ref b0] below meth c (lw_Z below #[Value.ref b0] s) 28 [(2, (b0 : Int)), (2, x), (2, b), (2, o), (2, d), (0, i), (9, 0), (9, 0), (9, 0), (9, 0)] [] Sh V z (1200 + 60 * j) (70000 + 600 * j) := by
  intro t
  induction t with
  | zero =>
    intro j i V N P9 cc z hj hi H
    refine gB hC _ _ _ _ _ _ _ qL_law_28 rfl ?_
    refine g_slen hC hX hb0 (by omega) dL_law_31 ?_
    refine gB hC _ _ _ _ _ _ _ qL_law_32 rfl ?_
    refine g_icmp_gt hC 2871 dL_law_35 rfl (by omega) (by omega) (fun _ => ?_) (fun q => by omega)
    refine gB hC _ _ _ _ _ _ _ qL_law_2871 rfl ?_
    exact g_lawEnd hC hE hr dL_law_2872 (by omega) (by omega)
  | succ t ih =>
    intro j i V N P9 cc z hj hi H
    refine gB hC _ _ _ _ _ _ _ qL_law_28 rfl ?_
    refine g_slen hC hX hb0 (by omega) dL_law_31 ?_
    refine gB hC _ _ _ _ _ _ _ qL_law_32 rfl ?_
    refine g_icmp_gt hC 2871 dL_law_35 rfl (by omega) (by omega) (fun _ => ?_) (fun q => ?_)
    · refine gB hC _ _ _ _ _ _ _ qL_law_2871 rfl ?_
      exact g_lawEnd hC hE hr dL_law_2872 (by omega) (by omega)
    · refine gB hC _ _ _ _ _ _ _ qL_law_38 rfl ?_
      refine g_sld hC hX hb0 (by omega) dL_law_41 (by omega) (by omega) hLs ?_
      refine gB hC _ _ _ _ _ _ _ qL_law_42 rfl ?_
      refine g_and63 hC dL_law_44 (fun v hv => ?_)
      refine lw_step hC hv hX hb0 (by omega) hLs (by omega) (by omega) H (by omega) (by omega) (fun N2 P2 c2 V2 z2 H2 => ?_)
      refine gB hC _ _ _ _ _ _ _ qL_law_2865 rfl ?_
      refine g_widen (k' := 1200 + 60 * (j + 1)) (n' := 70000 + 600 * (j + 1)) (by omega) (by omega) ?_
      exact ih (j + 1) (i + 7) V2 N2 P2 c2 z2 (by omega) (by omega) H2
end LLP
