/-! Ground: a place by an order, the least of all choices -/
section LE1
variable {G : g_G} {h : List va_E} {a ka n w9 t9 : Nat} {x z9 : Int64} {y : Int32}
def f_next (x : Int64) : Int64 := if x &&& -x = 0 then 0 else (x + (x &&& -x)) ||| f_sr (x ^^^ (x + (x &&& -x))) 2 / (x &&& -x)
theorem r_X7_next : g_Run G mX7_nextOfLikeSize 1 0 0 [.long x] h (some (.long (f_next x))) h := by
  refine g_Run.of (lv := [(0, .long x)]) (by decide) (Nat.le_of_ble_eq_true rfl) rfl ?_
  refine a_lload_n 0 1 rfl dX7_nextOfLikeSize_0 rfl rfl ?_
  refine a_lload_n 0 2 rfl dX7_nextOfLikeSize_1 rfl rfl ?_
  refine a_lneg 3 rfl dX7_nextOfLikeSize_2 ?_
  refine a_land 4 rfl dX7_nextOfLikeSize_3 ?_
  refine a_lstore_n (lv' := [(2, .long (x &&& (-x))), (0, .long x)]) 5 rfl dX7_nextOfLikeSize_4 rfl (by decide) rfl ?_
  refine a_lload_n 0 6 rfl dX7_nextOfLikeSize_5 rfl rfl ?_
  refine a_lconst (x := 0) 7 rfl dX7_nextOfLikeSize_6 (by decide) ?_
  refine a_lcmp 8 rfl dX7_nextOfLikeSize_7 ?_
  by_cases e9 : x &&& -x = 0
  · skip
    refine a_if_ne 13 11 rfl dX7_nextOfLikeSize_8 (by decide) (fun hc => absurd ((g_cmp_eq.mpr e9)) hc) (fun _ => ?_)
    refine a_lconst (x := 0) 12 rfl dX7_nextOfLikeSize_11 (by decide) ?_
    exact a_lreturn rfl ((by rw [f_next, if_pos e9])) (rfl) dX7_nextOfLikeSize_12
  · skip
    refine a_if_ne 13 11 rfl dX7_nextOfLikeSize_8 (by decide) (fun _ => ?_) (fun hc => absurd hc ((g_cmp_ne.mpr e9)))
    refine a_lload_n 1 14 rfl dX7_nextOfLikeSize_13 rfl rfl ?_
    refine a_lload_n 0 15 rfl dX7_nextOfLikeSize_14 rfl rfl ?_
    refine a_ladd 16 rfl dX7_nextOfLikeSize_15 ?_
    refine a_lstore (lv' := [(4, .long (x + (x &&& (-x)))), (2, .long (x &&& (-x))), (0, .long x)]) 18 rfl dX7_nextOfLikeSize_16 (by decide) rfl ?_
    refine a_lload 0 20 rfl dX7_nextOfLikeSize_18 rfl ?_
    refine a_lload_n 2 21 rfl dX7_nextOfLikeSize_20 rfl rfl ?_
    refine a_lload 0 23 rfl dX7_nextOfLikeSize_21 rfl ?_
    refine a_lxor 24 rfl dX7_nextOfLikeSize_23 ?_
    refine a_iconst (x := 2) 25 rfl dX7_nextOfLikeSize_24 (by decide) ?_
    refine a_lushr 26 rfl dX7_nextOfLikeSize_25 ?_
    refine a_lload_n 1 27 rfl dX7_nextOfLikeSize_26 rfl rfl ?_
    refine a_ldiv 28 rfl dX7_nextOfLikeSize_27 (e9) ?_
    refine a_lor 29 rfl dX7_nextOfLikeSize_28 ?_
    exact a_lreturn rfl ((by rw [f_next, if_neg e9]; rfl)) (rfl) dX7_nextOfLikeSize_29
/-- of the places l those whose numbers, from i on, are chosen -/
def f_spread (x : Int64) : Nat → Nat → Int64 → Int64 → Int64
  | 0, _, _, s => s
  | t + 1, i, l, s => if l = 0 then s else f_spread x t (i + 1) (l ^^^ (l &&& -l)) (if f_sr x (nI i) &&& 1 = 0 then s else s ||| (l &&& -l))
theorem r_X7_spread : g_Run G mX7_spread 1 0 0 [.long x, .long z9] h (some (.long (f_spread x 64 0 z9 0))) h := by
  refine g_Run.of (lv := [(0, .long x), (2, .long z9)]) (by decide) (Nat.le_of_ble_eq_true rfl) rfl ?_
  refine a_lload_n 1 1 rfl dX7_spread_0 rfl rfl ?_
  refine a_lstore (lv' := [(4, .long z9), (0, .long x), (2, .long z9)]) 3 rfl dX7_spread_1 (by decide) rfl ?_
  refine a_lconst (x := 0) 4 rfl dX7_spread_3 (by decide) ?_
  refine a_lstore (lv' := [(6, .long 0), (4, .long z9), (0, .long x), (2, .long z9)]) 6 rfl dX7_spread_4 (by decide) rfl ?_
  refine a_iconst (x := 0) 7 rfl dX7_spread_6 (by decide) ?_
  refine a_istore (lv' := [(8, .int 0), (6, .long 0), (4, .long z9), (0, .long x), (2, .long z9)]) 9 rfl dX7_spread_7 (by decide) rfl ?_
  have key : ∀ jj ii : Nat, ii + jj = 64 → ∀ l9 s9 : Int64, g_A G mX7_spread 1 0 0 9 [(8, .int (nI ii)), (6, .long s9), (4, .long l9), (0, .long x), (2, .long z9)] [] h (some (.long (f_spread x jj ii l9 s9))) h := by
    intro jj
    induction jj with
    | zero =>
      intro ii hii l9 s9
      refine a_iload 0 11 rfl dX7_spread_9 rfl ?_
      refine a_bipush (x := 64) 13 rfl dX7_spread_11 (by decide) ?_
      refine a_icmp_ge 62 16 rfl dX7_spread_13 (by decide) (fun _ => ?_) (fun hc => absurd ((nI_le (a := 64) (by omega) (by omega))) hc)
      refine a_lload 1 64 rfl dX7_spread_62 rfl ?_
      exact a_lreturn rfl (rfl) (rfl) dX7_spread_64
    | succ jj ih =>
      intro ii hii l9 s9
      refine a_iload 0 11 rfl dX7_spread_9 rfl ?_
      refine a_bipush (x := 64) 13 rfl dX7_spread_11 (by decide) ?_
      refine a_icmp_ge 62 16 rfl dX7_spread_13 (by decide) (fun hc => absurd hc ((nI_ge (b := 64) (by omega) (by omega)))) (fun _ => ?_)
      refine a_lload 2 18 rfl dX7_spread_16 rfl ?_
      refine a_lconst (x := 0) 19 rfl dX7_spread_18 (by decide) ?_
      refine a_lcmp 20 rfl dX7_spread_19 ?_
      by_cases e9 : l9 = 0
      · skip
        refine a_if_eq 62 23 rfl dX7_spread_20 (by decide) (fun _ => ?_) (fun hc => absurd ((g_cmp_eq.mpr e9)) hc)
        refine a_lload 1 64 rfl dX7_spread_62 rfl ?_
        exact a_lreturn rfl ((by rw [f_spread, if_pos e9])) (rfl) dX7_spread_64
      · skip
        refine a_if_eq 62 23 rfl dX7_spread_20 (by decide) (fun hc => absurd hc ((fun q9 => e9 (g_cmp_eq.mp q9)))) (fun _ => ?_)
        refine a_lload 2 25 rfl dX7_spread_23 rfl ?_
        refine a_lload 2 27 rfl dX7_spread_25 rfl ?_
        refine a_lneg 28 rfl dX7_spread_27 ?_
        refine a_land 29 rfl dX7_spread_28 ?_
        refine a_lstore (lv' := [(9, .long (l9 &&& (-l9))), (8, .int (nI ii)), (6, .long s9), (4, .long l9), (0, .long x), (2, .long z9)]) 31 rfl dX7_spread_29 (by decide) rfl ?_
        refine a_lload_n 4 32 rfl dX7_spread_31 rfl rfl ?_
        refine a_iload 1 34 rfl dX7_spread_32 rfl ?_
        refine a_lushr 35 rfl dX7_spread_34 ?_
        refine a_lconst (x := 1) 36 rfl dX7_spread_35 (by decide) ?_
        refine a_land 37 rfl dX7_spread_36 ?_
        refine a_lconst (x := 0) 38 rfl dX7_spread_37 (by decide) ?_
        refine a_lcmp 39 rfl dX7_spread_38 ?_
        by_cases e8 : f_sr x (nI ii) &&& 1 = 0
        · have e7 : f_spread x (jj + 1) ii l9 s9 = f_spread x jj (ii + 1) (l9 ^^^ (l9 &&& -l9)) s9 := by rw [f_spread, if_neg e9, if_pos e8]
          rw [e7]
          refine a_if_eq 49 42 rfl dX7_spread_39 (by decide) (fun _ => ?_) (fun hc => absurd ((g_cmp_eq.mpr e8)) hc)
          refine a_lload 3 51 rfl dX7_spread_49 rfl ?_
          refine a_lload 0 53 rfl dX7_spread_51 rfl ?_
          refine a_lxor 54 rfl dX7_spread_53 ?_
          refine a_lstore (lv' := [(4, .long (l9 ^^^ (l9 &&& (-l9)))), (9, .long (l9 &&& (-l9))), (8, .int (nI ii)), (6, .long s9), (0, .long x), (2, .long z9)]) 56 rfl dX7_spread_54 (by decide) rfl ?_
          refine a_iinc (y := nI (ii + 1)) (lv' := [(8, .int (nI (ii + 1))), (4, .long (l9 ^^^ (l9 &&& (-l9)))), (9, .long (l9 &&& (-l9))), (6, .long s9), (0, .long x), (2, .long z9)]) 2 59 rfl dX7_spread_56 rfl (nI_1 ii) (by decide) rfl ?_
          refine a_goto 9 dX7_spread_59 (by decide) ?_
          refine a_sub (lv' := [(8, .int (nI (ii + 1))), (6, .long s9), (4, .long (l9 ^^^ (l9 &&& -l9))), (0, .long x), (2, .long z9)]) [0, 3, 1, 4, 5] rfl ?_
          exact ih (ii + 1) (by omega) _ _
        · have e7 : f_spread x (jj + 1) ii l9 s9 = f_spread x jj (ii + 1) (l9 ^^^ (l9 &&& -l9)) (s9 ||| (l9 &&& -l9)) := by rw [f_spread, if_neg e9, if_neg e8]
          rw [e7]
          refine a_if_eq 49 42 rfl dX7_spread_39 (by decide) (fun hc => absurd hc ((fun q9 => e8 (g_cmp_eq.mp q9)))) (fun _ => ?_)
          refine a_lload 2 44 rfl dX7_spread_42 rfl ?_
          refine a_lload 0 46 rfl dX7_spread_44 rfl ?_
          refine a_lor 47 rfl dX7_spread_46 ?_
          refine a_lstore (lv' := [(6, .long (s9 ||| (l9 &&& (-l9)))), (9, .long (l9 &&& (-l9))), (8, .int (nI ii)), (4, .long l9), (0, .long x), (2, .long z9)]) 49 rfl dX7_spread_47 (by decide) rfl ?_
          refine a_lload 3 51 rfl dX7_spread_49 rfl ?_
          refine a_lload 1 53 rfl dX7_spread_51 rfl ?_
          refine a_lxor 54 rfl dX7_spread_53 ?_
          refine a_lstore (lv' := [(4, .long (l9 ^^^ (l9 &&& (-l9)))), (6, .long (s9 ||| (l9 &&& (-l9)))), (9, .long (l9 &&& (-l9))), (8, .int (nI ii)), (0, .long x), (2, .long z9)]) 56 rfl dX7_spread_54 (by decide) rfl ?_
          refine a_iinc (y := nI (ii + 1)) (lv' := [(8, .int (nI (ii + 1))), (4, .long (l9 ^^^ (l9 &&& (-l9)))), (6, .long (s9 ||| (l9 &&& (-l9)))), (9, .long (l9 &&& (-l9))), (0, .long x), (2, .long z9)]) 3 59 rfl dX7_spread_56 rfl (nI_1 ii) (by decide) rfl ?_
          refine a_goto 9 dX7_spread_59 (by decide) ?_
          refine a_sub (lv' := [(8, .int (nI (ii + 1))), (6, .long (s9 ||| (l9 &&& -l9))), (4, .long (l9 ^^^ (l9 &&& -l9))), (0, .long x), (2, .long z9)]) [0, 2, 1, 4, 5] rfl ?_
          exact ih (ii + 1) (by omega) _ _
  exact key 64 0 (by omega) z9 0
/-- the search for the least: measure g, among m, end e; so many more choices -/
def f_search (g : Int64 → Int32) (m e : Int64) : Nat → Int64 → Int64 → Int32 → Int64
  | 0, _, b, _ => b
  | t + 1, c, b, f => if f_next c ≤ 0 ∨ e ≤ f_next c then b else if g (f_spread (f_next c) 64 0 m 0) < f then f_search g m e t (f_next c) (f_spread (f_next c) 64 0 m 0) (g (f_spread (f_next c) 64 0 m 0)) else f_search g m e t (f_next c) b f
def f_leastOf (g : Int64 → Int32) (y : Int32) (m : Int64) : Int64 := f_search g m (f_sl 1 (f_bcL m)) 20000 (f_sl 1 y - 1) (f_spread (f_sl 1 y - 1) 64 0 m 0) (g (f_spread (f_sl 1 y - 1) 64 0 m 0))
theorem r_leastOf_cube0 (hC : h[a]? = some (c_O 3 [.ref (g_ad G ka), .int (nI n)])) (hn : n ≤ 6) (hy : 0 < y) : g_Run G mX7_leastOf 5 0 0 [.ref (g_ad G a), .int 0, .int y, .long z9] h (some (.long (f_leastOf (fun x => f_bcL (f_border x n)) y z9))) h := by
  have hme : ∀ x8 : Int64, g_Run G mX3_measure 4 0 0 [.ref (g_ad G a), .int 0, .long x8] h (some (.int ((fun x => f_bcL (f_border x n)) x8))) h := fun x8 => r_X3_measure0 hC hn
  refine g_Run.of (lv := [(0, .ref (g_ad G a)), (1, .int 0), (2, .int y), (3, .long z9)]) (by decide) (Nat.le_of_ble_eq_true rfl) rfl ?_
  refine a_iload_n 2 1 rfl dX7_leastOf_0 rfl rfl ?_
  refine a_if_gt 6 4 rfl dX7_leastOf_1 (by decide) (fun _ => ?_) (fun hc => absurd (hy) hc)
  refine a_lconst (x := 1) 7 rfl dX7_leastOf_6 (by decide) ?_
  refine a_lload_n 3 8 rfl dX7_leastOf_7 rfl rfl ?_
  refine a_callS (as := [.long z9]) (rest := [.long 1]) (st2 := [.int (f_bcL z9), .long 1]) (u1 := 0) (v1 := 0) (u2 := 0) (v2 := 0) (r_bitCountL) oJ13_bitCount_95d88 q_654 q_522 rfl (by omega) (by decide) rfl (Nat.le_of_ble_eq_true rfl) 11 rfl dX7_leastOf_8 rfl ?_
  refine a_lshl 12 rfl dX7_leastOf_11 ?_
  refine a_lstore (lv' := [(5, .long (f_sl (1 : Int64) (f_bcL z9))), (0, .ref (g_ad G a)), (1, .int 0), (2, .int y), (3, .long z9)]) 14 rfl dX7_leastOf_12 (by decide) rfl ?_
  refine a_lconst (x := 1) 15 rfl dX7_leastOf_14 (by decide) ?_
  refine a_iload_n 3 16 rfl dX7_leastOf_15 rfl rfl ?_
  refine a_lshl 17 rfl dX7_leastOf_16 ?_
  refine a_lconst (x := 1) 18 rfl dX7_leastOf_17 (by decide) ?_
  refine a_lsub 19 rfl dX7_leastOf_18 ?_
  refine a_lstore (lv' := [(7, .long ((f_sl (1 : Int64) y) - 1)), (5, .long (f_sl (1 : Int64) (f_bcL z9))), (0, .ref (g_ad G a)), (1, .int 0), (2, .int y), (3, .long z9)]) 21 rfl dX7_leastOf_19 (by decide) rfl ?_
  refine a_lload 0 23 rfl dX7_leastOf_21 rfl ?_
  refine a_lload_n 5 24 rfl dX7_leastOf_23 rfl rfl ?_
  refine a_callS (as := [.long ((f_sl (1 : Int64) y) - 1), .long z9]) (rest := []) (st2 := [.long (f_spread (f_sl 1 y - 1) 64 0 z9 0)]) (u1 := 0) (v1 := 0) (u2 := 0) (v2 := 0) (r_X7_spread) oX7_spread q_655 q_656 rfl (by omega) (by decide) rfl (Nat.le_of_ble_eq_true rfl) 27 rfl dX7_leastOf_24 rfl ?_
  refine a_lstore (lv' := [(9, .long (f_spread (f_sl 1 y - 1) 64 0 z9 0)), (7, .long ((f_sl (1 : Int64) y) - 1)), (5, .long (f_sl (1 : Int64) (f_bcL z9))), (0, .ref (g_ad G a)), (1, .int 0), (2, .int y), (3, .long z9)]) 29 rfl dX7_leastOf_27 (by decide) rfl ?_
  refine a_aload_n 3 30 rfl dX7_leastOf_29 rfl rfl ?_
  refine a_iload_n 4 31 rfl dX7_leastOf_30 rfl rfl ?_
  refine a_lload 0 33 rfl dX7_leastOf_31 rfl ?_
  refine a_callU (as := [.int 0, .long (f_spread (f_sl 1 y - 1) 64 0 z9 0)]) (C := RX3) (owner := "LeastShadows$Ground") (x := ⟨"LeastShadows$Ground", "measure", "(IJ)I"⟩) (rest := []) (st2 := [.int ((fun x => f_bcL (f_border x n)) (f_spread (f_sl 1 y - 1) 64 0 z9 0))]) (u1 := 0) (v1 := 0) (u2 := 0) (v2 := 0) (hme _) (⟨_, _, _, _, hC, rfl⟩) oX3_measure ⟨q_658, q_660, q_661, q_662, ⟨by decide, by decide⟩, Or.inr q_659⟩ rfl (by omega) (by decide) rfl (Nat.le_of_ble_eq_true rfl) 36 rfl dX7_leastOf_33 rfl ?_
  refine a_istore (lv' := [(11, .int ((fun x => f_bcL (f_border x n)) (f_spread (f_sl 1 y - 1) 64 0 z9 0))), (9, .long (f_spread (f_sl 1 y - 1) 64 0 z9 0)), (7, .long ((f_sl (1 : Int64) y) - 1)), (5, .long (f_sl (1 : Int64) (f_bcL z9))), (0, .ref (g_ad G a)), (1, .int 0), (2, .int y), (3, .long z9)]) 38 rfl dX7_leastOf_36 (by decide) rfl ?_
  refine a_iconst (x := 0) 39 rfl dX7_leastOf_38 (by decide) ?_
  refine a_istore (lv' := [(12, .int 0), (11, .int ((fun x => f_bcL (f_border x n)) (f_spread (f_sl 1 y - 1) 64 0 z9 0))), (9, .long (f_spread (f_sl 1 y - 1) 64 0 z9 0)), (7, .long ((f_sl (1 : Int64) y) - 1)), (5, .long (f_sl (1 : Int64) (f_bcL z9))), (0, .ref (g_ad G a)), (1, .int 0), (2, .int y), (3, .long z9)]) 41 rfl dX7_leastOf_39 (by decide) rfl ?_
  have key : ∀ jj ii : Nat, ii + jj = 20000 → ∀ (c9 b9 : Int64) (f9 : Int32), g_A G mX7_leastOf 5 0 0 41 [(12, .int (nI ii)), (11, .int f9), (9, .long b9), (7, .long c9), (5, .long (f_sl 1 (f_bcL z9))), (0, .ref (g_ad G a)), (1, .int 0), (2, .int y), (3, .long z9)] [] h (some (.long (f_search (fun x => f_bcL (f_border x n)) z9 (f_sl 1 (f_bcL z9)) jj c9 b9 f9))) h := by
    intro jj
    induction jj with
    | zero =>
      intro ii hii c9 b9 f9
      refine a_iload 0 43 rfl dX7_leastOf_41 rfl ?_
      refine a_sipush (x := 20000) 46 rfl dX7_leastOf_43 (by decide) ?_
      refine a_icmp_ge 112 49 rfl dX7_leastOf_46 (by decide) (fun _ => ?_) (fun hc => absurd ((nI_le (a := 20000) (by omega) (by omega))) hc)
      refine a_lload 2 114 rfl dX7_leastOf_112 rfl ?_
      exact a_lreturn rfl (rfl) (rfl) dX7_leastOf_114
    | succ jj ih =>
      intro ii hii c9 b9 f9
      refine a_iload 0 43 rfl dX7_leastOf_41 rfl ?_
      refine a_sipush (x := 20000) 46 rfl dX7_leastOf_43 (by decide) ?_
      refine a_icmp_ge 112 49 rfl dX7_leastOf_46 (by decide) (fun hc => absurd hc ((nI_ge (b := 20000) (by omega) (by omega)))) (fun _ => ?_)
      refine a_lload 3 51 rfl dX7_leastOf_49 rfl ?_
      refine a_callS (as := [.long c9]) (rest := []) (st2 := [.long (f_next c9)]) (u1 := 0) (v1 := 0) (u2 := 0) (v2 := 0) (r_X7_next) oX7_nextOfLikeSize q_686 q_687 rfl (by omega) (by decide) rfl (Nat.le_of_ble_eq_true rfl) 54 rfl dX7_leastOf_51 rfl ?_
      refine a_lstore (lv' := [(7, .long (f_next c9)), (12, .int (nI ii)), (11, .int f9), (9, .long b9), (5, .long (f_sl 1 (f_bcL z9))), (0, .ref (g_ad G a)), (1, .int 0), (2, .int y), (3, .long z9)]) 56 rfl dX7_leastOf_54 (by decide) rfl ?_
      refine a_lload 0 58 rfl dX7_leastOf_56 rfl ?_
      refine a_lconst (x := 0) 59 rfl dX7_leastOf_58 (by decide) ?_
      refine a_lcmp 60 rfl dX7_leastOf_59 ?_
      by_cases e9 : f_next c9 ≤ 0
      · skip
        refine a_if_le 112 63 rfl dX7_leastOf_60 (by decide) (fun _ => ?_) (fun hc => absurd ((g_cmp_le.mpr e9)) hc)
        refine a_lload 3 114 rfl dX7_leastOf_112 rfl ?_
        exact a_lreturn rfl ((by rw [f_search, if_pos (Or.inl e9)])) (rfl) dX7_leastOf_114
      · skip
        refine a_if_le 112 63 rfl dX7_leastOf_60 (by decide) (fun hc => absurd hc ((fun q9 => e9 (g_cmp_le.mp q9)))) (fun _ => ?_)
        refine a_lload 0 65 rfl dX7_leastOf_63 rfl ?_
        refine a_lload 4 67 rfl dX7_leastOf_65 rfl ?_
        refine a_lcmp 68 rfl dX7_leastOf_67 ?_
        by_cases e8 : f_sl 1 (f_bcL z9) ≤ f_next c9
        · skip
          refine a_if_lt 74 71 rfl dX7_leastOf_68 (by decide) (fun hc => absurd hc ((fun q9 => (Int64.not_lt.mpr e8) (g_cmp_lt.mp q9)))) (fun _ => ?_)
          refine a_goto 112 dX7_leastOf_71 (by decide) ?_
          refine a_lload 3 114 rfl dX7_leastOf_112 rfl ?_
          exact a_lreturn rfl ((by rw [f_search, if_pos (Or.inr e8)])) (rfl) dX7_leastOf_114
        · have e7 : ¬ (f_next c9 ≤ 0 ∨ f_sl 1 (f_bcL z9) ≤ f_next c9) := fun q9 => q9.elim e9 e8
          refine a_if_lt 74 71 rfl dX7_leastOf_68 (by decide) (fun _ => ?_) (fun hc => absurd ((g_cmp_lt.mpr (Int64.not_le.mp e8))) hc)
          refine a_lload 0 76 rfl dX7_leastOf_74 rfl ?_
          refine a_lload_n 8 77 rfl dX7_leastOf_76 rfl rfl ?_
          refine a_callS (as := [.long (f_next c9), .long z9]) (rest := []) (st2 := [.long (f_spread (f_next c9) 64 0 z9 0)]) (u1 := 0) (v1 := 0) (u2 := 0) (v2 := 0) (r_X7_spread) oX7_spread q_655 q_656 rfl (by omega) (by decide) rfl (Nat.le_of_ble_eq_true rfl) 80 rfl dX7_leastOf_77 rfl ?_
          refine a_lstore (lv' := [(13, .long (f_spread (f_next c9) 64 0 z9 0)), (7, .long (f_next c9)), (12, .int (nI ii)), (11, .int f9), (9, .long b9), (5, .long (f_sl 1 (f_bcL z9))), (0, .ref (g_ad G a)), (1, .int 0), (2, .int y), (3, .long z9)]) 82 rfl dX7_leastOf_80 (by decide) rfl ?_
          refine a_aload_n 6 83 rfl dX7_leastOf_82 rfl rfl ?_
          refine a_iload_n 7 84 rfl dX7_leastOf_83 rfl rfl ?_
          refine a_lload 0 86 rfl dX7_leastOf_84 rfl ?_
          refine a_callU (as := [.int 0, .long (f_spread (f_next c9) 64 0 z9 0)]) (C := RX3) (owner := "LeastShadows$Ground") (x := ⟨"LeastShadows$Ground", "measure", "(IJ)I"⟩) (rest := []) (st2 := [.int ((fun x => f_bcL (f_border x n)) (f_spread (f_next c9) 64 0 z9 0))]) (u1 := 0) (v1 := 0) (u2 := 0) (v2 := 0) (hme _) (⟨_, _, _, _, hC, rfl⟩) oX3_measure ⟨q_658, q_660, q_661, q_662, ⟨by decide, by decide⟩, Or.inr q_659⟩ rfl (by omega) (by decide) rfl (Nat.le_of_ble_eq_true rfl) 89 rfl dX7_leastOf_86 rfl ?_
          refine a_istore (lv' := [(15, .int ((fun x => f_bcL (f_border x n)) (f_spread (f_next c9) 64 0 z9 0))), (13, .long (f_spread (f_next c9) 64 0 z9 0)), (7, .long (f_next c9)), (12, .int (nI ii)), (11, .int f9), (9, .long b9), (5, .long (f_sl 1 (f_bcL z9))), (0, .ref (g_ad G a)), (1, .int 0), (2, .int y), (3, .long z9)]) 91 rfl dX7_leastOf_89 (by decide) rfl ?_
          refine a_iload 0 93 rfl dX7_leastOf_91 rfl ?_
          refine a_iload 4 95 rfl dX7_leastOf_93 rfl ?_
          by_cases e6 : (fun x => f_bcL (f_border x n)) (f_spread (f_next c9) 64 0 z9 0) < f9
          · have e5 : f_search (fun x => f_bcL (f_border x n)) z9 (f_sl 1 (f_bcL z9)) (jj + 1) c9 b9 f9 = f_search (fun x => f_bcL (f_border x n)) z9 (f_sl 1 (f_bcL z9)) jj (f_next c9) (f_spread (f_next c9) 64 0 z9 0) ((fun x => f_bcL (f_border x n)) (f_spread (f_next c9) 64 0 z9 0)) := by rw [f_search, if_neg e7, if_pos e6]
            rw [e5]
            refine a_icmp_ge 106 98 rfl dX7_leastOf_95 (by decide) (fun hc => absurd hc ((Int32.not_le.mpr e6))) (fun _ => ?_)
            refine a_iload 0 100 rfl dX7_leastOf_98 rfl ?_
            refine a_istore (lv' := [(11, .int ((fun x => f_bcL (f_border x n)) (f_spread (f_next c9) 64 0 z9 0))), (15, .int ((fun x => f_bcL (f_border x n)) (f_spread (f_next c9) 64 0 z9 0))), (13, .long (f_spread (f_next c9) 64 0 z9 0)), (7, .long (f_next c9)), (12, .int (nI ii)), (9, .long b9), (5, .long (f_sl 1 (f_bcL z9))), (0, .ref (g_ad G a)), (1, .int 0), (2, .int y), (3, .long z9)]) 102 rfl dX7_leastOf_100 (by decide) rfl ?_
            refine a_lload 2 104 rfl dX7_leastOf_102 rfl ?_
            refine a_lstore (lv' := [(9, .long (f_spread (f_next c9) 64 0 z9 0)), (11, .int ((fun x => f_bcL (f_border x n)) (f_spread (f_next c9) 64 0 z9 0))), (15, .int ((fun x => f_bcL (f_border x n)) (f_spread (f_next c9) 64 0 z9 0))), (13, .long (f_spread (f_next c9) 64 0 z9 0)), (7, .long (f_next c9)), (12, .int (nI ii)), (5, .long (f_sl 1 (f_bcL z9))), (0, .ref (g_ad G a)), (1, .int 0), (2, .int y), (3, .long z9)]) 106 rfl dX7_leastOf_104 (by decide) rfl ?_
            refine a_iinc (y := nI (ii + 1)) (lv' := [(12, .int (nI (ii + 1))), (9, .long (f_spread (f_next c9) 64 0 z9 0)), (11, .int ((fun x => f_bcL (f_border x n)) (f_spread (f_next c9) 64 0 z9 0))), (15, .int ((fun x => f_bcL (f_border x n)) (f_spread (f_next c9) 64 0 z9 0))), (13, .long (f_spread (f_next c9) 64 0 z9 0)), (7, .long (f_next c9)), (5, .long (f_sl 1 (f_bcL z9))), (0, .ref (g_ad G a)), (1, .int 0), (2, .int y), (3, .long z9)]) 5 109 rfl dX7_leastOf_106 rfl (nI_1 ii) (by decide) rfl ?_
            refine a_goto 41 dX7_leastOf_109 (by decide) ?_
            refine a_sub (lv' := [(12, .int (nI (ii + 1))), (11, .int ((fun x => f_bcL (f_border x n)) (f_spread (f_next c9) 64 0 z9 0))), (9, .long (f_spread (f_next c9) 64 0 z9 0)), (7, .long (f_next c9)), (5, .long (f_sl 1 (f_bcL z9))), (0, .ref (g_ad G a)), (1, .int 0), (2, .int y), (3, .long z9)]) [0, 2, 1, 5, 6, 7, 8, 9, 10] rfl ?_
            exact ih (ii + 1) (by omega) _ _ _
          · have e5 : f_search (fun x => f_bcL (f_border x n)) z9 (f_sl 1 (f_bcL z9)) (jj + 1) c9 b9 f9 = f_search (fun x => f_bcL (f_border x n)) z9 (f_sl 1 (f_bcL z9)) jj (f_next c9) b9 f9 := by rw [f_search, if_neg e7, if_neg e6]
            rw [e5]
            refine a_icmp_ge 106 98 rfl dX7_leastOf_95 (by decide) (fun _ => ?_) (fun hc => absurd ((Int32.not_lt.mp e6)) hc)
            refine a_iinc (y := nI (ii + 1)) (lv' := [(12, .int (nI (ii + 1))), (15, .int ((fun x => f_bcL (f_border x n)) (f_spread (f_next c9) 64 0 z9 0))), (13, .long (f_spread (f_next c9) 64 0 z9 0)), (7, .long (f_next c9)), (11, .int f9), (9, .long b9), (5, .long (f_sl 1 (f_bcL z9))), (0, .ref (g_ad G a)), (1, .int 0), (2, .int y), (3, .long z9)]) 3 109 rfl dX7_leastOf_106 rfl (nI_1 ii) (by decide) rfl ?_
            refine a_goto 41 dX7_leastOf_109 (by decide) ?_
            refine a_sub (lv' := [(12, .int (nI (ii + 1))), (11, .int f9), (9, .long b9), (7, .long (f_next c9)), (5, .long (f_sl 1 (f_bcL z9))), (0, .ref (g_ad G a)), (1, .int 0), (2, .int y), (3, .long z9)]) [0, 4, 5, 3, 6, 7, 8, 9, 10] rfl ?_
            exact ih (ii + 1) (by omega) _ _ _
  exact key 20000 0 (by omega) _ _ _

theorem r_leastOf_cube1 (hC : h[a]? = some (c_O 3 [.ref (g_ad G ka), .int (nI n)])) (hn : n ≤ 6) (hy : 0 < y) : g_Run G mX7_leastOf 5 0 0 [.ref (g_ad G a), .int 1, .int y, .long z9] h (some (.long (f_leastOf (fun x => f_edges x n n) y z9))) h := by
  have hme : ∀ x8 : Int64, g_Run G mX3_measure 4 0 0 [.ref (g_ad G a), .int 1, .long x8] h (some (.int ((fun x => f_edges x n n) x8))) h := fun x8 => r_X3_measure1 hC hn
  refine g_Run.of (lv := [(0, .ref (g_ad G a)), (1, .int 1), (2, .int y), (3, .long z9)]) (by decide) (Nat.le_of_ble_eq_true rfl) rfl ?_
  refine a_iload_n 2 1 rfl dX7_leastOf_0 rfl rfl ?_
  refine a_if_gt 6 4 rfl dX7_leastOf_1 (by decide) (fun _ => ?_) (fun hc => absurd (hy) hc)
  refine a_lconst (x := 1) 7 rfl dX7_leastOf_6 (by decide) ?_
  refine a_lload_n 3 8 rfl dX7_leastOf_7 rfl rfl ?_
  refine a_callS (as := [.long z9]) (rest := [.long 1]) (st2 := [.int (f_bcL z9), .long 1]) (u1 := 0) (v1 := 0) (u2 := 0) (v2 := 0) (r_bitCountL) oJ13_bitCount_95d88 q_654 q_522 rfl (by omega) (by decide) rfl (Nat.le_of_ble_eq_true rfl) 11 rfl dX7_leastOf_8 rfl ?_
  refine a_lshl 12 rfl dX7_leastOf_11 ?_
  refine a_lstore (lv' := [(5, .long (f_sl (1 : Int64) (f_bcL z9))), (0, .ref (g_ad G a)), (1, .int 1), (2, .int y), (3, .long z9)]) 14 rfl dX7_leastOf_12 (by decide) rfl ?_
  refine a_lconst (x := 1) 15 rfl dX7_leastOf_14 (by decide) ?_
  refine a_iload_n 3 16 rfl dX7_leastOf_15 rfl rfl ?_
  refine a_lshl 17 rfl dX7_leastOf_16 ?_
  refine a_lconst (x := 1) 18 rfl dX7_leastOf_17 (by decide) ?_
  refine a_lsub 19 rfl dX7_leastOf_18 ?_
  refine a_lstore (lv' := [(7, .long ((f_sl (1 : Int64) y) - 1)), (5, .long (f_sl (1 : Int64) (f_bcL z9))), (0, .ref (g_ad G a)), (1, .int 1), (2, .int y), (3, .long z9)]) 21 rfl dX7_leastOf_19 (by decide) rfl ?_
  refine a_lload 0 23 rfl dX7_leastOf_21 rfl ?_
  refine a_lload_n 5 24 rfl dX7_leastOf_23 rfl rfl ?_
  refine a_callS (as := [.long ((f_sl (1 : Int64) y) - 1), .long z9]) (rest := []) (st2 := [.long (f_spread (f_sl 1 y - 1) 64 0 z9 0)]) (u1 := 0) (v1 := 0) (u2 := 0) (v2 := 0) (r_X7_spread) oX7_spread q_655 q_656 rfl (by omega) (by decide) rfl (Nat.le_of_ble_eq_true rfl) 27 rfl dX7_leastOf_24 rfl ?_
  refine a_lstore (lv' := [(9, .long (f_spread (f_sl 1 y - 1) 64 0 z9 0)), (7, .long ((f_sl (1 : Int64) y) - 1)), (5, .long (f_sl (1 : Int64) (f_bcL z9))), (0, .ref (g_ad G a)), (1, .int 1), (2, .int y), (3, .long z9)]) 29 rfl dX7_leastOf_27 (by decide) rfl ?_
  refine a_aload_n 3 30 rfl dX7_leastOf_29 rfl rfl ?_
  refine a_iload_n 4 31 rfl dX7_leastOf_30 rfl rfl ?_
  refine a_lload 0 33 rfl dX7_leastOf_31 rfl ?_
  refine a_callU (as := [.int 1, .long (f_spread (f_sl 1 y - 1) 64 0 z9 0)]) (C := RX3) (owner := "LeastShadows$Ground") (x := ⟨"LeastShadows$Ground", "measure", "(IJ)I"⟩) (rest := []) (st2 := [.int ((fun x => f_edges x n n) (f_spread (f_sl 1 y - 1) 64 0 z9 0))]) (u1 := 0) (v1 := 0) (u2 := 0) (v2 := 0) (hme _) (⟨_, _, _, _, hC, rfl⟩) oX3_measure ⟨q_658, q_660, q_661, q_662, ⟨by decide, by decide⟩, Or.inr q_659⟩ rfl (by omega) (by decide) rfl (Nat.le_of_ble_eq_true rfl) 36 rfl dX7_leastOf_33 rfl ?_
  refine a_istore (lv' := [(11, .int ((fun x => f_edges x n n) (f_spread (f_sl 1 y - 1) 64 0 z9 0))), (9, .long (f_spread (f_sl 1 y - 1) 64 0 z9 0)), (7, .long ((f_sl (1 : Int64) y) - 1)), (5, .long (f_sl (1 : Int64) (f_bcL z9))), (0, .ref (g_ad G a)), (1, .int 1), (2, .int y), (3, .long z9)]) 38 rfl dX7_leastOf_36 (by decide) rfl ?_
  refine a_iconst (x := 0) 39 rfl dX7_leastOf_38 (by decide) ?_
  refine a_istore (lv' := [(12, .int 0), (11, .int ((fun x => f_edges x n n) (f_spread (f_sl 1 y - 1) 64 0 z9 0))), (9, .long (f_spread (f_sl 1 y - 1) 64 0 z9 0)), (7, .long ((f_sl (1 : Int64) y) - 1)), (5, .long (f_sl (1 : Int64) (f_bcL z9))), (0, .ref (g_ad G a)), (1, .int 1), (2, .int y), (3, .long z9)]) 41 rfl dX7_leastOf_39 (by decide) rfl ?_
  have key : ∀ jj ii : Nat, ii + jj = 20000 → ∀ (c9 b9 : Int64) (f9 : Int32), g_A G mX7_leastOf 5 0 0 41 [(12, .int (nI ii)), (11, .int f9), (9, .long b9), (7, .long c9), (5, .long (f_sl 1 (f_bcL z9))), (0, .ref (g_ad G a)), (1, .int 1), (2, .int y), (3, .long z9)] [] h (some (.long (f_search (fun x => f_edges x n n) z9 (f_sl 1 (f_bcL z9)) jj c9 b9 f9))) h := by
    intro jj
    induction jj with
    | zero =>
      intro ii hii c9 b9 f9
      refine a_iload 0 43 rfl dX7_leastOf_41 rfl ?_
      refine a_sipush (x := 20000) 46 rfl dX7_leastOf_43 (by decide) ?_
      refine a_icmp_ge 112 49 rfl dX7_leastOf_46 (by decide) (fun _ => ?_) (fun hc => absurd ((nI_le (a := 20000) (by omega) (by omega))) hc)
      refine a_lload 2 114 rfl dX7_leastOf_112 rfl ?_
      exact a_lreturn rfl (rfl) (rfl) dX7_leastOf_114
    | succ jj ih =>
      intro ii hii c9 b9 f9
      refine a_iload 0 43 rfl dX7_leastOf_41 rfl ?_
      refine a_sipush (x := 20000) 46 rfl dX7_leastOf_43 (by decide) ?_
      refine a_icmp_ge 112 49 rfl dX7_leastOf_46 (by decide) (fun hc => absurd hc ((nI_ge (b := 20000) (by omega) (by omega)))) (fun _ => ?_)
      refine a_lload 3 51 rfl dX7_leastOf_49 rfl ?_
      refine a_callS (as := [.long c9]) (rest := []) (st2 := [.long (f_next c9)]) (u1 := 0) (v1 := 0) (u2 := 0) (v2 := 0) (r_X7_next) oX7_nextOfLikeSize q_686 q_687 rfl (by omega) (by decide) rfl (Nat.le_of_ble_eq_true rfl) 54 rfl dX7_leastOf_51 rfl ?_
      refine a_lstore (lv' := [(7, .long (f_next c9)), (12, .int (nI ii)), (11, .int f9), (9, .long b9), (5, .long (f_sl 1 (f_bcL z9))), (0, .ref (g_ad G a)), (1, .int 1), (2, .int y), (3, .long z9)]) 56 rfl dX7_leastOf_54 (by decide) rfl ?_
      refine a_lload 0 58 rfl dX7_leastOf_56 rfl ?_
      refine a_lconst (x := 0) 59 rfl dX7_leastOf_58 (by decide) ?_
      refine a_lcmp 60 rfl dX7_leastOf_59 ?_
      by_cases e9 : f_next c9 ≤ 0
      · skip
        refine a_if_le 112 63 rfl dX7_leastOf_60 (by decide) (fun _ => ?_) (fun hc => absurd ((g_cmp_le.mpr e9)) hc)
        refine a_lload 3 114 rfl dX7_leastOf_112 rfl ?_
        exact a_lreturn rfl ((by rw [f_search, if_pos (Or.inl e9)])) (rfl) dX7_leastOf_114
      · skip
        refine a_if_le 112 63 rfl dX7_leastOf_60 (by decide) (fun hc => absurd hc ((fun q9 => e9 (g_cmp_le.mp q9)))) (fun _ => ?_)
        refine a_lload 0 65 rfl dX7_leastOf_63 rfl ?_
        refine a_lload 4 67 rfl dX7_leastOf_65 rfl ?_
        refine a_lcmp 68 rfl dX7_leastOf_67 ?_
        by_cases e8 : f_sl 1 (f_bcL z9) ≤ f_next c9
        · skip
          refine a_if_lt 74 71 rfl dX7_leastOf_68 (by decide) (fun hc => absurd hc ((fun q9 => (Int64.not_lt.mpr e8) (g_cmp_lt.mp q9)))) (fun _ => ?_)
          refine a_goto 112 dX7_leastOf_71 (by decide) ?_
          refine a_lload 3 114 rfl dX7_leastOf_112 rfl ?_
          exact a_lreturn rfl ((by rw [f_search, if_pos (Or.inr e8)])) (rfl) dX7_leastOf_114
        · have e7 : ¬ (f_next c9 ≤ 0 ∨ f_sl 1 (f_bcL z9) ≤ f_next c9) := fun q9 => q9.elim e9 e8
          refine a_if_lt 74 71 rfl dX7_leastOf_68 (by decide) (fun _ => ?_) (fun hc => absurd ((g_cmp_lt.mpr (Int64.not_le.mp e8))) hc)
          refine a_lload 0 76 rfl dX7_leastOf_74 rfl ?_
          refine a_lload_n 8 77 rfl dX7_leastOf_76 rfl rfl ?_
          refine a_callS (as := [.long (f_next c9), .long z9]) (rest := []) (st2 := [.long (f_spread (f_next c9) 64 0 z9 0)]) (u1 := 0) (v1 := 0) (u2 := 0) (v2 := 0) (r_X7_spread) oX7_spread q_655 q_656 rfl (by omega) (by decide) rfl (Nat.le_of_ble_eq_true rfl) 80 rfl dX7_leastOf_77 rfl ?_
          refine a_lstore (lv' := [(13, .long (f_spread (f_next c9) 64 0 z9 0)), (7, .long (f_next c9)), (12, .int (nI ii)), (11, .int f9), (9, .long b9), (5, .long (f_sl 1 (f_bcL z9))), (0, .ref (g_ad G a)), (1, .int 1), (2, .int y), (3, .long z9)]) 82 rfl dX7_leastOf_80 (by decide) rfl ?_
          refine a_aload_n 6 83 rfl dX7_leastOf_82 rfl rfl ?_
          refine a_iload_n 7 84 rfl dX7_leastOf_83 rfl rfl ?_
          refine a_lload 0 86 rfl dX7_leastOf_84 rfl ?_
          refine a_callU (as := [.int 1, .long (f_spread (f_next c9) 64 0 z9 0)]) (C := RX3) (owner := "LeastShadows$Ground") (x := ⟨"LeastShadows$Ground", "measure", "(IJ)I"⟩) (rest := []) (st2 := [.int ((fun x => f_edges x n n) (f_spread (f_next c9) 64 0 z9 0))]) (u1 := 0) (v1 := 0) (u2 := 0) (v2 := 0) (hme _) (⟨_, _, _, _, hC, rfl⟩) oX3_measure ⟨q_658, q_660, q_661, q_662, ⟨by decide, by decide⟩, Or.inr q_659⟩ rfl (by omega) (by decide) rfl (Nat.le_of_ble_eq_true rfl) 89 rfl dX7_leastOf_86 rfl ?_
          refine a_istore (lv' := [(15, .int ((fun x => f_edges x n n) (f_spread (f_next c9) 64 0 z9 0))), (13, .long (f_spread (f_next c9) 64 0 z9 0)), (7, .long (f_next c9)), (12, .int (nI ii)), (11, .int f9), (9, .long b9), (5, .long (f_sl 1 (f_bcL z9))), (0, .ref (g_ad G a)), (1, .int 1), (2, .int y), (3, .long z9)]) 91 rfl dX7_leastOf_89 (by decide) rfl ?_
          refine a_iload 0 93 rfl dX7_leastOf_91 rfl ?_
          refine a_iload 4 95 rfl dX7_leastOf_93 rfl ?_
          by_cases e6 : (fun x => f_edges x n n) (f_spread (f_next c9) 64 0 z9 0) < f9
          · have e5 : f_search (fun x => f_edges x n n) z9 (f_sl 1 (f_bcL z9)) (jj + 1) c9 b9 f9 = f_search (fun x => f_edges x n n) z9 (f_sl 1 (f_bcL z9)) jj (f_next c9) (f_spread (f_next c9) 64 0 z9 0) ((fun x => f_edges x n n) (f_spread (f_next c9) 64 0 z9 0)) := by rw [f_search, if_neg e7, if_pos e6]
            rw [e5]
            refine a_icmp_ge 106 98 rfl dX7_leastOf_95 (by decide) (fun hc => absurd hc ((Int32.not_le.mpr e6))) (fun _ => ?_)
            refine a_iload 0 100 rfl dX7_leastOf_98 rfl ?_
            refine a_istore (lv' := [(11, .int ((fun x => f_edges x n n) (f_spread (f_next c9) 64 0 z9 0))), (15, .int ((fun x => f_edges x n n) (f_spread (f_next c9) 64 0 z9 0))), (13, .long (f_spread (f_next c9) 64 0 z9 0)), (7, .long (f_next c9)), (12, .int (nI ii)), (9, .long b9), (5, .long (f_sl 1 (f_bcL z9))), (0, .ref (g_ad G a)), (1, .int 1), (2, .int y), (3, .long z9)]) 102 rfl dX7_leastOf_100 (by decide) rfl ?_
            refine a_lload 2 104 rfl dX7_leastOf_102 rfl ?_
            refine a_lstore (lv' := [(9, .long (f_spread (f_next c9) 64 0 z9 0)), (11, .int ((fun x => f_edges x n n) (f_spread (f_next c9) 64 0 z9 0))), (15, .int ((fun x => f_edges x n n) (f_spread (f_next c9) 64 0 z9 0))), (13, .long (f_spread (f_next c9) 64 0 z9 0)), (7, .long (f_next c9)), (12, .int (nI ii)), (5, .long (f_sl 1 (f_bcL z9))), (0, .ref (g_ad G a)), (1, .int 1), (2, .int y), (3, .long z9)]) 106 rfl dX7_leastOf_104 (by decide) rfl ?_
            refine a_iinc (y := nI (ii + 1)) (lv' := [(12, .int (nI (ii + 1))), (9, .long (f_spread (f_next c9) 64 0 z9 0)), (11, .int ((fun x => f_edges x n n) (f_spread (f_next c9) 64 0 z9 0))), (15, .int ((fun x => f_edges x n n) (f_spread (f_next c9) 64 0 z9 0))), (13, .long (f_spread (f_next c9) 64 0 z9 0)), (7, .long (f_next c9)), (5, .long (f_sl 1 (f_bcL z9))), (0, .ref (g_ad G a)), (1, .int 1), (2, .int y), (3, .long z9)]) 5 109 rfl dX7_leastOf_106 rfl (nI_1 ii) (by decide) rfl ?_
            refine a_goto 41 dX7_leastOf_109 (by decide) ?_
            refine a_sub (lv' := [(12, .int (nI (ii + 1))), (11, .int ((fun x => f_edges x n n) (f_spread (f_next c9) 64 0 z9 0))), (9, .long (f_spread (f_next c9) 64 0 z9 0)), (7, .long (f_next c9)), (5, .long (f_sl 1 (f_bcL z9))), (0, .ref (g_ad G a)), (1, .int 1), (2, .int y), (3, .long z9)]) [0, 2, 1, 5, 6, 7, 8, 9, 10] rfl ?_
            exact ih (ii + 1) (by omega) _ _ _
          · have e5 : f_search (fun x => f_edges x n n) z9 (f_sl 1 (f_bcL z9)) (jj + 1) c9 b9 f9 = f_search (fun x => f_edges x n n) z9 (f_sl 1 (f_bcL z9)) jj (f_next c9) b9 f9 := by rw [f_search, if_neg e7, if_neg e6]
            rw [e5]
            refine a_icmp_ge 106 98 rfl dX7_leastOf_95 (by decide) (fun _ => ?_) (fun hc => absurd ((Int32.not_lt.mp e6)) hc)
            refine a_iinc (y := nI (ii + 1)) (lv' := [(12, .int (nI (ii + 1))), (15, .int ((fun x => f_edges x n n) (f_spread (f_next c9) 64 0 z9 0))), (13, .long (f_spread (f_next c9) 64 0 z9 0)), (7, .long (f_next c9)), (11, .int f9), (9, .long b9), (5, .long (f_sl 1 (f_bcL z9))), (0, .ref (g_ad G a)), (1, .int 1), (2, .int y), (3, .long z9)]) 3 109 rfl dX7_leastOf_106 rfl (nI_1 ii) (by decide) rfl ?_
            refine a_goto 41 dX7_leastOf_109 (by decide) ?_
            refine a_sub (lv' := [(12, .int (nI (ii + 1))), (11, .int f9), (9, .long b9), (7, .long (f_next c9)), (5, .long (f_sl 1 (f_bcL z9))), (0, .ref (g_ad G a)), (1, .int 1), (2, .int y), (3, .long z9)]) [0, 4, 5, 3, 6, 7, 8, 9, 10] rfl ?_
            exact ih (ii + 1) (by omega) _ _ _
  exact key 20000 0 (by omega) _ _ _

theorem r_leastOf_cube2 (hC : h[a]? = some (c_O 3 [.ref (g_ad G ka), .int (nI n)])) (hn : n ≤ 6) (hy : 0 < y) : g_Run G mX7_leastOf 5 0 0 [.ref (g_ad G a), .int 2, .int y, .long z9] h (some (.long (f_leastOf (fun x => f_bcL (f_shadow x n)) y z9))) h := by
  have hme : ∀ x8 : Int64, g_Run G mX3_measure 4 0 0 [.ref (g_ad G a), .int 2, .long x8] h (some (.int ((fun x => f_bcL (f_shadow x n)) x8))) h := fun x8 => r_X3_measure2 hC hn
  refine g_Run.of (lv := [(0, .ref (g_ad G a)), (1, .int 2), (2, .int y), (3, .long z9)]) (by decide) (Nat.le_of_ble_eq_true rfl) rfl ?_
  refine a_iload_n 2 1 rfl dX7_leastOf_0 rfl rfl ?_
  refine a_if_gt 6 4 rfl dX7_leastOf_1 (by decide) (fun _ => ?_) (fun hc => absurd (hy) hc)
  refine a_lconst (x := 1) 7 rfl dX7_leastOf_6 (by decide) ?_
  refine a_lload_n 3 8 rfl dX7_leastOf_7 rfl rfl ?_
  refine a_callS (as := [.long z9]) (rest := [.long 1]) (st2 := [.int (f_bcL z9), .long 1]) (u1 := 0) (v1 := 0) (u2 := 0) (v2 := 0) (r_bitCountL) oJ13_bitCount_95d88 q_654 q_522 rfl (by omega) (by decide) rfl (Nat.le_of_ble_eq_true rfl) 11 rfl dX7_leastOf_8 rfl ?_
  refine a_lshl 12 rfl dX7_leastOf_11 ?_
  refine a_lstore (lv' := [(5, .long (f_sl (1 : Int64) (f_bcL z9))), (0, .ref (g_ad G a)), (1, .int 2), (2, .int y), (3, .long z9)]) 14 rfl dX7_leastOf_12 (by decide) rfl ?_
  refine a_lconst (x := 1) 15 rfl dX7_leastOf_14 (by decide) ?_
  refine a_iload_n 3 16 rfl dX7_leastOf_15 rfl rfl ?_
  refine a_lshl 17 rfl dX7_leastOf_16 ?_
  refine a_lconst (x := 1) 18 rfl dX7_leastOf_17 (by decide) ?_
  refine a_lsub 19 rfl dX7_leastOf_18 ?_
  refine a_lstore (lv' := [(7, .long ((f_sl (1 : Int64) y) - 1)), (5, .long (f_sl (1 : Int64) (f_bcL z9))), (0, .ref (g_ad G a)), (1, .int 2), (2, .int y), (3, .long z9)]) 21 rfl dX7_leastOf_19 (by decide) rfl ?_
  refine a_lload 0 23 rfl dX7_leastOf_21 rfl ?_
  refine a_lload_n 5 24 rfl dX7_leastOf_23 rfl rfl ?_
  refine a_callS (as := [.long ((f_sl (1 : Int64) y) - 1), .long z9]) (rest := []) (st2 := [.long (f_spread (f_sl 1 y - 1) 64 0 z9 0)]) (u1 := 0) (v1 := 0) (u2 := 0) (v2 := 0) (r_X7_spread) oX7_spread q_655 q_656 rfl (by omega) (by decide) rfl (Nat.le_of_ble_eq_true rfl) 27 rfl dX7_leastOf_24 rfl ?_
  refine a_lstore (lv' := [(9, .long (f_spread (f_sl 1 y - 1) 64 0 z9 0)), (7, .long ((f_sl (1 : Int64) y) - 1)), (5, .long (f_sl (1 : Int64) (f_bcL z9))), (0, .ref (g_ad G a)), (1, .int 2), (2, .int y), (3, .long z9)]) 29 rfl dX7_leastOf_27 (by decide) rfl ?_
  refine a_aload_n 3 30 rfl dX7_leastOf_29 rfl rfl ?_
  refine a_iload_n 4 31 rfl dX7_leastOf_30 rfl rfl ?_
  refine a_lload 0 33 rfl dX7_leastOf_31 rfl ?_
  refine a_callU (as := [.int 2, .long (f_spread (f_sl 1 y - 1) 64 0 z9 0)]) (C := RX3) (owner := "LeastShadows$Ground") (x := ⟨"LeastShadows$Ground", "measure", "(IJ)I"⟩) (rest := []) (st2 := [.int ((fun x => f_bcL (f_shadow x n)) (f_spread (f_sl 1 y - 1) 64 0 z9 0))]) (u1 := 0) (v1 := 0) (u2 := 0) (v2 := 0) (hme _) (⟨_, _, _, _, hC, rfl⟩) oX3_measure ⟨q_658, q_660, q_661, q_662, ⟨by decide, by decide⟩, Or.inr q_659⟩ rfl (by omega) (by decide) rfl (Nat.le_of_ble_eq_true rfl) 36 rfl dX7_leastOf_33 rfl ?_
  refine a_istore (lv' := [(11, .int ((fun x => f_bcL (f_shadow x n)) (f_spread (f_sl 1 y - 1) 64 0 z9 0))), (9, .long (f_spread (f_sl 1 y - 1) 64 0 z9 0)), (7, .long ((f_sl (1 : Int64) y) - 1)), (5, .long (f_sl (1 : Int64) (f_bcL z9))), (0, .ref (g_ad G a)), (1, .int 2), (2, .int y), (3, .long z9)]) 38 rfl dX7_leastOf_36 (by decide) rfl ?_
  refine a_iconst (x := 0) 39 rfl dX7_leastOf_38 (by decide) ?_
  refine a_istore (lv' := [(12, .int 0), (11, .int ((fun x => f_bcL (f_shadow x n)) (f_spread (f_sl 1 y - 1) 64 0 z9 0))), (9, .long (f_spread (f_sl 1 y - 1) 64 0 z9 0)), (7, .long ((f_sl (1 : Int64) y) - 1)), (5, .long (f_sl (1 : Int64) (f_bcL z9))), (0, .ref (g_ad G a)), (1, .int 2), (2, .int y), (3, .long z9)]) 41 rfl dX7_leastOf_39 (by decide) rfl ?_
  have key : ∀ jj ii : Nat, ii + jj = 20000 → ∀ (c9 b9 : Int64) (f9 : Int32), g_A G mX7_leastOf 5 0 0 41 [(12, .int (nI ii)), (11, .int f9), (9, .long b9), (7, .long c9), (5, .long (f_sl 1 (f_bcL z9))), (0, .ref (g_ad G a)), (1, .int 2), (2, .int y), (3, .long z9)] [] h (some (.long (f_search (fun x => f_bcL (f_shadow x n)) z9 (f_sl 1 (f_bcL z9)) jj c9 b9 f9))) h := by
    intro jj
    induction jj with
    | zero =>
      intro ii hii c9 b9 f9
      refine a_iload 0 43 rfl dX7_leastOf_41 rfl ?_
      refine a_sipush (x := 20000) 46 rfl dX7_leastOf_43 (by decide) ?_
      refine a_icmp_ge 112 49 rfl dX7_leastOf_46 (by decide) (fun _ => ?_) (fun hc => absurd ((nI_le (a := 20000) (by omega) (by omega))) hc)
      refine a_lload 2 114 rfl dX7_leastOf_112 rfl ?_
      exact a_lreturn rfl (rfl) (rfl) dX7_leastOf_114
    | succ jj ih =>
      intro ii hii c9 b9 f9
      refine a_iload 0 43 rfl dX7_leastOf_41 rfl ?_
      refine a_sipush (x := 20000) 46 rfl dX7_leastOf_43 (by decide) ?_
      refine a_icmp_ge 112 49 rfl dX7_leastOf_46 (by decide) (fun hc => absurd hc ((nI_ge (b := 20000) (by omega) (by omega)))) (fun _ => ?_)
      refine a_lload 3 51 rfl dX7_leastOf_49 rfl ?_
      refine a_callS (as := [.long c9]) (rest := []) (st2 := [.long (f_next c9)]) (u1 := 0) (v1 := 0) (u2 := 0) (v2 := 0) (r_X7_next) oX7_nextOfLikeSize q_686 q_687 rfl (by omega) (by decide) rfl (Nat.le_of_ble_eq_true rfl) 54 rfl dX7_leastOf_51 rfl ?_
      refine a_lstore (lv' := [(7, .long (f_next c9)), (12, .int (nI ii)), (11, .int f9), (9, .long b9), (5, .long (f_sl 1 (f_bcL z9))), (0, .ref (g_ad G a)), (1, .int 2), (2, .int y), (3, .long z9)]) 56 rfl dX7_leastOf_54 (by decide) rfl ?_
      refine a_lload 0 58 rfl dX7_leastOf_56 rfl ?_
      refine a_lconst (x := 0) 59 rfl dX7_leastOf_58 (by decide) ?_
      refine a_lcmp 60 rfl dX7_leastOf_59 ?_
      by_cases e9 : f_next c9 ≤ 0
      · skip
        refine a_if_le 112 63 rfl dX7_leastOf_60 (by decide) (fun _ => ?_) (fun hc => absurd ((g_cmp_le.mpr e9)) hc)
        refine a_lload 3 114 rfl dX7_leastOf_112 rfl ?_
        exact a_lreturn rfl ((by rw [f_search, if_pos (Or.inl e9)])) (rfl) dX7_leastOf_114
      · skip
        refine a_if_le 112 63 rfl dX7_leastOf_60 (by decide) (fun hc => absurd hc ((fun q9 => e9 (g_cmp_le.mp q9)))) (fun _ => ?_)
        refine a_lload 0 65 rfl dX7_leastOf_63 rfl ?_
        refine a_lload 4 67 rfl dX7_leastOf_65 rfl ?_
        refine a_lcmp 68 rfl dX7_leastOf_67 ?_
        by_cases e8 : f_sl 1 (f_bcL z9) ≤ f_next c9
        · skip
          refine a_if_lt 74 71 rfl dX7_leastOf_68 (by decide) (fun hc => absurd hc ((fun q9 => (Int64.not_lt.mpr e8) (g_cmp_lt.mp q9)))) (fun _ => ?_)
          refine a_goto 112 dX7_leastOf_71 (by decide) ?_
          refine a_lload 3 114 rfl dX7_leastOf_112 rfl ?_
          exact a_lreturn rfl ((by rw [f_search, if_pos (Or.inr e8)])) (rfl) dX7_leastOf_114
        · have e7 : ¬ (f_next c9 ≤ 0 ∨ f_sl 1 (f_bcL z9) ≤ f_next c9) := fun q9 => q9.elim e9 e8
          refine a_if_lt 74 71 rfl dX7_leastOf_68 (by decide) (fun _ => ?_) (fun hc => absurd ((g_cmp_lt.mpr (Int64.not_le.mp e8))) hc)
          refine a_lload 0 76 rfl dX7_leastOf_74 rfl ?_
          refine a_lload_n 8 77 rfl dX7_leastOf_76 rfl rfl ?_
          refine a_callS (as := [.long (f_next c9), .long z9]) (rest := []) (st2 := [.long (f_spread (f_next c9) 64 0 z9 0)]) (u1 := 0) (v1 := 0) (u2 := 0) (v2 := 0) (r_X7_spread) oX7_spread q_655 q_656 rfl (by omega) (by decide) rfl (Nat.le_of_ble_eq_true rfl) 80 rfl dX7_leastOf_77 rfl ?_
          refine a_lstore (lv' := [(13, .long (f_spread (f_next c9) 64 0 z9 0)), (7, .long (f_next c9)), (12, .int (nI ii)), (11, .int f9), (9, .long b9), (5, .long (f_sl 1 (f_bcL z9))), (0, .ref (g_ad G a)), (1, .int 2), (2, .int y), (3, .long z9)]) 82 rfl dX7_leastOf_80 (by decide) rfl ?_
          refine a_aload_n 6 83 rfl dX7_leastOf_82 rfl rfl ?_
          refine a_iload_n 7 84 rfl dX7_leastOf_83 rfl rfl ?_
          refine a_lload 0 86 rfl dX7_leastOf_84 rfl ?_
          refine a_callU (as := [.int 2, .long (f_spread (f_next c9) 64 0 z9 0)]) (C := RX3) (owner := "LeastShadows$Ground") (x := ⟨"LeastShadows$Ground", "measure", "(IJ)I"⟩) (rest := []) (st2 := [.int ((fun x => f_bcL (f_shadow x n)) (f_spread (f_next c9) 64 0 z9 0))]) (u1 := 0) (v1 := 0) (u2 := 0) (v2 := 0) (hme _) (⟨_, _, _, _, hC, rfl⟩) oX3_measure ⟨q_658, q_660, q_661, q_662, ⟨by decide, by decide⟩, Or.inr q_659⟩ rfl (by omega) (by decide) rfl (Nat.le_of_ble_eq_true rfl) 89 rfl dX7_leastOf_86 rfl ?_
          refine a_istore (lv' := [(15, .int ((fun x => f_bcL (f_shadow x n)) (f_spread (f_next c9) 64 0 z9 0))), (13, .long (f_spread (f_next c9) 64 0 z9 0)), (7, .long (f_next c9)), (12, .int (nI ii)), (11, .int f9), (9, .long b9), (5, .long (f_sl 1 (f_bcL z9))), (0, .ref (g_ad G a)), (1, .int 2), (2, .int y), (3, .long z9)]) 91 rfl dX7_leastOf_89 (by decide) rfl ?_
          refine a_iload 0 93 rfl dX7_leastOf_91 rfl ?_
          refine a_iload 4 95 rfl dX7_leastOf_93 rfl ?_
          by_cases e6 : (fun x => f_bcL (f_shadow x n)) (f_spread (f_next c9) 64 0 z9 0) < f9
          · have e5 : f_search (fun x => f_bcL (f_shadow x n)) z9 (f_sl 1 (f_bcL z9)) (jj + 1) c9 b9 f9 = f_search (fun x => f_bcL (f_shadow x n)) z9 (f_sl 1 (f_bcL z9)) jj (f_next c9) (f_spread (f_next c9) 64 0 z9 0) ((fun x => f_bcL (f_shadow x n)) (f_spread (f_next c9) 64 0 z9 0)) := by rw [f_search, if_neg e7, if_pos e6]
            rw [e5]
            refine a_icmp_ge 106 98 rfl dX7_leastOf_95 (by decide) (fun hc => absurd hc ((Int32.not_le.mpr e6))) (fun _ => ?_)
            refine a_iload 0 100 rfl dX7_leastOf_98 rfl ?_
            refine a_istore (lv' := [(11, .int ((fun x => f_bcL (f_shadow x n)) (f_spread (f_next c9) 64 0 z9 0))), (15, .int ((fun x => f_bcL (f_shadow x n)) (f_spread (f_next c9) 64 0 z9 0))), (13, .long (f_spread (f_next c9) 64 0 z9 0)), (7, .long (f_next c9)), (12, .int (nI ii)), (9, .long b9), (5, .long (f_sl 1 (f_bcL z9))), (0, .ref (g_ad G a)), (1, .int 2), (2, .int y), (3, .long z9)]) 102 rfl dX7_leastOf_100 (by decide) rfl ?_
            refine a_lload 2 104 rfl dX7_leastOf_102 rfl ?_
            refine a_lstore (lv' := [(9, .long (f_spread (f_next c9) 64 0 z9 0)), (11, .int ((fun x => f_bcL (f_shadow x n)) (f_spread (f_next c9) 64 0 z9 0))), (15, .int ((fun x => f_bcL (f_shadow x n)) (f_spread (f_next c9) 64 0 z9 0))), (13, .long (f_spread (f_next c9) 64 0 z9 0)), (7, .long (f_next c9)), (12, .int (nI ii)), (5, .long (f_sl 1 (f_bcL z9))), (0, .ref (g_ad G a)), (1, .int 2), (2, .int y), (3, .long z9)]) 106 rfl dX7_leastOf_104 (by decide) rfl ?_
            refine a_iinc (y := nI (ii + 1)) (lv' := [(12, .int (nI (ii + 1))), (9, .long (f_spread (f_next c9) 64 0 z9 0)), (11, .int ((fun x => f_bcL (f_shadow x n)) (f_spread (f_next c9) 64 0 z9 0))), (15, .int ((fun x => f_bcL (f_shadow x n)) (f_spread (f_next c9) 64 0 z9 0))), (13, .long (f_spread (f_next c9) 64 0 z9 0)), (7, .long (f_next c9)), (5, .long (f_sl 1 (f_bcL z9))), (0, .ref (g_ad G a)), (1, .int 2), (2, .int y), (3, .long z9)]) 5 109 rfl dX7_leastOf_106 rfl (nI_1 ii) (by decide) rfl ?_
            refine a_goto 41 dX7_leastOf_109 (by decide) ?_
            refine a_sub (lv' := [(12, .int (nI (ii + 1))), (11, .int ((fun x => f_bcL (f_shadow x n)) (f_spread (f_next c9) 64 0 z9 0))), (9, .long (f_spread (f_next c9) 64 0 z9 0)), (7, .long (f_next c9)), (5, .long (f_sl 1 (f_bcL z9))), (0, .ref (g_ad G a)), (1, .int 2), (2, .int y), (3, .long z9)]) [0, 2, 1, 5, 6, 7, 8, 9, 10] rfl ?_
            exact ih (ii + 1) (by omega) _ _ _
          · have e5 : f_search (fun x => f_bcL (f_shadow x n)) z9 (f_sl 1 (f_bcL z9)) (jj + 1) c9 b9 f9 = f_search (fun x => f_bcL (f_shadow x n)) z9 (f_sl 1 (f_bcL z9)) jj (f_next c9) b9 f9 := by rw [f_search, if_neg e7, if_neg e6]
            rw [e5]
            refine a_icmp_ge 106 98 rfl dX7_leastOf_95 (by decide) (fun _ => ?_) (fun hc => absurd ((Int32.not_lt.mp e6)) hc)
            refine a_iinc (y := nI (ii + 1)) (lv' := [(12, .int (nI (ii + 1))), (15, .int ((fun x => f_bcL (f_shadow x n)) (f_spread (f_next c9) 64 0 z9 0))), (13, .long (f_spread (f_next c9) 64 0 z9 0)), (7, .long (f_next c9)), (11, .int f9), (9, .long b9), (5, .long (f_sl 1 (f_bcL z9))), (0, .ref (g_ad G a)), (1, .int 2), (2, .int y), (3, .long z9)]) 3 109 rfl dX7_leastOf_106 rfl (nI_1 ii) (by decide) rfl ?_
            refine a_goto 41 dX7_leastOf_109 (by decide) ?_
            refine a_sub (lv' := [(12, .int (nI (ii + 1))), (11, .int f9), (9, .long b9), (7, .long (f_next c9)), (5, .long (f_sl 1 (f_bcL z9))), (0, .ref (g_ad G a)), (1, .int 2), (2, .int y), (3, .long z9)]) [0, 4, 5, 3, 6, 7, 8, 9, 10] rfl ?_
            exact ih (ii + 1) (by omega) _ _ _
  exact key 20000 0 (by omega) _ _ _

theorem r_leastOf_grid0 (hC : h[a]? = some (c_O 6 [.ref (g_ad G ka), .int (nI w9), .int (nI t9)])) (hp : w9 * t9 ≤ 64) (ht : t9 ≤ 8) (hy : 0 < y) : g_Run G mX7_leastOf 5 0 0 [.ref (g_ad G a), .int 0, .int y, .long z9] h (some (.long (f_leastOf (fun x => f_bcL (f_borderG w9 t9 x)) y z9))) h := by
  have hme : ∀ x8 : Int64, g_Run G mX6_measure 4 0 0 [.ref (g_ad G a), .int 0, .long x8] h (some (.int ((fun x => f_bcL (f_borderG w9 t9 x)) x8))) h := fun x8 => r_X6_measure0 hC hp ht
  refine g_Run.of (lv := [(0, .ref (g_ad G a)), (1, .int 0), (2, .int y), (3, .long z9)]) (by decide) (Nat.le_of_ble_eq_true rfl) rfl ?_
  refine a_iload_n 2 1 rfl dX7_leastOf_0 rfl rfl ?_
  refine a_if_gt 6 4 rfl dX7_leastOf_1 (by decide) (fun _ => ?_) (fun hc => absurd (hy) hc)
  refine a_lconst (x := 1) 7 rfl dX7_leastOf_6 (by decide) ?_
  refine a_lload_n 3 8 rfl dX7_leastOf_7 rfl rfl ?_
  refine a_callS (as := [.long z9]) (rest := [.long 1]) (st2 := [.int (f_bcL z9), .long 1]) (u1 := 0) (v1 := 0) (u2 := 0) (v2 := 0) (r_bitCountL) oJ13_bitCount_95d88 q_654 q_522 rfl (by omega) (by decide) rfl (Nat.le_of_ble_eq_true rfl) 11 rfl dX7_leastOf_8 rfl ?_
  refine a_lshl 12 rfl dX7_leastOf_11 ?_
  refine a_lstore (lv' := [(5, .long (f_sl (1 : Int64) (f_bcL z9))), (0, .ref (g_ad G a)), (1, .int 0), (2, .int y), (3, .long z9)]) 14 rfl dX7_leastOf_12 (by decide) rfl ?_
  refine a_lconst (x := 1) 15 rfl dX7_leastOf_14 (by decide) ?_
  refine a_iload_n 3 16 rfl dX7_leastOf_15 rfl rfl ?_
  refine a_lshl 17 rfl dX7_leastOf_16 ?_
  refine a_lconst (x := 1) 18 rfl dX7_leastOf_17 (by decide) ?_
  refine a_lsub 19 rfl dX7_leastOf_18 ?_
  refine a_lstore (lv' := [(7, .long ((f_sl (1 : Int64) y) - 1)), (5, .long (f_sl (1 : Int64) (f_bcL z9))), (0, .ref (g_ad G a)), (1, .int 0), (2, .int y), (3, .long z9)]) 21 rfl dX7_leastOf_19 (by decide) rfl ?_
  refine a_lload 0 23 rfl dX7_leastOf_21 rfl ?_
  refine a_lload_n 5 24 rfl dX7_leastOf_23 rfl rfl ?_
  refine a_callS (as := [.long ((f_sl (1 : Int64) y) - 1), .long z9]) (rest := []) (st2 := [.long (f_spread (f_sl 1 y - 1) 64 0 z9 0)]) (u1 := 0) (v1 := 0) (u2 := 0) (v2 := 0) (r_X7_spread) oX7_spread q_655 q_656 rfl (by omega) (by decide) rfl (Nat.le_of_ble_eq_true rfl) 27 rfl dX7_leastOf_24 rfl ?_
  refine a_lstore (lv' := [(9, .long (f_spread (f_sl 1 y - 1) 64 0 z9 0)), (7, .long ((f_sl (1 : Int64) y) - 1)), (5, .long (f_sl (1 : Int64) (f_bcL z9))), (0, .ref (g_ad G a)), (1, .int 0), (2, .int y), (3, .long z9)]) 29 rfl dX7_leastOf_27 (by decide) rfl ?_
  refine a_aload_n 3 30 rfl dX7_leastOf_29 rfl rfl ?_
  refine a_iload_n 4 31 rfl dX7_leastOf_30 rfl rfl ?_
  refine a_lload 0 33 rfl dX7_leastOf_31 rfl ?_
  refine a_callU (as := [.int 0, .long (f_spread (f_sl 1 y - 1) 64 0 z9 0)]) (C := RX6) (owner := "LeastShadows$Ground") (x := ⟨"LeastShadows$Ground", "measure", "(IJ)I"⟩) (rest := []) (st2 := [.int ((fun x => f_bcL (f_borderG w9 t9 x)) (f_spread (f_sl 1 y - 1) 64 0 z9 0))]) (u1 := 0) (v1 := 0) (u2 := 0) (v2 := 0) (hme _) (⟨_, _, _, _, hC, rfl⟩) oX6_measure ⟨q_658, q_660, q_666, q_667, ⟨by decide, by decide⟩, Or.inr q_659⟩ rfl (by omega) (by decide) rfl (Nat.le_of_ble_eq_true rfl) 36 rfl dX7_leastOf_33 rfl ?_
  refine a_istore (lv' := [(11, .int ((fun x => f_bcL (f_borderG w9 t9 x)) (f_spread (f_sl 1 y - 1) 64 0 z9 0))), (9, .long (f_spread (f_sl 1 y - 1) 64 0 z9 0)), (7, .long ((f_sl (1 : Int64) y) - 1)), (5, .long (f_sl (1 : Int64) (f_bcL z9))), (0, .ref (g_ad G a)), (1, .int 0), (2, .int y), (3, .long z9)]) 38 rfl dX7_leastOf_36 (by decide) rfl ?_
  refine a_iconst (x := 0) 39 rfl dX7_leastOf_38 (by decide) ?_
  refine a_istore (lv' := [(12, .int 0), (11, .int ((fun x => f_bcL (f_borderG w9 t9 x)) (f_spread (f_sl 1 y - 1) 64 0 z9 0))), (9, .long (f_spread (f_sl 1 y - 1) 64 0 z9 0)), (7, .long ((f_sl (1 : Int64) y) - 1)), (5, .long (f_sl (1 : Int64) (f_bcL z9))), (0, .ref (g_ad G a)), (1, .int 0), (2, .int y), (3, .long z9)]) 41 rfl dX7_leastOf_39 (by decide) rfl ?_
  have key : ∀ jj ii : Nat, ii + jj = 20000 → ∀ (c9 b9 : Int64) (f9 : Int32), g_A G mX7_leastOf 5 0 0 41 [(12, .int (nI ii)), (11, .int f9), (9, .long b9), (7, .long c9), (5, .long (f_sl 1 (f_bcL z9))), (0, .ref (g_ad G a)), (1, .int 0), (2, .int y), (3, .long z9)] [] h (some (.long (f_search (fun x => f_bcL (f_borderG w9 t9 x)) z9 (f_sl 1 (f_bcL z9)) jj c9 b9 f9))) h := by
    intro jj
    induction jj with
    | zero =>
      intro ii hii c9 b9 f9
      refine a_iload 0 43 rfl dX7_leastOf_41 rfl ?_
      refine a_sipush (x := 20000) 46 rfl dX7_leastOf_43 (by decide) ?_
      refine a_icmp_ge 112 49 rfl dX7_leastOf_46 (by decide) (fun _ => ?_) (fun hc => absurd ((nI_le (a := 20000) (by omega) (by omega))) hc)
      refine a_lload 2 114 rfl dX7_leastOf_112 rfl ?_
      exact a_lreturn rfl (rfl) (rfl) dX7_leastOf_114
    | succ jj ih =>
      intro ii hii c9 b9 f9
      refine a_iload 0 43 rfl dX7_leastOf_41 rfl ?_
      refine a_sipush (x := 20000) 46 rfl dX7_leastOf_43 (by decide) ?_
      refine a_icmp_ge 112 49 rfl dX7_leastOf_46 (by decide) (fun hc => absurd hc ((nI_ge (b := 20000) (by omega) (by omega)))) (fun _ => ?_)
      refine a_lload 3 51 rfl dX7_leastOf_49 rfl ?_
      refine a_callS (as := [.long c9]) (rest := []) (st2 := [.long (f_next c9)]) (u1 := 0) (v1 := 0) (u2 := 0) (v2 := 0) (r_X7_next) oX7_nextOfLikeSize q_686 q_687 rfl (by omega) (by decide) rfl (Nat.le_of_ble_eq_true rfl) 54 rfl dX7_leastOf_51 rfl ?_
      refine a_lstore (lv' := [(7, .long (f_next c9)), (12, .int (nI ii)), (11, .int f9), (9, .long b9), (5, .long (f_sl 1 (f_bcL z9))), (0, .ref (g_ad G a)), (1, .int 0), (2, .int y), (3, .long z9)]) 56 rfl dX7_leastOf_54 (by decide) rfl ?_
      refine a_lload 0 58 rfl dX7_leastOf_56 rfl ?_
      refine a_lconst (x := 0) 59 rfl dX7_leastOf_58 (by decide) ?_
      refine a_lcmp 60 rfl dX7_leastOf_59 ?_
      by_cases e9 : f_next c9 ≤ 0
      · skip
        refine a_if_le 112 63 rfl dX7_leastOf_60 (by decide) (fun _ => ?_) (fun hc => absurd ((g_cmp_le.mpr e9)) hc)
        refine a_lload 3 114 rfl dX7_leastOf_112 rfl ?_
        exact a_lreturn rfl ((by rw [f_search, if_pos (Or.inl e9)])) (rfl) dX7_leastOf_114
      · skip
        refine a_if_le 112 63 rfl dX7_leastOf_60 (by decide) (fun hc => absurd hc ((fun q9 => e9 (g_cmp_le.mp q9)))) (fun _ => ?_)
        refine a_lload 0 65 rfl dX7_leastOf_63 rfl ?_
        refine a_lload 4 67 rfl dX7_leastOf_65 rfl ?_
        refine a_lcmp 68 rfl dX7_leastOf_67 ?_
        by_cases e8 : f_sl 1 (f_bcL z9) ≤ f_next c9
        · skip
          refine a_if_lt 74 71 rfl dX7_leastOf_68 (by decide) (fun hc => absurd hc ((fun q9 => (Int64.not_lt.mpr e8) (g_cmp_lt.mp q9)))) (fun _ => ?_)
          refine a_goto 112 dX7_leastOf_71 (by decide) ?_
          refine a_lload 3 114 rfl dX7_leastOf_112 rfl ?_
          exact a_lreturn rfl ((by rw [f_search, if_pos (Or.inr e8)])) (rfl) dX7_leastOf_114
        · have e7 : ¬ (f_next c9 ≤ 0 ∨ f_sl 1 (f_bcL z9) ≤ f_next c9) := fun q9 => q9.elim e9 e8
          refine a_if_lt 74 71 rfl dX7_leastOf_68 (by decide) (fun _ => ?_) (fun hc => absurd ((g_cmp_lt.mpr (Int64.not_le.mp e8))) hc)
          refine a_lload 0 76 rfl dX7_leastOf_74 rfl ?_
          refine a_lload_n 8 77 rfl dX7_leastOf_76 rfl rfl ?_
          refine a_callS (as := [.long (f_next c9), .long z9]) (rest := []) (st2 := [.long (f_spread (f_next c9) 64 0 z9 0)]) (u1 := 0) (v1 := 0) (u2 := 0) (v2 := 0) (r_X7_spread) oX7_spread q_655 q_656 rfl (by omega) (by decide) rfl (Nat.le_of_ble_eq_true rfl) 80 rfl dX7_leastOf_77 rfl ?_
          refine a_lstore (lv' := [(13, .long (f_spread (f_next c9) 64 0 z9 0)), (7, .long (f_next c9)), (12, .int (nI ii)), (11, .int f9), (9, .long b9), (5, .long (f_sl 1 (f_bcL z9))), (0, .ref (g_ad G a)), (1, .int 0), (2, .int y), (3, .long z9)]) 82 rfl dX7_leastOf_80 (by decide) rfl ?_
          refine a_aload_n 6 83 rfl dX7_leastOf_82 rfl rfl ?_
          refine a_iload_n 7 84 rfl dX7_leastOf_83 rfl rfl ?_
          refine a_lload 0 86 rfl dX7_leastOf_84 rfl ?_
          refine a_callU (as := [.int 0, .long (f_spread (f_next c9) 64 0 z9 0)]) (C := RX6) (owner := "LeastShadows$Ground") (x := ⟨"LeastShadows$Ground", "measure", "(IJ)I"⟩) (rest := []) (st2 := [.int ((fun x => f_bcL (f_borderG w9 t9 x)) (f_spread (f_next c9) 64 0 z9 0))]) (u1 := 0) (v1 := 0) (u2 := 0) (v2 := 0) (hme _) (⟨_, _, _, _, hC, rfl⟩) oX6_measure ⟨q_658, q_660, q_666, q_667, ⟨by decide, by decide⟩, Or.inr q_659⟩ rfl (by omega) (by decide) rfl (Nat.le_of_ble_eq_true rfl) 89 rfl dX7_leastOf_86 rfl ?_
          refine a_istore (lv' := [(15, .int ((fun x => f_bcL (f_borderG w9 t9 x)) (f_spread (f_next c9) 64 0 z9 0))), (13, .long (f_spread (f_next c9) 64 0 z9 0)), (7, .long (f_next c9)), (12, .int (nI ii)), (11, .int f9), (9, .long b9), (5, .long (f_sl 1 (f_bcL z9))), (0, .ref (g_ad G a)), (1, .int 0), (2, .int y), (3, .long z9)]) 91 rfl dX7_leastOf_89 (by decide) rfl ?_
          refine a_iload 0 93 rfl dX7_leastOf_91 rfl ?_
          refine a_iload 4 95 rfl dX7_leastOf_93 rfl ?_
          by_cases e6 : (fun x => f_bcL (f_borderG w9 t9 x)) (f_spread (f_next c9) 64 0 z9 0) < f9
          · have e5 : f_search (fun x => f_bcL (f_borderG w9 t9 x)) z9 (f_sl 1 (f_bcL z9)) (jj + 1) c9 b9 f9 = f_search (fun x => f_bcL (f_borderG w9 t9 x)) z9 (f_sl 1 (f_bcL z9)) jj (f_next c9) (f_spread (f_next c9) 64 0 z9 0) ((fun x => f_bcL (f_borderG w9 t9 x)) (f_spread (f_next c9) 64 0 z9 0)) := by rw [f_search, if_neg e7, if_pos e6]
            rw [e5]
            refine a_icmp_ge 106 98 rfl dX7_leastOf_95 (by decide) (fun hc => absurd hc ((Int32.not_le.mpr e6))) (fun _ => ?_)
            refine a_iload 0 100 rfl dX7_leastOf_98 rfl ?_
            refine a_istore (lv' := [(11, .int ((fun x => f_bcL (f_borderG w9 t9 x)) (f_spread (f_next c9) 64 0 z9 0))), (15, .int ((fun x => f_bcL (f_borderG w9 t9 x)) (f_spread (f_next c9) 64 0 z9 0))), (13, .long (f_spread (f_next c9) 64 0 z9 0)), (7, .long (f_next c9)), (12, .int (nI ii)), (9, .long b9), (5, .long (f_sl 1 (f_bcL z9))), (0, .ref (g_ad G a)), (1, .int 0), (2, .int y), (3, .long z9)]) 102 rfl dX7_leastOf_100 (by decide) rfl ?_
            refine a_lload 2 104 rfl dX7_leastOf_102 rfl ?_
            refine a_lstore (lv' := [(9, .long (f_spread (f_next c9) 64 0 z9 0)), (11, .int ((fun x => f_bcL (f_borderG w9 t9 x)) (f_spread (f_next c9) 64 0 z9 0))), (15, .int ((fun x => f_bcL (f_borderG w9 t9 x)) (f_spread (f_next c9) 64 0 z9 0))), (13, .long (f_spread (f_next c9) 64 0 z9 0)), (7, .long (f_next c9)), (12, .int (nI ii)), (5, .long (f_sl 1 (f_bcL z9))), (0, .ref (g_ad G a)), (1, .int 0), (2, .int y), (3, .long z9)]) 106 rfl dX7_leastOf_104 (by decide) rfl ?_
            refine a_iinc (y := nI (ii + 1)) (lv' := [(12, .int (nI (ii + 1))), (9, .long (f_spread (f_next c9) 64 0 z9 0)), (11, .int ((fun x => f_bcL (f_borderG w9 t9 x)) (f_spread (f_next c9) 64 0 z9 0))), (15, .int ((fun x => f_bcL (f_borderG w9 t9 x)) (f_spread (f_next c9) 64 0 z9 0))), (13, .long (f_spread (f_next c9) 64 0 z9 0)), (7, .long (f_next c9)), (5, .long (f_sl 1 (f_bcL z9))), (0, .ref (g_ad G a)), (1, .int 0), (2, .int y), (3, .long z9)]) 5 109 rfl dX7_leastOf_106 rfl (nI_1 ii) (by decide) rfl ?_
            refine a_goto 41 dX7_leastOf_109 (by decide) ?_
            refine a_sub (lv' := [(12, .int (nI (ii + 1))), (11, .int ((fun x => f_bcL (f_borderG w9 t9 x)) (f_spread (f_next c9) 64 0 z9 0))), (9, .long (f_spread (f_next c9) 64 0 z9 0)), (7, .long (f_next c9)), (5, .long (f_sl 1 (f_bcL z9))), (0, .ref (g_ad G a)), (1, .int 0), (2, .int y), (3, .long z9)]) [0, 2, 1, 5, 6, 7, 8, 9, 10] rfl ?_
            exact ih (ii + 1) (by omega) _ _ _
          · have e5 : f_search (fun x => f_bcL (f_borderG w9 t9 x)) z9 (f_sl 1 (f_bcL z9)) (jj + 1) c9 b9 f9 = f_search (fun x => f_bcL (f_borderG w9 t9 x)) z9 (f_sl 1 (f_bcL z9)) jj (f_next c9) b9 f9 := by rw [f_search, if_neg e7, if_neg e6]
            rw [e5]
            refine a_icmp_ge 106 98 rfl dX7_leastOf_95 (by decide) (fun _ => ?_) (fun hc => absurd ((Int32.not_lt.mp e6)) hc)
            refine a_iinc (y := nI (ii + 1)) (lv' := [(12, .int (nI (ii + 1))), (15, .int ((fun x => f_bcL (f_borderG w9 t9 x)) (f_spread (f_next c9) 64 0 z9 0))), (13, .long (f_spread (f_next c9) 64 0 z9 0)), (7, .long (f_next c9)), (11, .int f9), (9, .long b9), (5, .long (f_sl 1 (f_bcL z9))), (0, .ref (g_ad G a)), (1, .int 0), (2, .int y), (3, .long z9)]) 3 109 rfl dX7_leastOf_106 rfl (nI_1 ii) (by decide) rfl ?_
            refine a_goto 41 dX7_leastOf_109 (by decide) ?_
            refine a_sub (lv' := [(12, .int (nI (ii + 1))), (11, .int f9), (9, .long b9), (7, .long (f_next c9)), (5, .long (f_sl 1 (f_bcL z9))), (0, .ref (g_ad G a)), (1, .int 0), (2, .int y), (3, .long z9)]) [0, 4, 5, 3, 6, 7, 8, 9, 10] rfl ?_
            exact ih (ii + 1) (by omega) _ _ _
  exact key 20000 0 (by omega) _ _ _

theorem r_leastOf_grid1 (hC : h[a]? = some (c_O 6 [.ref (g_ad G ka), .int (nI w9), .int (nI t9)])) (hp : w9 * t9 ≤ 64) (ht : t9 ≤ 8) (hy : 0 < y) : g_Run G mX7_leastOf 5 0 0 [.ref (g_ad G a), .int 1, .int y, .long z9] h (some (.long (f_leastOf (f_edgesG w9 t9) y z9))) h := by
  have hme : ∀ x8 : Int64, g_Run G mX6_measure 4 0 0 [.ref (g_ad G a), .int 1, .long x8] h (some (.int ((f_edgesG w9 t9) x8))) h := fun x8 => r_X6_measure1 hC hp ht
  refine g_Run.of (lv := [(0, .ref (g_ad G a)), (1, .int 1), (2, .int y), (3, .long z9)]) (by decide) (Nat.le_of_ble_eq_true rfl) rfl ?_
  refine a_iload_n 2 1 rfl dX7_leastOf_0 rfl rfl ?_
  refine a_if_gt 6 4 rfl dX7_leastOf_1 (by decide) (fun _ => ?_) (fun hc => absurd (hy) hc)
  refine a_lconst (x := 1) 7 rfl dX7_leastOf_6 (by decide) ?_
  refine a_lload_n 3 8 rfl dX7_leastOf_7 rfl rfl ?_
  refine a_callS (as := [.long z9]) (rest := [.long 1]) (st2 := [.int (f_bcL z9), .long 1]) (u1 := 0) (v1 := 0) (u2 := 0) (v2 := 0) (r_bitCountL) oJ13_bitCount_95d88 q_654 q_522 rfl (by omega) (by decide) rfl (Nat.le_of_ble_eq_true rfl) 11 rfl dX7_leastOf_8 rfl ?_
  refine a_lshl 12 rfl dX7_leastOf_11 ?_
  refine a_lstore (lv' := [(5, .long (f_sl (1 : Int64) (f_bcL z9))), (0, .ref (g_ad G a)), (1, .int 1), (2, .int y), (3, .long z9)]) 14 rfl dX7_leastOf_12 (by decide) rfl ?_
  refine a_lconst (x := 1) 15 rfl dX7_leastOf_14 (by decide) ?_
  refine a_iload_n 3 16 rfl dX7_leastOf_15 rfl rfl ?_
  refine a_lshl 17 rfl dX7_leastOf_16 ?_
  refine a_lconst (x := 1) 18 rfl dX7_leastOf_17 (by decide) ?_
  refine a_lsub 19 rfl dX7_leastOf_18 ?_
  refine a_lstore (lv' := [(7, .long ((f_sl (1 : Int64) y) - 1)), (5, .long (f_sl (1 : Int64) (f_bcL z9))), (0, .ref (g_ad G a)), (1, .int 1), (2, .int y), (3, .long z9)]) 21 rfl dX7_leastOf_19 (by decide) rfl ?_
  refine a_lload 0 23 rfl dX7_leastOf_21 rfl ?_
  refine a_lload_n 5 24 rfl dX7_leastOf_23 rfl rfl ?_
  refine a_callS (as := [.long ((f_sl (1 : Int64) y) - 1), .long z9]) (rest := []) (st2 := [.long (f_spread (f_sl 1 y - 1) 64 0 z9 0)]) (u1 := 0) (v1 := 0) (u2 := 0) (v2 := 0) (r_X7_spread) oX7_spread q_655 q_656 rfl (by omega) (by decide) rfl (Nat.le_of_ble_eq_true rfl) 27 rfl dX7_leastOf_24 rfl ?_
  refine a_lstore (lv' := [(9, .long (f_spread (f_sl 1 y - 1) 64 0 z9 0)), (7, .long ((f_sl (1 : Int64) y) - 1)), (5, .long (f_sl (1 : Int64) (f_bcL z9))), (0, .ref (g_ad G a)), (1, .int 1), (2, .int y), (3, .long z9)]) 29 rfl dX7_leastOf_27 (by decide) rfl ?_
  refine a_aload_n 3 30 rfl dX7_leastOf_29 rfl rfl ?_
  refine a_iload_n 4 31 rfl dX7_leastOf_30 rfl rfl ?_
  refine a_lload 0 33 rfl dX7_leastOf_31 rfl ?_
  refine a_callU (as := [.int 1, .long (f_spread (f_sl 1 y - 1) 64 0 z9 0)]) (C := RX6) (owner := "LeastShadows$Ground") (x := ⟨"LeastShadows$Ground", "measure", "(IJ)I"⟩) (rest := []) (st2 := [.int ((f_edgesG w9 t9) (f_spread (f_sl 1 y - 1) 64 0 z9 0))]) (u1 := 0) (v1 := 0) (u2 := 0) (v2 := 0) (hme _) (⟨_, _, _, _, hC, rfl⟩) oX6_measure ⟨q_658, q_660, q_666, q_667, ⟨by decide, by decide⟩, Or.inr q_659⟩ rfl (by omega) (by decide) rfl (Nat.le_of_ble_eq_true rfl) 36 rfl dX7_leastOf_33 rfl ?_
  refine a_istore (lv' := [(11, .int ((f_edgesG w9 t9) (f_spread (f_sl 1 y - 1) 64 0 z9 0))), (9, .long (f_spread (f_sl 1 y - 1) 64 0 z9 0)), (7, .long ((f_sl (1 : Int64) y) - 1)), (5, .long (f_sl (1 : Int64) (f_bcL z9))), (0, .ref (g_ad G a)), (1, .int 1), (2, .int y), (3, .long z9)]) 38 rfl dX7_leastOf_36 (by decide) rfl ?_
  refine a_iconst (x := 0) 39 rfl dX7_leastOf_38 (by decide) ?_
  refine a_istore (lv' := [(12, .int 0), (11, .int ((f_edgesG w9 t9) (f_spread (f_sl 1 y - 1) 64 0 z9 0))), (9, .long (f_spread (f_sl 1 y - 1) 64 0 z9 0)), (7, .long ((f_sl (1 : Int64) y) - 1)), (5, .long (f_sl (1 : Int64) (f_bcL z9))), (0, .ref (g_ad G a)), (1, .int 1), (2, .int y), (3, .long z9)]) 41 rfl dX7_leastOf_39 (by decide) rfl ?_
  have key : ∀ jj ii : Nat, ii + jj = 20000 → ∀ (c9 b9 : Int64) (f9 : Int32), g_A G mX7_leastOf 5 0 0 41 [(12, .int (nI ii)), (11, .int f9), (9, .long b9), (7, .long c9), (5, .long (f_sl 1 (f_bcL z9))), (0, .ref (g_ad G a)), (1, .int 1), (2, .int y), (3, .long z9)] [] h (some (.long (f_search (f_edgesG w9 t9) z9 (f_sl 1 (f_bcL z9)) jj c9 b9 f9))) h := by
    intro jj
    induction jj with
    | zero =>
      intro ii hii c9 b9 f9
      refine a_iload 0 43 rfl dX7_leastOf_41 rfl ?_
      refine a_sipush (x := 20000) 46 rfl dX7_leastOf_43 (by decide) ?_
      refine a_icmp_ge 112 49 rfl dX7_leastOf_46 (by decide) (fun _ => ?_) (fun hc => absurd ((nI_le (a := 20000) (by omega) (by omega))) hc)
      refine a_lload 2 114 rfl dX7_leastOf_112 rfl ?_
      exact a_lreturn rfl (rfl) (rfl) dX7_leastOf_114
    | succ jj ih =>
      intro ii hii c9 b9 f9
      refine a_iload 0 43 rfl dX7_leastOf_41 rfl ?_
      refine a_sipush (x := 20000) 46 rfl dX7_leastOf_43 (by decide) ?_
      refine a_icmp_ge 112 49 rfl dX7_leastOf_46 (by decide) (fun hc => absurd hc ((nI_ge (b := 20000) (by omega) (by omega)))) (fun _ => ?_)
      refine a_lload 3 51 rfl dX7_leastOf_49 rfl ?_
      refine a_callS (as := [.long c9]) (rest := []) (st2 := [.long (f_next c9)]) (u1 := 0) (v1 := 0) (u2 := 0) (v2 := 0) (r_X7_next) oX7_nextOfLikeSize q_686 q_687 rfl (by omega) (by decide) rfl (Nat.le_of_ble_eq_true rfl) 54 rfl dX7_leastOf_51 rfl ?_
      refine a_lstore (lv' := [(7, .long (f_next c9)), (12, .int (nI ii)), (11, .int f9), (9, .long b9), (5, .long (f_sl 1 (f_bcL z9))), (0, .ref (g_ad G a)), (1, .int 1), (2, .int y), (3, .long z9)]) 56 rfl dX7_leastOf_54 (by decide) rfl ?_
      refine a_lload 0 58 rfl dX7_leastOf_56 rfl ?_
      refine a_lconst (x := 0) 59 rfl dX7_leastOf_58 (by decide) ?_
      refine a_lcmp 60 rfl dX7_leastOf_59 ?_
      by_cases e9 : f_next c9 ≤ 0
      · skip
        refine a_if_le 112 63 rfl dX7_leastOf_60 (by decide) (fun _ => ?_) (fun hc => absurd ((g_cmp_le.mpr e9)) hc)
        refine a_lload 3 114 rfl dX7_leastOf_112 rfl ?_
        exact a_lreturn rfl ((by rw [f_search, if_pos (Or.inl e9)])) (rfl) dX7_leastOf_114
      · skip
        refine a_if_le 112 63 rfl dX7_leastOf_60 (by decide) (fun hc => absurd hc ((fun q9 => e9 (g_cmp_le.mp q9)))) (fun _ => ?_)
        refine a_lload 0 65 rfl dX7_leastOf_63 rfl ?_
        refine a_lload 4 67 rfl dX7_leastOf_65 rfl ?_
        refine a_lcmp 68 rfl dX7_leastOf_67 ?_
        by_cases e8 : f_sl 1 (f_bcL z9) ≤ f_next c9
        · skip
          refine a_if_lt 74 71 rfl dX7_leastOf_68 (by decide) (fun hc => absurd hc ((fun q9 => (Int64.not_lt.mpr e8) (g_cmp_lt.mp q9)))) (fun _ => ?_)
          refine a_goto 112 dX7_leastOf_71 (by decide) ?_
          refine a_lload 3 114 rfl dX7_leastOf_112 rfl ?_
          exact a_lreturn rfl ((by rw [f_search, if_pos (Or.inr e8)])) (rfl) dX7_leastOf_114
        · have e7 : ¬ (f_next c9 ≤ 0 ∨ f_sl 1 (f_bcL z9) ≤ f_next c9) := fun q9 => q9.elim e9 e8
          refine a_if_lt 74 71 rfl dX7_leastOf_68 (by decide) (fun _ => ?_) (fun hc => absurd ((g_cmp_lt.mpr (Int64.not_le.mp e8))) hc)
          refine a_lload 0 76 rfl dX7_leastOf_74 rfl ?_
          refine a_lload_n 8 77 rfl dX7_leastOf_76 rfl rfl ?_
          refine a_callS (as := [.long (f_next c9), .long z9]) (rest := []) (st2 := [.long (f_spread (f_next c9) 64 0 z9 0)]) (u1 := 0) (v1 := 0) (u2 := 0) (v2 := 0) (r_X7_spread) oX7_spread q_655 q_656 rfl (by omega) (by decide) rfl (Nat.le_of_ble_eq_true rfl) 80 rfl dX7_leastOf_77 rfl ?_
          refine a_lstore (lv' := [(13, .long (f_spread (f_next c9) 64 0 z9 0)), (7, .long (f_next c9)), (12, .int (nI ii)), (11, .int f9), (9, .long b9), (5, .long (f_sl 1 (f_bcL z9))), (0, .ref (g_ad G a)), (1, .int 1), (2, .int y), (3, .long z9)]) 82 rfl dX7_leastOf_80 (by decide) rfl ?_
          refine a_aload_n 6 83 rfl dX7_leastOf_82 rfl rfl ?_
          refine a_iload_n 7 84 rfl dX7_leastOf_83 rfl rfl ?_
          refine a_lload 0 86 rfl dX7_leastOf_84 rfl ?_
          refine a_callU (as := [.int 1, .long (f_spread (f_next c9) 64 0 z9 0)]) (C := RX6) (owner := "LeastShadows$Ground") (x := ⟨"LeastShadows$Ground", "measure", "(IJ)I"⟩) (rest := []) (st2 := [.int ((f_edgesG w9 t9) (f_spread (f_next c9) 64 0 z9 0))]) (u1 := 0) (v1 := 0) (u2 := 0) (v2 := 0) (hme _) (⟨_, _, _, _, hC, rfl⟩) oX6_measure ⟨q_658, q_660, q_666, q_667, ⟨by decide, by decide⟩, Or.inr q_659⟩ rfl (by omega) (by decide) rfl (Nat.le_of_ble_eq_true rfl) 89 rfl dX7_leastOf_86 rfl ?_
          refine a_istore (lv' := [(15, .int ((f_edgesG w9 t9) (f_spread (f_next c9) 64 0 z9 0))), (13, .long (f_spread (f_next c9) 64 0 z9 0)), (7, .long (f_next c9)), (12, .int (nI ii)), (11, .int f9), (9, .long b9), (5, .long (f_sl 1 (f_bcL z9))), (0, .ref (g_ad G a)), (1, .int 1), (2, .int y), (3, .long z9)]) 91 rfl dX7_leastOf_89 (by decide) rfl ?_
          refine a_iload 0 93 rfl dX7_leastOf_91 rfl ?_
          refine a_iload 4 95 rfl dX7_leastOf_93 rfl ?_
          by_cases e6 : (f_edgesG w9 t9) (f_spread (f_next c9) 64 0 z9 0) < f9
          · have e5 : f_search (f_edgesG w9 t9) z9 (f_sl 1 (f_bcL z9)) (jj + 1) c9 b9 f9 = f_search (f_edgesG w9 t9) z9 (f_sl 1 (f_bcL z9)) jj (f_next c9) (f_spread (f_next c9) 64 0 z9 0) ((f_edgesG w9 t9) (f_spread (f_next c9) 64 0 z9 0)) := by rw [f_search, if_neg e7, if_pos e6]
            rw [e5]
            refine a_icmp_ge 106 98 rfl dX7_leastOf_95 (by decide) (fun hc => absurd hc ((Int32.not_le.mpr e6))) (fun _ => ?_)
            refine a_iload 0 100 rfl dX7_leastOf_98 rfl ?_
            refine a_istore (lv' := [(11, .int ((f_edgesG w9 t9) (f_spread (f_next c9) 64 0 z9 0))), (15, .int ((f_edgesG w9 t9) (f_spread (f_next c9) 64 0 z9 0))), (13, .long (f_spread (f_next c9) 64 0 z9 0)), (7, .long (f_next c9)), (12, .int (nI ii)), (9, .long b9), (5, .long (f_sl 1 (f_bcL z9))), (0, .ref (g_ad G a)), (1, .int 1), (2, .int y), (3, .long z9)]) 102 rfl dX7_leastOf_100 (by decide) rfl ?_
            refine a_lload 2 104 rfl dX7_leastOf_102 rfl ?_
            refine a_lstore (lv' := [(9, .long (f_spread (f_next c9) 64 0 z9 0)), (11, .int ((f_edgesG w9 t9) (f_spread (f_next c9) 64 0 z9 0))), (15, .int ((f_edgesG w9 t9) (f_spread (f_next c9) 64 0 z9 0))), (13, .long (f_spread (f_next c9) 64 0 z9 0)), (7, .long (f_next c9)), (12, .int (nI ii)), (5, .long (f_sl 1 (f_bcL z9))), (0, .ref (g_ad G a)), (1, .int 1), (2, .int y), (3, .long z9)]) 106 rfl dX7_leastOf_104 (by decide) rfl ?_
            refine a_iinc (y := nI (ii + 1)) (lv' := [(12, .int (nI (ii + 1))), (9, .long (f_spread (f_next c9) 64 0 z9 0)), (11, .int ((f_edgesG w9 t9) (f_spread (f_next c9) 64 0 z9 0))), (15, .int ((f_edgesG w9 t9) (f_spread (f_next c9) 64 0 z9 0))), (13, .long (f_spread (f_next c9) 64 0 z9 0)), (7, .long (f_next c9)), (5, .long (f_sl 1 (f_bcL z9))), (0, .ref (g_ad G a)), (1, .int 1), (2, .int y), (3, .long z9)]) 5 109 rfl dX7_leastOf_106 rfl (nI_1 ii) (by decide) rfl ?_
            refine a_goto 41 dX7_leastOf_109 (by decide) ?_
            refine a_sub (lv' := [(12, .int (nI (ii + 1))), (11, .int ((f_edgesG w9 t9) (f_spread (f_next c9) 64 0 z9 0))), (9, .long (f_spread (f_next c9) 64 0 z9 0)), (7, .long (f_next c9)), (5, .long (f_sl 1 (f_bcL z9))), (0, .ref (g_ad G a)), (1, .int 1), (2, .int y), (3, .long z9)]) [0, 2, 1, 5, 6, 7, 8, 9, 10] rfl ?_
            exact ih (ii + 1) (by omega) _ _ _
          · have e5 : f_search (f_edgesG w9 t9) z9 (f_sl 1 (f_bcL z9)) (jj + 1) c9 b9 f9 = f_search (f_edgesG w9 t9) z9 (f_sl 1 (f_bcL z9)) jj (f_next c9) b9 f9 := by rw [f_search, if_neg e7, if_neg e6]
            rw [e5]
            refine a_icmp_ge 106 98 rfl dX7_leastOf_95 (by decide) (fun _ => ?_) (fun hc => absurd ((Int32.not_lt.mp e6)) hc)
            refine a_iinc (y := nI (ii + 1)) (lv' := [(12, .int (nI (ii + 1))), (15, .int ((f_edgesG w9 t9) (f_spread (f_next c9) 64 0 z9 0))), (13, .long (f_spread (f_next c9) 64 0 z9 0)), (7, .long (f_next c9)), (11, .int f9), (9, .long b9), (5, .long (f_sl 1 (f_bcL z9))), (0, .ref (g_ad G a)), (1, .int 1), (2, .int y), (3, .long z9)]) 3 109 rfl dX7_leastOf_106 rfl (nI_1 ii) (by decide) rfl ?_
            refine a_goto 41 dX7_leastOf_109 (by decide) ?_
            refine a_sub (lv' := [(12, .int (nI (ii + 1))), (11, .int f9), (9, .long b9), (7, .long (f_next c9)), (5, .long (f_sl 1 (f_bcL z9))), (0, .ref (g_ad G a)), (1, .int 1), (2, .int y), (3, .long z9)]) [0, 4, 5, 3, 6, 7, 8, 9, 10] rfl ?_
            exact ih (ii + 1) (by omega) _ _ _
  exact key 20000 0 (by omega) _ _ _

theorem r_leastOf_0 {k9 : Int32} (hy : y ≤ 0) : g_Run G mX7_leastOf 5 0 0 [.ref (g_ad G a), .int k9, .int y, .long z9] h (some (.long 0)) h := by
  refine g_Run.of (lv := [(0, .ref (g_ad G a)), (1, .int k9), (2, .int y), (3, .long z9)]) (by decide) (Nat.le_of_ble_eq_true rfl) rfl ?_
  refine a_iload_n 2 1 rfl dX7_leastOf_0 rfl rfl ?_
  refine a_if_gt 6 4 rfl dX7_leastOf_1 (by decide) (fun hc => absurd hc ((Int32.not_lt.mpr hy))) (fun _ => ?_)
  refine a_lconst (x := 0) 5 rfl dX7_leastOf_4 (by decide) ?_
  exact a_lreturn rfl (rfl) (rfl) dX7_leastOf_5
theorem r_placeBy_cube {o : Nat} {f : Nat → Int32} (hC : h[a]? = some (c_O 3 [.ref (g_ad G ka), .int (nI n)])) (hK : h[ka]? = some (c_I G 64 f)) (hne : ka ≠ a) (hn : n ≤ 6) (ho : o < 4) : ∃ f2 : Nat → Int32, (∀ j, j < 2 ^ n → f2 j = f_keyC n o (nI j)) ∧ (∀ s9, s9 < 2 ^ n → nI (f_rank f2 s9 (2 ^ n)) = y → (∀ q7, q7 < s9 → ¬ nI (f_rank f2 q7 (2 ^ n)) = y) → g_Run G mX7_placeBy 5 0 0 [.ref (g_ad G a), .int (nI o), .int y] h (some (.int (nI s9))) (h.set ka (c_I G 64 f2))) ∧ ((∀ q7, q7 < 2 ^ n → ¬ nI (f_rank f2 q7 (2 ^ n)) = y) → g_Run G mX7_placeBy 5 0 0 [.ref (g_ad G a), .int (nI o), .int y] h (some (.int (-2))) (h.set ka (c_I G 64 f2))) := by
  have hp : 2 ^ n ≤ 64 := Nat.pow_le_pow_right (by decide) hn
  obtain ⟨f2, hf2, w⟩ := r_layKeys_cube hC hK hne hn ho
  have hC2 : (h.set ka (c_I G 64 f2))[a]? = some (c_O 3 [.ref (g_ad G ka), .int (nI n)]) := g_set_ne hne hC
  have hK2 : (h.set ka (c_I G 64 f2))[ka]? = some (c_I G 64 f2) := g_set_eq hK
  -- from place ii on
  have pre : ∀ r9 : Option Value, g_A G mX7_placeBy 5 0 0 7 [(3, .int (nI 0)), (0, .ref (g_ad G a)), (1, .int (nI o)), (2, .int y)] [] (h.set ka (c_I G 64 f2)) r9 (h.set ka (c_I G 64 f2)) → g_Run G mX7_placeBy 5 0 0 [.ref (g_ad G a), .int (nI o), .int y] h r9 (h.set ka (c_I G 64 f2)) := by
    intro r9 hr9
    refine g_Run.of (lv := [(0, .ref (g_ad G a)), (1, .int (nI o)), (2, .int y)]) (by decide) (Nat.le_of_ble_eq_true rfl) rfl ?_
    refine a_aload_n 0 1 rfl dX7_placeBy_0 rfl rfl ?_
    refine a_iload_n 1 2 rfl dX7_placeBy_1 rfl rfl ?_
    refine a_callUP (as := [.int (nI o)]) (C := RX3) (rest := []) (st2 := []) (u1 := 0) (v1 := 0) (u2 := 0) (v2 := 0) (w) (⟨_, _, _, _, hC, rfl⟩) oX7_layKeys q_596 q_1661 q_375 rfl q_597 q_598 rfl (by omega) (by decide) rfl (Nat.le_of_ble_eq_true rfl) 5 rfl dX7_placeBy_2 rfl ?_
    refine a_iconst (x := 0) 6 rfl dX7_placeBy_5 (by decide) ?_
    refine a_istore_n (lv' := [(3, .int 0), (0, .ref (g_ad G a)), (1, .int (nI o)), (2, .int y)]) 7 rfl dX7_placeBy_6 rfl (by decide) rfl ?_
    exact hr9
  have step : ∀ (ii : Nat) (r9 : Option Value), ii < 2 ^ n → ¬ nI (f_rank f2 ii (2 ^ n)) = y → g_A G mX7_placeBy 5 0 0 7 [(3, .int (nI (ii + 1))), (0, .ref (g_ad G a)), (1, .int (nI o)), (2, .int y)] [] (h.set ka (c_I G 64 f2)) r9 (h.set ka (c_I G 64 f2)) → g_A G mX7_placeBy 5 0 0 7 [(3, .int (nI ii)), (0, .ref (g_ad G a)), (1, .int (nI o)), (2, .int y)] [] (h.set ka (c_I G 64 f2)) r9 (h.set ka (c_I G 64 f2)) := by
    intro ii r9 hii hne9 hr9
    refine a_iload_n 0 8 rfl dX7_placeBy_7 rfl rfl ?_
    refine a_aload_n 1 9 rfl dX7_placeBy_8 rfl rfl ?_
    refine a_callU (as := []) (C := RX3) (owner := "LeastShadows$Ground") (x := ⟨"LeastShadows$Ground", "places", "()I"⟩) (rest := [.int (nI ii)]) (st2 := [.int (nI (2 ^ n)), .int (nI ii)]) (u1 := 0) (v1 := 0) (u2 := 0) (v2 := 0) ((fun hC => r_X3_places hC hn) hC2) (⟨_, _, _, _, hC2, rfl⟩) oX3_places ⟨q_384, q_386, q_387, q_388, ⟨by decide, by decide⟩, Or.inr q_385⟩ rfl (by omega) (by decide) rfl (Nat.le_of_ble_eq_true rfl) 12 rfl dX7_placeBy_9 rfl ?_
    refine a_icmp_ge 32 15 rfl dX7_placeBy_12 (by decide) (fun hc => absurd hc (nI_ge (by omega) (by omega))) (fun _ => ?_)
    refine a_aload_n 1 16 rfl dX7_placeBy_15 rfl rfl ?_
    refine a_iload_n 0 17 rfl dX7_placeBy_16 rfl rfl ?_
    refine a_callUP (as := [.int (nI ii)]) (C := RX3) (rest := []) (st2 := [.int (nI (f_rank f2 ii (2 ^ n)))]) (u1 := 0) (v1 := 0) (u2 := 0) (v2 := 0) (r_rankOf_cube hC2 hK2 hn hii) (⟨_, _, _, _, hC2, rfl⟩) oX7_rankOf q_615 q_1662 q_375 rfl q_616 q_617 rfl (by omega) (by decide) rfl (Nat.le_of_ble_eq_true rfl) 20 rfl dX7_placeBy_17 rfl ?_
    refine a_iload_n 3 21 rfl dX7_placeBy_20 rfl rfl ?_
    refine a_icmp_ne 26 24 rfl dX7_placeBy_21 (by decide) (fun _ => ?_) (fun hc => absurd hc (hne9))
    refine a_iinc (y := nI (ii + 1)) (lv' := [(3, .int (nI (ii + 1))), (0, .ref (g_ad G a)), (1, .int (nI o)), (2, .int y)]) 0 29 rfl dX7_placeBy_26 rfl (nI_1 ii) (by decide) rfl ?_
    refine a_goto 7 dX7_placeBy_29 (by decide) ?_
    exact hr9
  have walk : ∀ (r9 : Option Value) (e9 : Nat), e9 ≤ 2 ^ n → (∀ q7, q7 < e9 → ¬ nI (f_rank f2 q7 (2 ^ n)) = y) → g_A G mX7_placeBy 5 0 0 7 [(3, .int (nI e9)), (0, .ref (g_ad G a)), (1, .int (nI o)), (2, .int y)] [] (h.set ka (c_I G 64 f2)) r9 (h.set ka (c_I G 64 f2)) → g_Run G mX7_placeBy 5 0 0 [.ref (g_ad G a), .int (nI o), .int y] h r9 (h.set ka (c_I G 64 f2)) := by
    intro r9 e9
    induction e9 with
    | zero => intro _ _ hr9; exact pre r9 hr9
    | succ e9 ih => intro h1 h2 hr9; exact ih (by omega) (fun q7 hq7 => h2 q7 (by omega)) (step e9 r9 (by omega) (h2 e9 (by omega)) hr9)
  refine ⟨f2, hf2, fun s9 hs9 hk9 hlt9 => walk _ s9 (by omega) hlt9 ?_, fun hno9 => walk _ (2 ^ n) (Nat.le_refl _) hno9 ?_⟩
  · skip
    refine a_iload_n 0 8 rfl dX7_placeBy_7 rfl rfl ?_
    refine a_aload_n 1 9 rfl dX7_placeBy_8 rfl rfl ?_
    refine a_callU (as := []) (C := RX3) (owner := "LeastShadows$Ground") (x := ⟨"LeastShadows$Ground", "places", "()I"⟩) (rest := [.int (nI s9)]) (st2 := [.int (nI (2 ^ n)), .int (nI s9)]) (u1 := 0) (v1 := 0) (u2 := 0) (v2 := 0) ((fun hC => r_X3_places hC hn) hC2) (⟨_, _, _, _, hC2, rfl⟩) oX3_places ⟨q_384, q_386, q_387, q_388, ⟨by decide, by decide⟩, Or.inr q_385⟩ rfl (by omega) (by decide) rfl (Nat.le_of_ble_eq_true rfl) 12 rfl dX7_placeBy_9 rfl ?_
    refine a_icmp_ge 32 15 rfl dX7_placeBy_12 (by decide) (fun hc => absurd hc (nI_ge (by omega) (by omega))) (fun _ => ?_)
    refine a_aload_n 1 16 rfl dX7_placeBy_15 rfl rfl ?_
    refine a_iload_n 0 17 rfl dX7_placeBy_16 rfl rfl ?_
    refine a_callUP (as := [.int (nI s9)]) (C := RX3) (rest := []) (st2 := [.int (nI (f_rank f2 s9 (2 ^ n)))]) (u1 := 0) (v1 := 0) (u2 := 0) (v2 := 0) (r_rankOf_cube hC2 hK2 hn hs9) (⟨_, _, _, _, hC2, rfl⟩) oX7_rankOf q_615 q_1662 q_375 rfl q_616 q_617 rfl (by omega) (by decide) rfl (Nat.le_of_ble_eq_true rfl) 20 rfl dX7_placeBy_17 rfl ?_
    refine a_iload_n 3 21 rfl dX7_placeBy_20 rfl rfl ?_
    refine a_icmp_ne 26 24 rfl dX7_placeBy_21 (by decide) (fun hc => absurd (hk9) hc) (fun _ => ?_)
    refine a_iload_n 0 25 rfl dX7_placeBy_24 rfl rfl ?_
    exact a_ireturn .int rfl rfl (rfl) (rfl) dX7_placeBy_25
  · skip
    refine a_iload_n 0 8 rfl dX7_placeBy_7 rfl rfl ?_
    refine a_aload_n 1 9 rfl dX7_placeBy_8 rfl rfl ?_
    refine a_callU (as := []) (C := RX3) (owner := "LeastShadows$Ground") (x := ⟨"LeastShadows$Ground", "places", "()I"⟩) (rest := [.int (nI (2 ^ n))]) (st2 := [.int (nI (2 ^ n)), .int (nI (2 ^ n))]) (u1 := 0) (v1 := 0) (u2 := 0) (v2 := 0) ((fun hC => r_X3_places hC hn) hC2) (⟨_, _, _, _, hC2, rfl⟩) oX3_places ⟨q_384, q_386, q_387, q_388, ⟨by decide, by decide⟩, Or.inr q_385⟩ rfl (by omega) (by decide) rfl (Nat.le_of_ble_eq_true rfl) 12 rfl dX7_placeBy_9 rfl ?_
    refine a_icmp_ge 32 15 rfl dX7_placeBy_12 (by decide) (fun _ => ?_) (fun hc => absurd (nI_le (Nat.le_refl _) (by omega)) hc)
    refine a_bipush (x := (-2)) 34 rfl dX7_placeBy_32 (by decide) ?_
    exact a_ireturn .int rfl rfl (rfl) (rfl) dX7_placeBy_34

end LE1
