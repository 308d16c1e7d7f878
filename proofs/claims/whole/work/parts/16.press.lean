/-! pressing by all pairs, till at rest; rounds; sets of a family; weights -/
section PR1
variable {G : g_G} {h : List va_E} {a ka n : Nat} {x : Int64} {y : Int32}
/-- pressed by (0, j) .. (i - 1, j) -/
def f_pressI (x : Int64) (j : Nat) : Nat → Int64
  | 0 => x
  | i + 1 => f_pressed (f_pressI x j i) i j
/-- pressed by all pairs below j + 1, from j = 1 on -/
def f_pressJ (x : Int64) : Nat → Int64
  | 0 => x
  | j + 1 => f_pressI (f_pressJ x j) (j + 1) (j + 1)
def f_pressAll (x : Int64) (n : Nat) : Int64 := f_pressJ x (n - 1)
theorem r_X3_pressedByAll (hC : h[a]? = some (c_O 3 [.ref (g_ad G ka), .int (nI n)])) (hn0 : 0 < n) (hn : n ≤ 6) : g_Run G mX3_pressedByAll 3 0 0 [.ref (g_ad G a), .long x] h (some (.long (f_pressAll x n))) h := by
  refine g_Run.of (lv := [(0, .ref (g_ad G a)), (1, .long x)]) (by decide) (Nat.le_of_ble_eq_true rfl) rfl ?_
  refine a_lload_n 1 1 rfl dX3_pressedByAll_0 rfl rfl ?_
  refine a_lstore_n (lv' := [(3, .long x), (0, .ref (g_ad G a)), (1, .long x)]) 2 rfl dX3_pressedByAll_1 rfl (by decide) rfl ?_
  refine a_iconst (x := 1) 3 rfl dX3_pressedByAll_2 (by decide) ?_
  refine a_istore (lv' := [(5, .int 1), (3, .long x), (0, .ref (g_ad G a)), (1, .long x)]) 5 rfl dX3_pressedByAll_3 (by decide) rfl ?_
  have key : ∀ jj j9 : Nat, j9 + 1 + jj = n → g_A G mX3_pressedByAll 3 0 0 5 [(5, .int (nI (j9 + 1))), (3, .long (f_pressJ x j9)), (0, .ref (g_ad G a)), (1, .long x)] [] h (some (.long (f_pressAll x n))) h := by
    intro jj
    induction jj with
    | zero =>
      intro j9 hj9
      refine a_iload 0 7 rfl dX3_pressedByAll_5 rfl ?_
      refine a_aload_n 2 8 rfl dX3_pressedByAll_7 rfl rfl ?_
      refine a_get 1 cl_3 f_RX3_9_3 (by decide) (hC) rfl 11 rfl dX3_pressedByAll_8 ?_
      refine a_icmp_ge 46 14 rfl dX3_pressedByAll_11 (by decide) (fun _ => ?_) (fun hc => absurd (nI_le (by omega) (by omega)) hc)
      refine a_lload_n 1 47 rfl dX3_pressedByAll_46 rfl rfl ?_
      exact a_lreturn rfl ((by rw [f_pressAll, show n - 1 = j9 by omega])) (rfl) dX3_pressedByAll_47
    | succ jj ih =>
      intro j9 hj9
      refine a_iload 0 7 rfl dX3_pressedByAll_5 rfl ?_
      refine a_aload_n 2 8 rfl dX3_pressedByAll_7 rfl rfl ?_
      refine a_get 1 cl_3 f_RX3_9_3 (by decide) (hC) rfl 11 rfl dX3_pressedByAll_8 ?_
      refine a_icmp_ge 46 14 rfl dX3_pressedByAll_11 (by decide) (fun hc => absurd hc (nI_ge (by omega) (by omega))) (fun _ => ?_)
      refine a_iconst (x := 0) 15 rfl dX3_pressedByAll_14 (by decide) ?_
      refine a_istore (lv' := [(6, .int 0), (5, .int (nI (j9 + 1))), (3, .long (f_pressJ x j9)), (0, .ref (g_ad G a)), (1, .long x)]) 17 rfl dX3_pressedByAll_15 (by decide) rfl ?_
      have key2 : ∀ kk i9 : Nat, i9 + kk = j9 + 1 → g_A G mX3_pressedByAll 3 0 0 17 [(6, .int (nI i9)), (5, .int (nI (j9 + 1))), (3, .long (f_pressI (f_pressJ x j9) (j9 + 1) i9)), (0, .ref (g_ad G a)), (1, .long x)] [] h (some (.long (f_pressAll x n))) h := by
        intro kk
        induction kk with
        | zero =>
          intro i9 hi9
          refine a_iload 0 19 rfl dX3_pressedByAll_17 rfl ?_
          refine a_iload 1 21 rfl dX3_pressedByAll_19 rfl ?_
          refine a_icmp_ge 40 24 rfl dX3_pressedByAll_21 (by decide) (fun _ => ?_) (fun hc => absurd (nI_le (by omega) (by omega)) hc)
          refine a_iinc (y := nI (j9 + 1 + 1)) (lv' := [(5, .int (nI (j9 + 1 + 1))), (6, .int (nI i9)), (3, .long (f_pressI (f_pressJ x j9) (j9 + 1) i9)), (0, .ref (g_ad G a)), (1, .long x)]) 1 43 rfl dX3_pressedByAll_40 rfl (nI_1 (j9 + 1)) (by decide) rfl ?_
          refine a_goto 5 dX3_pressedByAll_43 (by decide) ?_
          refine a_sub (lv' := [(5, .int (nI (j9 + 1 + 1))), (3, .long (f_pressI (f_pressJ x j9) (j9 + 1) i9)), (0, .ref (g_ad G a)), (1, .long x)]) [0, 2, 3, 4] rfl ?_
          have e9 := ih (j9 + 1) (by omega)
          rw [show i9 = j9 + 1 by omega]
          exact e9
        | succ kk ih2 =>
          intro i9 hi9
          refine a_iload 0 19 rfl dX3_pressedByAll_17 rfl ?_
          refine a_iload 1 21 rfl dX3_pressedByAll_19 rfl ?_
          refine a_icmp_ge 40 24 rfl dX3_pressedByAll_21 (by decide) (fun hc => absurd hc (nI_ge (by omega) (by omega))) (fun _ => ?_)
          refine a_aload_n 3 25 rfl dX3_pressedByAll_24 rfl rfl ?_
          refine a_lload_n 2 26 rfl dX3_pressedByAll_25 rfl rfl ?_
          refine a_iload 0 28 rfl dX3_pressedByAll_26 rfl ?_
          refine a_iload 1 30 rfl dX3_pressedByAll_28 rfl ?_
          refine a_callV (as := [.long (f_pressI (f_pressJ x j9) (j9 + 1) i9), .int (nI i9), .int (nI (j9 + 1))]) (rest := []) (st2 := [.long (f_pressed (f_pressI (f_pressJ x j9) (j9 + 1) i9) i9 (j9 + 1))]) (u1 := 0) (v1 := 0) (u2 := 0) (v2 := 0) (r_X3_pressedBy (i := i9) (j := j9 + 1) (by omega) (by omega)) (⟨_, _, _, _, hC, rfl⟩) oX3_pressedBy q_552 q_554 q_25 rfl (by decide) (by decide) rfl (Nat.le_of_ble_eq_true rfl) 33 rfl dX3_pressedByAll_30 rfl ?_
          refine a_lstore_n (lv' := [(3, .long (f_pressed (f_pressI (f_pressJ x j9) (j9 + 1) i9) i9 (j9 + 1))), (6, .int (nI i9)), (5, .int (nI (j9 + 1))), (0, .ref (g_ad G a)), (1, .long x)]) 34 rfl dX3_pressedByAll_33 rfl (by decide) rfl ?_
          refine a_iinc (y := nI (i9 + 1)) (lv' := [(6, .int (nI (i9 + 1))), (3, .long (f_pressed (f_pressI (f_pressJ x j9) (j9 + 1) i9) i9 (j9 + 1))), (5, .int (nI (j9 + 1))), (0, .ref (g_ad G a)), (1, .long x)]) 1 37 rfl dX3_pressedByAll_34 rfl (nI_1 i9) (by decide) rfl ?_
          refine a_goto 17 dX3_pressedByAll_37 (by decide) ?_
          refine a_sub (lv' := [(6, .int (nI (i9 + 1))), (5, .int (nI (j9 + 1))), (3, .long (f_pressI (f_pressJ x j9) (j9 + 1) (i9 + 1))), (0, .ref (g_ad G a)), (1, .long x)]) [0, 2, 1, 3, 4] rfl ?_
          exact ih2 (i9 + 1) (by omega)
      exact key2 (j9 + 1) 0 (by omega)
  exact key (n - 1) 0 (by omega)
/-- t times pressed by all, or till it is at rest -/
def f_rest (n : Nat) : Nat → Int64 → Int64
  | 0, x => x
  | t + 1, x => if f_pressAll x n = x then x else f_rest n t (f_pressAll x n)
theorem r_X3_pressedToRest (hC : h[a]? = some (c_O 3 [.ref (g_ad G ka), .int (nI n)])) (hn0 : 0 < n) (hn : n ≤ 6) : g_Run G mX3_pressedToRest 4 0 0 [.ref (g_ad G a), .long x] h (some (.long (f_rest n 4096 x))) h := by
  refine g_Run.of (lv := [(0, .ref (g_ad G a)), (1, .long x)]) (by decide) (Nat.le_of_ble_eq_true rfl) rfl ?_
  refine a_lload_n 1 1 rfl dX3_pressedToRest_0 rfl rfl ?_
  refine a_lstore_n (lv' := [(3, .long x), (0, .ref (g_ad G a)), (1, .long x)]) 2 rfl dX3_pressedToRest_1 rfl (by decide) rfl ?_
  refine a_iconst (x := 0) 3 rfl dX3_pressedToRest_2 (by decide) ?_
  refine a_istore (lv' := [(5, .int 0), (3, .long x), (0, .ref (g_ad G a)), (1, .long x)]) 5 rfl dX3_pressedToRest_3 (by decide) rfl ?_
  have key : ∀ jj ii : Nat, ii + jj = 4096 → ∀ x9 : Int64, g_A G mX3_pressedToRest 4 0 0 5 [(5, .int (nI ii)), (3, .long x9), (0, .ref (g_ad G a)), (1, .long x)] [] h (some (.long (f_rest n jj x9))) h := by
    intro jj
    induction jj with
    | zero =>
      intro ii hii x9
      refine a_iload 0 7 rfl dX3_pressedToRest_5 rfl ?_
      refine a_sipush (x := 4096) 10 rfl dX3_pressedToRest_7 (by decide) ?_
      refine a_icmp_ge 39 13 rfl dX3_pressedToRest_10 (by decide) (fun _ => ?_) (fun hc => absurd ((nI_le (a := 4096) (by omega) (by omega))) hc)
      refine a_lload_n 1 40 rfl dX3_pressedToRest_39 rfl rfl ?_
      exact a_lreturn rfl (rfl) (rfl) dX3_pressedToRest_40
    | succ jj ih =>
      intro ii hii x9
      refine a_iload 0 7 rfl dX3_pressedToRest_5 rfl ?_
      refine a_sipush (x := 4096) 10 rfl dX3_pressedToRest_7 (by decide) ?_
      refine a_icmp_ge 39 13 rfl dX3_pressedToRest_10 (by decide) (fun hc => absurd hc ((nI_ge (b := 4096) (by omega) (by omega)))) (fun _ => ?_)
      refine a_aload_n 2 14 rfl dX3_pressedToRest_13 rfl rfl ?_
      refine a_lload_n 1 15 rfl dX3_pressedToRest_14 rfl rfl ?_
      refine a_callV (as := [.long x9]) (rest := []) (st2 := [.long (f_pressAll x9 n)]) (u1 := 0) (v1 := 0) (u2 := 0) (v2 := 0) (r_X3_pressedByAll hC hn0 hn) (⟨_, _, _, _, hC, rfl⟩) oX3_pressedByAll q_577 q_550 q_24 rfl (by decide) (by decide) rfl (Nat.le_of_ble_eq_true rfl) 18 rfl dX3_pressedToRest_15 rfl ?_
      refine a_lstore (lv' := [(6, .long (f_pressAll x9 n)), (5, .int (nI ii)), (3, .long x9), (0, .ref (g_ad G a)), (1, .long x)]) 20 rfl dX3_pressedToRest_18 (by decide) rfl ?_
      refine a_lload 0 22 rfl dX3_pressedToRest_20 rfl ?_
      refine a_lload_n 2 23 rfl dX3_pressedToRest_22 rfl rfl ?_
      refine a_lcmp 24 rfl dX3_pressedToRest_23 ?_
      by_cases e9 : f_pressAll x9 n = x9
      · skip
        refine a_if_ne 30 27 rfl dX3_pressedToRest_24 (by decide) (fun hc => absurd ((g_cmp_eq.mpr e9)) hc) (fun _ => ?_)
        refine a_goto 39 dX3_pressedToRest_27 (by decide) ?_
        refine a_lload_n 2 40 rfl dX3_pressedToRest_39 rfl rfl ?_
        exact a_lreturn rfl ((by rw [f_rest, if_pos e9])) (rfl) dX3_pressedToRest_40
      · have e8 : f_rest n (jj + 1) x9 = f_rest n jj (f_pressAll x9 n) := if_neg e9
        rw [e8]
        refine a_if_ne 30 27 rfl dX3_pressedToRest_24 (by decide) (fun _ => ?_) (fun hc => absurd hc ((g_cmp_ne.mpr e9)))
        refine a_lload 0 32 rfl dX3_pressedToRest_30 rfl ?_
        refine a_lstore_n (lv' := [(3, .long (f_pressAll x9 n)), (6, .long (f_pressAll x9 n)), (5, .int (nI ii)), (0, .ref (g_ad G a)), (1, .long x)]) 33 rfl dX3_pressedToRest_32 rfl (by decide) rfl ?_
        refine a_iinc (y := nI (ii + 1)) (lv' := [(5, .int (nI (ii + 1))), (3, .long (f_pressAll x9 n)), (6, .long (f_pressAll x9 n)), (0, .ref (g_ad G a)), (1, .long x)]) 2 36 rfl dX3_pressedToRest_33 rfl (nI_1 ii) (by decide) rfl ?_
        refine a_goto 5 dX3_pressedToRest_36 (by decide) ?_
        refine a_sub (lv' := [(5, .int (nI (ii + 1))), (3, .long (f_pressAll x9 n)), (0, .ref (g_ad G a)), (1, .long x)]) [0, 1, 3, 4] rfl ?_
        exact ih (ii + 1) (by omega) _
  exact key 4096 0 (by omega) x
/-- how often it becomes another by (0, j) .. (i - 1, j) -/
def f_roundI (x : Int64) (j : Nat) : Nat → Nat
  | 0 => 0
  | i + 1 => f_roundI x j i + (if f_pressI x j (i + 1) = f_pressI x j i then 0 else 1)
def f_roundJ (x : Int64) : Nat → Nat
  | 0 => 0
  | j + 1 => f_roundJ x j + f_roundI (f_pressJ x j) (j + 1) (j + 1)
def f_rounds (n : Nat) : Nat → Int64 → Int32 → Int32
  | 0, _, r => r
  | t + 1, x, r => if r + nI (f_roundJ x (n - 1)) = r then r + nI (f_roundJ x (n - 1)) else f_rounds n t (f_pressAll x n) (r + nI (f_roundJ x (n - 1)))
theorem r_X3_roundsOf (hC : h[a]? = some (c_O 3 [.ref (g_ad G ka), .int (nI n)])) (hn0 : 0 < n) (hn : n ≤ 6) : g_Run G mX3_roundsOf 3 0 0 [.ref (g_ad G a), .long x] h (some (.int (f_rounds n 4096 x 0))) h := by
  refine g_Run.of (lv := [(0, .ref (g_ad G a)), (1, .long x)]) (by decide) (Nat.le_of_ble_eq_true rfl) rfl ?_
  refine a_lload_n 1 1 rfl dX3_roundsOf_0 rfl rfl ?_
  refine a_lstore_n (lv' := [(3, .long x), (0, .ref (g_ad G a)), (1, .long x)]) 2 rfl dX3_roundsOf_1 rfl (by decide) rfl ?_
  refine a_iconst (x := 0) 3 rfl dX3_roundsOf_2 (by decide) ?_
  refine a_istore (lv' := [(5, .int 0), (3, .long x), (0, .ref (g_ad G a)), (1, .long x)]) 5 rfl dX3_roundsOf_3 (by decide) rfl ?_
  refine a_iconst (x := 0) 6 rfl dX3_roundsOf_5 (by decide) ?_
  refine a_istore (lv' := [(6, .int 0), (5, .int 0), (3, .long x), (0, .ref (g_ad G a)), (1, .long x)]) 8 rfl dX3_roundsOf_6 (by decide) rfl ?_
  have key : ∀ jj ii : Nat, ii + jj = 4096 → ∀ (x9 : Int64) (r9 : Int32), g_A G mX3_roundsOf 3 0 0 8 [(6, .int (nI ii)), (5, .int r9), (3, .long x9), (0, .ref (g_ad G a)), (1, .long x)] [] h (some (.int (f_rounds n jj x9 r9))) h := by
    intro jj
    induction jj with
    | zero =>
      intro ii hii x9 r9
      refine a_iload 0 10 rfl dX3_roundsOf_8 rfl ?_
      refine a_sipush (x := 4096) 13 rfl dX3_roundsOf_10 (by decide) ?_
      refine a_icmp_ge 101 16 rfl dX3_roundsOf_13 (by decide) (fun _ => ?_) (fun hc => absurd ((nI_le (a := 4096) (by omega) (by omega))) hc)
      refine a_iload 1 103 rfl dX3_roundsOf_101 rfl ?_
      exact a_ireturn .int rfl rfl (rfl) (rfl) dX3_roundsOf_103
    | succ jj ih =>
      intro ii hii x9 r9
      refine a_iload 0 10 rfl dX3_roundsOf_8 rfl ?_
      refine a_sipush (x := 4096) 13 rfl dX3_roundsOf_10 (by decide) ?_
      refine a_icmp_ge 101 16 rfl dX3_roundsOf_13 (by decide) (fun hc => absurd hc ((nI_ge (b := 4096) (by omega) (by omega)))) (fun _ => ?_)
      refine a_iload 1 18 rfl dX3_roundsOf_16 rfl ?_
      refine a_istore (lv' := [(7, .int r9), (6, .int (nI ii)), (5, .int r9), (3, .long x9), (0, .ref (g_ad G a)), (1, .long x)]) 20 rfl dX3_roundsOf_18 (by decide) rfl ?_
      refine a_iconst (x := 1) 21 rfl dX3_roundsOf_20 (by decide) ?_
      refine a_istore (lv' := [(8, .int 1), (7, .int r9), (6, .int (nI ii)), (5, .int r9), (3, .long x9), (0, .ref (g_ad G a)), (1, .long x)]) 23 rfl dX3_roundsOf_21 (by decide) rfl ?_
      have kj : ∀ mm j9 : Nat, j9 + 1 + mm = n → g_A G mX3_roundsOf 3 0 0 23 [(8, .int (nI (j9 + 1))), (7, .int r9), (6, .int (nI ii)), (5, .int (r9 + nI (f_roundJ x9 j9))), (3, .long (f_pressJ x9 j9)), (0, .ref (g_ad G a)), (1, .long x)] [] h (some (.int (f_rounds n (jj + 1) x9 r9))) h := by
        intro mm
        induction mm with
        | zero =>
          intro j9 hj9
          refine a_iload 0 25 rfl dX3_roundsOf_23 rfl ?_
          refine a_aload_n 5 26 rfl dX3_roundsOf_25 rfl rfl ?_
          refine a_get 1 cl_3 f_RX3_9_3 (by decide) (hC) rfl 29 rfl dX3_roundsOf_26 ?_
          refine a_icmp_ge 85 32 rfl dX3_roundsOf_29 (by decide) (fun _ => ?_) (fun hc => absurd (nI_le (by omega) (by omega)) hc)
          refine a_iload 3 87 rfl dX3_roundsOf_85 rfl ?_
          refine a_iload 1 89 rfl dX3_roundsOf_87 rfl ?_
          have ej : n - 1 = j9 := by omega
          by_cases e9 : r9 + nI (f_roundJ x9 j9) = r9
          · skip
            refine a_icmp_ne 95 92 rfl dX3_roundsOf_89 (by decide) (fun hc => absurd (e9) hc) (fun _ => ?_)
            refine a_goto 101 dX3_roundsOf_92 (by decide) ?_
            refine a_iload 3 103 rfl dX3_roundsOf_101 rfl ?_
            exact a_ireturn .int rfl rfl ((by rw [f_rounds, ej, if_pos e9])) (rfl) dX3_roundsOf_103
          · have e8 : f_rounds n (jj + 1) x9 r9 = f_rounds n jj (f_pressAll x9 n) (r9 + nI (f_roundJ x9 (n - 1))) := if_neg (by rw [ej]; exact e9)
            rw [e8, ej]
            refine a_icmp_ne 95 92 rfl dX3_roundsOf_89 (by decide) (fun _ => ?_) (fun hc => absurd hc (e9))
            refine a_iinc (y := nI (ii + 1)) (lv' := [(6, .int (nI (ii + 1))), (8, .int (nI (j9 + 1))), (7, .int r9), (5, .int (r9 + nI (f_roundJ x9 j9))), (3, .long (f_pressJ x9 j9)), (0, .ref (g_ad G a)), (1, .long x)]) 2 98 rfl dX3_roundsOf_95 rfl (nI_1 ii) (by decide) rfl ?_
            refine a_goto 8 dX3_roundsOf_98 (by decide) ?_
            refine a_sub (lv' := [(6, .int (nI (ii + 1))), (5, .int (r9 + nI (f_roundJ x9 j9))), (3, .long (f_pressJ x9 j9)), (0, .ref (g_ad G a)), (1, .long x)]) [0, 3, 4, 5, 6] rfl ?_
            have e7 : f_pressJ x9 j9 = f_pressAll x9 n := by rw [f_pressAll, ej]
            rw [e7]
            exact ih (ii + 1) (by omega) _ _
        | succ mm ihj =>
          intro j9 hj9
          refine a_iload 0 25 rfl dX3_roundsOf_23 rfl ?_
          refine a_aload_n 5 26 rfl dX3_roundsOf_25 rfl rfl ?_
          refine a_get 1 cl_3 f_RX3_9_3 (by decide) (hC) rfl 29 rfl dX3_roundsOf_26 ?_
          refine a_icmp_ge 85 32 rfl dX3_roundsOf_29 (by decide) (fun hc => absurd hc (nI_ge (by omega) (by omega))) (fun _ => ?_)
          refine a_iconst (x := 0) 33 rfl dX3_roundsOf_32 (by decide) ?_
          refine a_istore (lv' := [(9, .int 0), (8, .int (nI (j9 + 1))), (7, .int r9), (6, .int (nI ii)), (5, .int (r9 + nI (f_roundJ x9 j9))), (3, .long (f_pressJ x9 j9)), (0, .ref (g_ad G a)), (1, .long x)]) 35 rfl dX3_roundsOf_33 (by decide) rfl ?_
          refine a_eq (lv2 := [(9, .int (nI 0)), (8, .int (nI (j9 + 1))), (7, .int r9), (6, .int (nI ii)), (5, .int (r9 + nI (f_roundJ x9 j9 + f_roundI (f_pressJ x9 j9) (j9 + 1) 0))), (3, .long (f_pressI (f_pressJ x9 j9) (j9 + 1) 0)), (0, .ref (g_ad G a)), (1, .long x)]) rfl rfl rfl rfl ?_
          have ki : ∀ oo i9 : Nat, i9 + oo = j9 + 1 → g_A G mX3_roundsOf 3 0 0 35 [(9, .int (nI i9)), (8, .int (nI (j9 + 1))), (7, .int r9), (6, .int (nI ii)), (5, .int (r9 + nI (f_roundJ x9 j9 + f_roundI (f_pressJ x9 j9) (j9 + 1) i9))), (3, .long (f_pressI (f_pressJ x9 j9) (j9 + 1) i9)), (0, .ref (g_ad G a)), (1, .long x)] [] h (some (.int (f_rounds n (jj + 1) x9 r9))) h := by
            intro oo
            induction oo with
            | zero =>
              intro i9 hi9
              refine a_iload 0 37 rfl dX3_roundsOf_35 rfl ?_
              refine a_iload 1 39 rfl dX3_roundsOf_37 rfl ?_
              refine a_icmp_ge 79 42 rfl dX3_roundsOf_39 (by decide) (fun _ => ?_) (fun hc => absurd (nI_le (by omega) (by omega)) hc)
              refine a_iinc (y := nI (j9 + 1 + 1)) (lv' := [(8, .int (nI (j9 + 1 + 1))), (9, .int (nI i9)), (7, .int r9), (6, .int (nI ii)), (5, .int (r9 + nI (f_roundJ x9 j9 + f_roundI (f_pressJ x9 j9) (j9 + 1) i9))), (3, .long (f_pressI (f_pressJ x9 j9) (j9 + 1) i9)), (0, .ref (g_ad G a)), (1, .long x)]) 1 82 rfl dX3_roundsOf_79 rfl (nI_1 (j9 + 1)) (by decide) rfl ?_
              refine a_goto 23 dX3_roundsOf_82 (by decide) ?_
              refine a_sub (lv' := [(8, .int (nI (j9 + 1 + 1))), (7, .int r9), (6, .int (nI ii)), (5, .int (r9 + nI (f_roundJ x9 j9 + f_roundI (f_pressJ x9 j9) (j9 + 1) i9))), (3, .long (f_pressI (f_pressJ x9 j9) (j9 + 1) i9)), (0, .ref (g_ad G a)), (1, .long x)]) [0, 2, 3, 4, 5, 6, 7] rfl ?_
              rw [show i9 = j9 + 1 by omega]
              exact ihj (j9 + 1) (by omega)
            | succ oo ihi =>
              intro i9 hi9
              refine a_iload 0 37 rfl dX3_roundsOf_35 rfl ?_
              refine a_iload 1 39 rfl dX3_roundsOf_37 rfl ?_
              refine a_icmp_ge 79 42 rfl dX3_roundsOf_39 (by decide) (fun hc => absurd hc (nI_ge (by omega) (by omega))) (fun _ => ?_)
              refine a_aload_n 6 43 rfl dX3_roundsOf_42 rfl rfl ?_
              refine a_lload_n 5 44 rfl dX3_roundsOf_43 rfl rfl ?_
              refine a_iload 0 46 rfl dX3_roundsOf_44 rfl ?_
              refine a_iload 1 48 rfl dX3_roundsOf_46 rfl ?_
              refine a_callV (as := [.long (f_pressI (f_pressJ x9 j9) (j9 + 1) i9), .int (nI i9), .int (nI (j9 + 1))]) (rest := []) (st2 := [.long (f_pressI (f_pressJ x9 j9) (j9 + 1) (i9 + 1))]) (u1 := 0) (v1 := 0) (u2 := 0) (v2 := 0) (r_X3_pressedBy (i := i9) (j := j9 + 1) (by omega) (by omega)) (⟨_, _, _, _, hC, rfl⟩) oX3_pressedBy q_552 q_554 q_25 rfl (by decide) (by decide) rfl (Nat.le_of_ble_eq_true rfl) 51 rfl dX3_roundsOf_48 rfl ?_
              refine a_lstore (lv' := [(10, .long (f_pressI (f_pressJ x9 j9) (j9 + 1) (i9 + 1))), (9, .int (nI i9)), (8, .int (nI (j9 + 1))), (7, .int r9), (6, .int (nI ii)), (5, .int (r9 + nI (f_roundJ x9 j9 + f_roundI (f_pressJ x9 j9) (j9 + 1) i9))), (3, .long (f_pressI (f_pressJ x9 j9) (j9 + 1) i9)), (0, .ref (g_ad G a)), (1, .long x)]) 53 rfl dX3_roundsOf_51 (by decide) rfl ?_
              refine a_iload 5 55 rfl dX3_roundsOf_53 rfl ?_
              refine a_lload 0 57 rfl dX3_roundsOf_55 rfl ?_
              refine a_lload_n 6 58 rfl dX3_roundsOf_57 rfl rfl ?_
              refine a_lcmp 59 rfl dX3_roundsOf_58 ?_
              by_cases e9 : f_pressI (f_pressJ x9 j9) (j9 + 1) (i9 + 1) = f_pressI (f_pressJ x9 j9) (j9 + 1) i9
              · have e8 : f_roundI (f_pressJ x9 j9) (j9 + 1) (i9 + 1) = f_roundI (f_pressJ x9 j9) (j9 + 1) i9 := by rw [f_roundI, if_pos e9, Nat.add_zero]
                refine a_if_ne 66 62 rfl dX3_roundsOf_59 (by decide) (fun hc => absurd ((g_cmp_eq.mpr e9)) hc) (fun _ => ?_)
                refine a_iconst (x := 0) 63 rfl dX3_roundsOf_62 (by decide) ?_
                refine a_goto 67 dX3_roundsOf_63 (by decide) ?_
                refine a_iadd 68 rfl dX3_roundsOf_67 ?_
                refine a_istore (lv' := [(5, .int ((r9 + nI (f_roundJ x9 j9 + f_roundI (f_pressJ x9 j9) (j9 + 1) i9)) + 0)), (10, .long (f_pressI (f_pressJ x9 j9) (j9 + 1) (i9 + 1))), (9, .int (nI i9)), (8, .int (nI (j9 + 1))), (7, .int r9), (6, .int (nI ii)), (3, .long (f_pressI (f_pressJ x9 j9) (j9 + 1) i9)), (0, .ref (g_ad G a)), (1, .long x)]) 70 rfl dX3_roundsOf_68 (by decide) rfl ?_
                refine a_lload 1 72 rfl dX3_roundsOf_70 rfl ?_
                refine a_lstore_n (lv' := [(3, .long (f_pressI (f_pressJ x9 j9) (j9 + 1) (i9 + 1))), (5, .int ((r9 + nI (f_roundJ x9 j9 + f_roundI (f_pressJ x9 j9) (j9 + 1) i9)) + 0)), (10, .long (f_pressI (f_pressJ x9 j9) (j9 + 1) (i9 + 1))), (9, .int (nI i9)), (8, .int (nI (j9 + 1))), (7, .int r9), (6, .int (nI ii)), (0, .ref (g_ad G a)), (1, .long x)]) 73 rfl dX3_roundsOf_72 rfl (by decide) rfl ?_
                refine a_iinc (y := nI (i9 + 1)) (lv' := [(9, .int (nI (i9 + 1))), (3, .long (f_pressI (f_pressJ x9 j9) (j9 + 1) (i9 + 1))), (5, .int ((r9 + nI (f_roundJ x9 j9 + f_roundI (f_pressJ x9 j9) (j9 + 1) i9)) + 0)), (10, .long (f_pressI (f_pressJ x9 j9) (j9 + 1) (i9 + 1))), (8, .int (nI (j9 + 1))), (7, .int r9), (6, .int (nI ii)), (0, .ref (g_ad G a)), (1, .long x)]) 3 76 rfl dX3_roundsOf_73 rfl (nI_1 i9) (by decide) rfl ?_
                refine a_goto 35 dX3_roundsOf_76 (by decide) ?_
                refine a_sub (lv' := [(9, .int (nI (i9 + 1))), (8, .int (nI (j9 + 1))), (7, .int r9), (6, .int (nI ii)), (5, .int (r9 + nI (f_roundJ x9 j9 + f_roundI (f_pressJ x9 j9) (j9 + 1) i9) + 0)), (3, .long (f_pressI (f_pressJ x9 j9) (j9 + 1) (i9 + 1))), (0, .ref (g_ad G a)), (1, .long x)]) [0, 4, 5, 6, 2, 1, 7, 8] rfl ?_
                rw [Int32.add_zero, ← e8]
                exact ihi (i9 + 1) (by omega)
              · have e8 : f_roundI (f_pressJ x9 j9) (j9 + 1) (i9 + 1) = f_roundI (f_pressJ x9 j9) (j9 + 1) i9 + 1 := by rw [f_roundI, if_neg e9]
                refine a_if_ne 66 62 rfl dX3_roundsOf_59 (by decide) (fun _ => ?_) (fun hc => absurd hc ((g_cmp_ne.mpr e9)))
                refine a_iconst (x := 1) 67 rfl dX3_roundsOf_66 (by decide) ?_
                refine a_iadd 68 rfl dX3_roundsOf_67 ?_
                refine a_istore (lv' := [(5, .int ((r9 + nI (f_roundJ x9 j9 + f_roundI (f_pressJ x9 j9) (j9 + 1) i9)) + 1)), (10, .long (f_pressI (f_pressJ x9 j9) (j9 + 1) (i9 + 1))), (9, .int (nI i9)), (8, .int (nI (j9 + 1))), (7, .int r9), (6, .int (nI ii)), (3, .long (f_pressI (f_pressJ x9 j9) (j9 + 1) i9)), (0, .ref (g_ad G a)), (1, .long x)]) 70 rfl dX3_roundsOf_68 (by decide) rfl ?_
                refine a_lload 1 72 rfl dX3_roundsOf_70 rfl ?_
                refine a_lstore_n (lv' := [(3, .long (f_pressI (f_pressJ x9 j9) (j9 + 1) (i9 + 1))), (5, .int ((r9 + nI (f_roundJ x9 j9 + f_roundI (f_pressJ x9 j9) (j9 + 1) i9)) + 1)), (10, .long (f_pressI (f_pressJ x9 j9) (j9 + 1) (i9 + 1))), (9, .int (nI i9)), (8, .int (nI (j9 + 1))), (7, .int r9), (6, .int (nI ii)), (0, .ref (g_ad G a)), (1, .long x)]) 73 rfl dX3_roundsOf_72 rfl (by decide) rfl ?_
                refine a_iinc (y := nI (i9 + 1)) (lv' := [(9, .int (nI (i9 + 1))), (3, .long (f_pressI (f_pressJ x9 j9) (j9 + 1) (i9 + 1))), (5, .int ((r9 + nI (f_roundJ x9 j9 + f_roundI (f_pressJ x9 j9) (j9 + 1) i9)) + 1)), (10, .long (f_pressI (f_pressJ x9 j9) (j9 + 1) (i9 + 1))), (8, .int (nI (j9 + 1))), (7, .int r9), (6, .int (nI ii)), (0, .ref (g_ad G a)), (1, .long x)]) 3 76 rfl dX3_roundsOf_73 rfl (nI_1 i9) (by decide) rfl ?_
                refine a_goto 35 dX3_roundsOf_76 (by decide) ?_
                refine a_sub (lv' := [(9, .int (nI (i9 + 1))), (8, .int (nI (j9 + 1))), (7, .int r9), (6, .int (nI ii)), (5, .int (r9 + nI (f_roundJ x9 j9 + f_roundI (f_pressJ x9 j9) (j9 + 1) i9) + 1)), (3, .long (f_pressI (f_pressJ x9 j9) (j9 + 1) (i9 + 1))), (0, .ref (g_ad G a)), (1, .long x)]) [0, 4, 5, 6, 2, 1, 7, 8] rfl ?_
                rw [Int32.add_assoc, nI_1, Nat.add_assoc, ← e8]
                exact ihi (i9 + 1) (by omega)
          exact ki (j9 + 1) 0 (by omega)
      refine a_eq (lv2 := [(8, .int (nI (0 + 1))), (7, .int r9), (6, .int (nI ii)), (5, .int (r9 + nI (f_roundJ x9 0))), (3, .long (f_pressJ x9 0)), (0, .ref (g_ad G a)), (1, .long x)]) rfl (by rw [show r9 + nI (f_roundJ x9 0) = r9 from Int32.add_zero _]; rfl) rfl rfl ?_
      exact kj (n - 1) 0 (by omega)
  exact key 4096 0 (by omega) x 0
/-- the sets of a family of kind k, figure g, told t -/
def f_setsOf (n k : Nat) (g : Int32) (t : Int64) : Int64 := match k with
  | 1 => f_all (2 ^ n) &&& ((t &&& f_all (2 ^ n)) ^^^ (-1))
  | 2 => f_turned (t &&& f_all (2 ^ n)) n
  | 3 => t &&& f_all (2 ^ n) &&& f_ofSize g 64
  | 4 => f_parts (t &&& f_all (2 ^ n) &&& f_ofSize g 64) n
  | 5 => f_mirror (f_turned (t &&& f_all (2 ^ n)) n) n (n / 2)
  | _ => t &&& f_all (2 ^ n)
theorem r_X3_setsOf {b k9 : Nat} (hC : h[a]? = some (c_O 3 [.ref (g_ad G ka), .int (nI n)])) (hF : h[b]? = some (c_O 5 [.int (nI k9), .int y, .long x])) (hn : n ≤ 6) (hk : k9 < 6) : g_Run G mX3_setsOf 3 0 0 [.ref (g_ad G a), .ref (g_ad G b)] h (some (.long (f_setsOf n k9 y x))) h := by
  refine g_Run.of (lv := [(0, .ref (g_ad G a)), (1, .ref (g_ad G b))]) (by decide) (Nat.le_of_ble_eq_true rfl) rfl ?_
  refine a_aload_n 1 1 rfl dX3_setsOf_0 rfl rfl ?_
  refine a_get 2 cl_5 f_RX3_43_5 (by decide) (hF) rfl 4 rfl dX3_setsOf_1 ?_
  refine a_aload_n 0 5 rfl dX3_setsOf_4 rfl rfl ?_
  refine a_callU (as := []) (C := RX3) (owner := "LeastShadows$Ground") (x := ⟨"LeastShadows$Cube", "all", "()J"⟩) (rest := [.long x]) (st2 := [.long (f_all (2 ^ n)), .long x]) (u1 := 0) (v1 := 0) (u2 := 0) (v2 := 0) (r_all_cube hC hn) (⟨_, _, _, _, hC, rfl⟩) oX7_all ⟨q_471, q_472, q_474, q_379, ⟨by decide, by decide⟩, Or.inl rfl⟩ rfl (by decide) (by decide) rfl (Nat.le_of_ble_eq_true rfl) 8 rfl dX3_setsOf_5 rfl ?_
  refine a_land 9 rfl dX3_setsOf_8 ?_
  refine a_lstore_n (lv' := [(2, .long (x &&& (f_all (2 ^ n)))), (0, .ref (g_ad G a)), (1, .ref (g_ad G b))]) 10 rfl dX3_setsOf_9 rfl (by decide) rfl ?_
  refine a_aload_n 2 11 rfl dX3_setsOf_10 rfl rfl ?_
  refine a_get 0 cl_5 f_RX3_53_5 (by decide) (hF) rfl 14 rfl dX3_setsOf_11 ?_
  match k9, hk with
  | 0, _ =>
    refine a_tableOut 101 dX3_setsOf_14 ((Or.inl (by decide))) (by decide) ?_
    refine a_lload_n 0 102 rfl dX3_setsOf_101 rfl rfl ?_
    exact a_lreturn rfl (rfl) (rfl) dX3_setsOf_102
  | 1, _ =>
    refine a_tableIn (off := 34) 48 dX3_setsOf_14 (by decide) (by decide) (by decide) (by decide) ?_
    refine a_aload_n 1 49 rfl dX3_setsOf_48 rfl rfl ?_
    refine a_callU (as := []) (C := RX3) (owner := "LeastShadows$Ground") (x := ⟨"LeastShadows$Cube", "all", "()J"⟩) (rest := []) (st2 := [.long (f_all (2 ^ n))]) (u1 := 0) (v1 := 0) (u2 := 0) (v2 := 0) (r_all_cube hC hn) (⟨_, _, _, _, hC, rfl⟩) oX7_all ⟨q_471, q_472, q_474, q_379, ⟨by decide, by decide⟩, Or.inl rfl⟩ rfl (by decide) (by decide) rfl (Nat.le_of_ble_eq_true rfl) 52 rfl dX3_setsOf_49 rfl ?_
    refine a_lload_n 0 53 rfl dX3_setsOf_52 rfl rfl ?_
    refine a_ldc2 q_475 56 rfl dX3_setsOf_53 ?_
    refine a_lxor 57 rfl dX3_setsOf_56 ?_
    refine a_land 58 rfl dX3_setsOf_57 ?_
    exact a_lreturn rfl (rfl) (rfl) dX3_setsOf_58
  | 2, _ =>
    refine a_tableIn (off := 45) 59 dX3_setsOf_14 (by decide) (by decide) (by decide) (by decide) ?_
    refine a_aload_n 1 60 rfl dX3_setsOf_59 rfl rfl ?_
    refine a_lload_n 0 61 rfl dX3_setsOf_60 rfl rfl ?_
    refine a_callV (as := [.long (x &&& f_all (2 ^ n))]) (rest := []) (st2 := [.long (f_turned (x &&& f_all (2 ^ n)) n)]) (u1 := 0) (v1 := 0) (u2 := 0) (v2 := 0) (r_X3_turned hC hn) (⟨_, _, _, _, hC, rfl⟩) oX3_turned q_476 q_478 q_14 rfl (by decide) (by decide) rfl (Nat.le_of_ble_eq_true rfl) 64 rfl dX3_setsOf_61 rfl ?_
    exact a_lreturn rfl (rfl) (rfl) dX3_setsOf_64
  | 3, _ =>
    refine a_tableIn (off := 51) 65 dX3_setsOf_14 (by decide) (by decide) (by decide) (by decide) ?_
    refine a_lload_n 0 66 rfl dX3_setsOf_65 rfl rfl ?_
    refine a_aload_n 1 67 rfl dX3_setsOf_66 rfl rfl ?_
    refine a_aload_n 2 68 rfl dX3_setsOf_67 rfl rfl ?_
    refine a_get 1 cl_5 f_RX3_61_5 (by decide) (hF) rfl 71 rfl dX3_setsOf_68 ?_
    refine a_callV (as := [.int y]) (rest := [.long (x &&& f_all (2 ^ n))]) (st2 := [.long (f_ofSize y 64), .long (x &&& f_all (2 ^ n))]) (u1 := 0) (v1 := 0) (u2 := 0) (v2 := 0) (r_X3_ofSize) (⟨_, _, _, _, hC, rfl⟩) oX3_ofSize q_485 q_487 q_15 rfl (by decide) (by decide) rfl (Nat.le_of_ble_eq_true rfl) 74 rfl dX3_setsOf_71 rfl ?_
    refine a_land 75 rfl dX3_setsOf_74 ?_
    exact a_lreturn rfl (rfl) (rfl) dX3_setsOf_75
  | 4, _ =>
    refine a_tableIn (off := 62) 76 dX3_setsOf_14 (by decide) (by decide) (by decide) (by decide) ?_
    refine a_aload_n 1 77 rfl dX3_setsOf_76 rfl rfl ?_
    refine a_lload_n 0 78 rfl dX3_setsOf_77 rfl rfl ?_
    refine a_aload_n 1 79 rfl dX3_setsOf_78 rfl rfl ?_
    refine a_aload_n 2 80 rfl dX3_setsOf_79 rfl rfl ?_
    refine a_get 1 cl_5 f_RX3_61_5 (by decide) (hF) rfl 83 rfl dX3_setsOf_80 ?_
    refine a_callV (as := [.int y]) (rest := [.long (x &&& f_all (2 ^ n)), .ref (g_ad G a)]) (st2 := [.long (f_ofSize y 64), .long (x &&& f_all (2 ^ n)), .ref (g_ad G a)]) (u1 := 0) (v1 := 0) (u2 := 0) (v2 := 0) (r_X3_ofSize) (⟨_, _, _, _, hC, rfl⟩) oX3_ofSize q_485 q_487 q_15 rfl (by decide) (by decide) rfl (Nat.le_of_ble_eq_true rfl) 86 rfl dX3_setsOf_83 rfl ?_
    refine a_land 87 rfl dX3_setsOf_86 ?_
    refine a_callV (as := [.long ((x &&& f_all (2 ^ n)) &&& (f_ofSize y 64))]) (rest := []) (st2 := [.long (f_parts (x &&& f_all (2 ^ n) &&& f_ofSize y 64) n)]) (u1 := 0) (v1 := 0) (u2 := 0) (v2 := 0) (r_X3_withParts hC hn) (⟨_, _, _, _, hC, rfl⟩) oX3_withParts q_495 q_497 q_16 rfl (by decide) (by decide) rfl (Nat.le_of_ble_eq_true rfl) 90 rfl dX3_setsOf_87 rfl ?_
    exact a_lreturn rfl (rfl) (rfl) dX3_setsOf_90
  | 5, _ =>
    refine a_tableIn (off := 77) 91 dX3_setsOf_14 (by decide) (by decide) (by decide) (by decide) ?_
    refine a_aload_n 1 92 rfl dX3_setsOf_91 rfl rfl ?_
    refine a_aload_n 1 93 rfl dX3_setsOf_92 rfl rfl ?_
    refine a_lload_n 0 94 rfl dX3_setsOf_93 rfl rfl ?_
    refine a_callV (as := [.long (x &&& f_all (2 ^ n))]) (rest := [.ref (g_ad G a)]) (st2 := [.long (f_turned (x &&& f_all (2 ^ n)) n), .ref (g_ad G a)]) (u1 := 0) (v1 := 0) (u2 := 0) (v2 := 0) (r_X3_turned hC hn) (⟨_, _, _, _, hC, rfl⟩) oX3_turned q_476 q_478 q_14 rfl (by decide) (by decide) rfl (Nat.le_of_ble_eq_true rfl) 97 rfl dX3_setsOf_94 rfl ?_
    refine a_callV (as := [.long (f_turned (x &&& f_all (2 ^ n)) n)]) (rest := []) (st2 := [.long (f_mirror (f_turned (x &&& f_all (2 ^ n)) n) n (n / 2))]) (u1 := 0) (v1 := 0) (u2 := 0) (v2 := 0) (r_X3_mirrored hC hn) (⟨_, _, _, _, hC, rfl⟩) oX3_mirrored q_499 q_501 q_17 rfl (by decide) (by decide) rfl (Nat.le_of_ble_eq_true rfl) 100 rfl dX3_setsOf_97 rfl ?_
    exact a_lreturn rfl (rfl) (rfl) dX3_setsOf_100
end PR1
