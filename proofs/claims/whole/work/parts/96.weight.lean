/-! weight: the class -/
section WG1
variable {G : g_G} {h : List va_E} {x : Int64} {a ka n : Nat}
theorem f_b1k : ∀ k, k < 64 → f_b 1 k = decide (k = 0) := by decide +kernel
theorem f_lowb {y : Int64} : y &&& 1 = 0 ↔ f_b y 0 = false := by
  constructor
  · intro h
    have e1 : f_b (y &&& 1) 0 = false := by rw [h]; exact f_b_0 0
    rw [f_b_and, f_b1k 0 (by omega)] at e1
    cases e2 : f_b y 0
    · rfl
    · rw [e2] at e1; exact absurd e1 (by decide)
  · intro h
    apply f_b_ext
    intro k hk
    rw [f_b_and, f_b1k k hk, f_b_0]
    by_cases e3 : k = 0
    · rw [e3, h]; rfl
    · rw [decide_eq_false e3, Bool.and_false]
theorem f_bsr {x : Int64} {s : Nat} (hs : s < 64) : f_sr x (nI s) &&& 1 = 0 ↔ f_b x s = false := by
  rw [f_lowb, f_b_sr hs, Nat.add_zero]
theorem f_popn : ∀ n, n < 7 → ∀ s, s < 2 ^ n → f_pop (nI s).toInt64 ≤ n := by decide +kernel
theorem f_bitI {s : Nat} (hs : s < 64) : g_Run G mJ6_bitCount_0f7a4 1 0 0 [.int (nI s)] h (some (.int (nI (f_pop (nI s).toInt64)))) h := by
  have e1 := r_bitCountI (G := G) (h := h) (y := nI s)
  rw [(f_popI s hs).1] at e1
  exact e1
theorem r_X3_weightOf (hC : h[a]? = some (c_O 3 [.ref (g_ad G ka), .int (nI n)])) (hn : n ≤ 6) : g_Run G mX3_weightOf 2 0 0 [.ref (g_ad G a), .long x] h (some (.double (f_wt x n (2 ^ n)))) h := by
  have hp := f_2n hn
  refine g_Run.of (lv := [(0, .ref (g_ad G a)), (1, .long x)]) (by decide) (Nat.le_of_ble_eq_true rfl) rfl ?_
  refine a_dconst0 1 rfl dX3_weightOf_0 ?_
  refine a_dstore_n (lv' := [(3, .double FP.dconst0), (0, .ref (g_ad G a)), (1, .long x)]) 2 rfl dX3_weightOf_1 rfl (by decide) rfl ?_
  refine a_iconst (x := 0) 3 rfl dX3_weightOf_2 (by decide) ?_
  refine a_istore (lv' := [(5, .int 0), (3, .double FP.dconst0), (0, .ref (g_ad G a)), (1, .long x)]) 5 rfl dX3_weightOf_3 (by decide) rfl ?_
  refine a_sub (lv' := [(5, .int (nI 0)), (3, .double (f_wt x n 0)), (0, .ref (g_ad G a)), (1, .long x)]) [0, 1, 2, 3] rfl ?_
  have key : ∀ jj ii : Nat, ii + jj = 2 ^ n → g_A G mX3_weightOf 2 0 0 5 [(5, .int (nI ii)), (3, .double (f_wt x n ii)), (0, .ref (g_ad G a)), (1, .long x)] [] h (some (.double (f_wt x n (2 ^ n)))) h := by
    intro jj
    induction jj with
    | zero =>
      intro ii hii
      refine a_iload 0 7 rfl dX3_weightOf_5 rfl ?_
      refine a_aload_n 2 8 rfl dX3_weightOf_7 rfl rfl ?_
      refine a_callV (as := []) (rest := [.int (nI ii)]) (st2 := [.int (nI (2 ^ n)), .int (nI ii)]) (u1 := 0) (v1 := 0) (u2 := 0) (v2 := 0) (r_X3_places hC hn) (⟨_, _, _, _, hC, rfl⟩) oX3_places q_821 q_388 q_1663 rfl (by omega) (by decide) rfl (Nat.le_of_ble_eq_true rfl) 11 rfl dX3_weightOf_8 rfl ?_
      refine a_icmp_ge 50 14 rfl dX3_weightOf_11 (by decide) (fun _ => ?_) (fun hc => absurd ((nI_le (a := 2 ^ n) (b := ii) (by omega) (by omega))) hc)
      refine a_dload_n 1 51 rfl dX3_weightOf_50 rfl rfl ?_
      exact a_dreturn rfl ((by rw [show 2 ^ n = ii by omega])) (rfl) dX3_weightOf_51
    | succ jj ih =>
      intro ii hii
      refine a_iload 0 7 rfl dX3_weightOf_5 rfl ?_
      refine a_aload_n 2 8 rfl dX3_weightOf_7 rfl rfl ?_
      refine a_callV (as := []) (rest := [.int (nI ii)]) (st2 := [.int (nI (2 ^ n)), .int (nI ii)]) (u1 := 0) (v1 := 0) (u2 := 0) (v2 := 0) (r_X3_places hC hn) (⟨_, _, _, _, hC, rfl⟩) oX3_places q_821 q_388 q_1663 rfl (by omega) (by decide) rfl (Nat.le_of_ble_eq_true rfl) 11 rfl dX3_weightOf_8 rfl ?_
      refine a_icmp_ge 50 14 rfl dX3_weightOf_11 (by decide) (fun hc => absurd hc (nI_ge (b := 2 ^ n) (by omega) (by omega))) (fun _ => ?_)
      refine a_lload_n 3 15 rfl dX3_weightOf_14 rfl rfl ?_
      refine a_iload 0 17 rfl dX3_weightOf_15 rfl ?_
      refine a_lushr 18 rfl dX3_weightOf_17 ?_
      refine a_lconst (x := 1) 19 rfl dX3_weightOf_18 (by decide) ?_
      refine a_land 20 rfl dX3_weightOf_19 ?_
      refine a_lconst (x := 0) 21 rfl dX3_weightOf_20 (by decide) ?_
      refine a_lcmp 22 rfl dX3_weightOf_21 ?_
      cases eb : f_b x ii
      · skip
        refine a_if_eq 44 25 rfl dX3_weightOf_22 (by decide) (fun _ => ?_) (fun hc => absurd (g_cmp_eq.mpr ((f_bsr (by omega)).mpr eb)) hc)
        refine a_iinc (y := nI (ii + 1)) (lv' := [(5, .int (nI (ii + 1))), (3, .double (f_wt x n ii)), (0, .ref (g_ad G a)), (1, .long x)]) 0 47 rfl dX3_weightOf_44 rfl (nI_1 ii) (by decide) rfl ?_
        refine a_goto 5 dX3_weightOf_47 (by decide) ?_
        refine a_eq (lv2 := [(5, .int (nI (ii + 1))), (3, .double (f_wt x n (ii + 1))), (0, .ref (g_ad G a)), (1, .long x)]) rfl (by rw [show f_wt x n (ii + 1) = f_wt x n ii by show cond (f_b x ii) _ _ = _; rw [eb]; rfl]) rfl rfl ?_
        exact ih (ii + 1) (by omega)
      · have hw1 : f_wt x n (ii + 1) = FP.dadd (f_wt x n ii) (f_wu (f_ch n (f_pop (nI ii).toInt64))) := by
          show cond (f_b x ii) _ _ = _
          rw [eb]; rfl
        have hok := f_wt_ok (x := x) (s := ii + 1) hn (by omega)
        rw [hw1] at hok
        have hch := f_chs n (by omega) ii (by omega)
        have hu : vf_n64 (f_wu (f_ch n (f_pop (nI ii).toInt64))) := by
          obtain ⟨c9, q9, z1, _, _⟩ := f_wu_nf hch.1 hch.2
          exact f_nn64 z1
        refine a_if_eq 44 25 rfl dX3_weightOf_22 (by decide) (fun hc => absurd hc ((fun z9 => by rw [(f_bsr (by omega)).mp (g_cmp_eq.mp z9)] at eb; exact absurd eb (by decide)))) (fun _ => ?_)
        refine a_dload_n 1 26 rfl dX3_weightOf_25 rfl rfl ?_
        refine a_dconst1 27 rfl dX3_weightOf_26 ?_
        refine a_aload_n 2 28 rfl dX3_weightOf_27 rfl rfl ?_
        refine a_get 1 cl_3 f_RX3_9_3 (by decide) (hC) rfl 31 rfl dX3_weightOf_28 ?_
        refine a_i2l 32 rfl dX3_weightOf_31 ?_
        refine a_iload 0 34 rfl dX3_weightOf_32 rfl ?_
        refine a_callS (as := [.int (nI ii)]) (rest := [.long ((nI n).toInt64), .double FP.dconst1, .double (f_wt x n ii)]) (st2 := [.int (nI (f_pop (nI ii).toInt64)), .long ((nI n).toInt64), .double FP.dconst1, .double (f_wt x n ii)]) (u1 := 0) (v1 := 0) (u2 := 0) (v2 := 0) (f_bitI (s := ii) (by omega)) oJ6_bitCount_0f7a4 q_489 q_490 rfl (by omega) (by decide) rfl (Nat.le_of_ble_eq_true rfl) 37 rfl dX3_weightOf_34 rfl ?_
        refine a_eq (st2 := [.int (nI (f_pop (nI ii).toInt64)), .long (lN n), .double FP.dconst1, .double (f_wt x n ii)]) rfl rfl (by rw [show (nI n).toInt64 = lN n from nI_l (by omega)]) rfl ?_
        refine a_callSN (as := [.long (lN n), .int (nI (f_pop (nI ii).toInt64))]) (rest := [.double FP.dconst1, .double (f_wt x n ii)]) (st2 := [.long (lN (f_ch n (f_pop (nI ii).toInt64))), .double FP.dconst1, .double (f_wt x n ii)]) (u1 := 0) (v1 := 0) (u2 := 0) (v2 := 0) (r_choices (t9 := n) (k9 := f_pop (nI ii).toInt64) (f_popn n (by omega) ii (by omega)) (by have := f_pop_le (nI ii).toInt64; omega) (by omega)) oX11_choices q_822 q_722 rfl (by omega) (by decide) rfl (Nat.le_of_ble_eq_true rfl) 40 rfl dX3_weightOf_37 rfl ?_
        refine a_l2d 41 rfl dX3_weightOf_40 ?_
        refine a_ddiv 42 rfl dX3_weightOf_41 (hu) ?_
        refine a_dadd 43 rfl dX3_weightOf_42 (hok) ?_
        refine a_dstore_n (lv' := [(3, .double (FP.dadd (f_wt x n ii) (FP.ddiv FP.dconst1 (FP.l2d (lN (f_ch n (f_pop (nI ii).toInt64))))))), (5, .int (nI ii)), (0, .ref (g_ad G a)), (1, .long x)]) 44 rfl dX3_weightOf_43 rfl (by decide) rfl ?_
        refine a_iinc (y := nI (ii + 1)) (lv' := [(5, .int (nI (ii + 1))), (3, .double (FP.dadd (f_wt x n ii) (FP.ddiv FP.dconst1 (FP.l2d (lN (f_ch n (f_pop (nI ii).toInt64))))))), (0, .ref (g_ad G a)), (1, .long x)]) 1 47 rfl dX3_weightOf_44 rfl (nI_1 ii) (by decide) rfl ?_
        refine a_goto 5 dX3_weightOf_47 (by decide) ?_
        refine a_eq (lv2 := [(5, .int (nI (ii + 1))), (3, .double (f_wt x n (ii + 1))), (0, .ref (g_ad G a)), (1, .long x)]) rfl (by rw [hw1]; rfl) rfl rfl ?_
        exact ih (ii + 1) (by omega)
  exact key (2 ^ n) 0 (by omega)
end WG1
