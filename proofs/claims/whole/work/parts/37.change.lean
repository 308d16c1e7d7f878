/-! The class's calls: acts, changes, the image -/
section CH1
variable {G : g_G} {C : f_C} {tl : List va_E} {x z9 : Int64} {y y2 y3 : Int32} {j o : Nat} {T : f_T}
theorem nI_inj9 {a b : Nat} (ha : a < 2 ^ 31) (hb : b < 2 ^ 31) (he : nI a = nI b) : a = b := by
  have e9 := congrArg Int32.toInt he
  rw [nI_toInt ha, nI_toInt hb] at e9
  omega
theorem r_X11_trace (hn : C.1 8 ≤ 24) (hj : j < C.1 8) : g_Run G mX11_trace 2 0 0 [.ref (g_ad G 0), .int (nI j)] (g_hp G C tl) (some (.int (C.2.2.2.1 3 j))) (g_hp G C tl) := by
  refine g_Run.of (lv := [(0, .ref (g_ad G 0)), (1, .int (nI j))]) (by decide) (Nat.le_of_ble_eq_true rfl) rfl ?_
  refine a_aload_n 0 1 rfl dX11_trace_0 rfl rfl ?_
  refine a_get 6 cl_10 f_RX11_45_10 (by decide) (rfl) rfl 4 rfl dX11_trace_1 ?_
  refine a_iload_n 1 5 rfl dX11_trace_4 rfl rfl ?_
  refine a_callVN (as := [.int (nI j)]) (rest := []) (st2 := [.int (C.2.2.2.1 3 j)]) (u1 := 0) (v1 := 0) (u2 := 0) (v2 := 0) (r_X0_begunAt_in (k9 := C.1 9) rfl rfl hn hj) (⟨_, _, _, _, rfl, rfl⟩) oX0_begunAt q_1030 q_1032 q_74 rfl (by omega) (by decide) rfl (Nat.le_of_ble_eq_true rfl) 8 rfl dX11_trace_5 rfl ?_
  exact a_ireturn .int rfl rfl (rfl) (rfl) dX11_trace_8
theorem r_X11_trace_out (hn : C.1 8 ≤ 24) (hi : ¬ vp_in y (C.1 8)) : g_Run G mX11_trace 2 0 0 [.ref (g_ad G 0), .int y] (g_hp G C tl) (some (.int (-2))) (g_hp G C tl) := by
  refine g_Run.of (lv := [(0, .ref (g_ad G 0)), (1, .int y)]) (by decide) (Nat.le_of_ble_eq_true rfl) rfl ?_
  refine a_aload_n 0 1 rfl dX11_trace_0 rfl rfl ?_
  refine a_get 6 cl_10 f_RX11_45_10 (by decide) (rfl) rfl 4 rfl dX11_trace_1 ?_
  refine a_iload_n 1 5 rfl dX11_trace_4 rfl rfl ?_
  refine a_callVN (as := [.int y]) (rest := []) (st2 := [.int ((-2))]) (u1 := 0) (v1 := 0) (u2 := 0) (v2 := 0) (r_X0_begunAt_out (m := C.1 8) rfl hn hi) (⟨_, _, _, _, rfl, rfl⟩) oX0_begunAt q_1030 q_1032 q_74 rfl (by omega) (by decide) rfl (Nat.le_of_ble_eq_true rfl) 8 rfl dX11_trace_5 rfl ?_
  exact a_ireturn .int rfl rfl (rfl) (rfl) dX11_trace_8
theorem r_X11_act_bad (hm : C.1 3 ≤ 8) (hi : ¬ vp_in y (C.1 3)) : g_Run G mX11_act 10 0 0 [.ref (g_ad G 0), .int y, .int y2, .int y3] (g_hp G C tl) (some (.int 0)) (g_hp G C tl) := by
  refine g_Run.of (lv := [(0, .ref (g_ad G 0)), (1, .int y), (2, .int y2), (3, .int y3)]) (by decide) (Nat.le_of_ble_eq_true rfl) rfl ?_
  refine a_aload_n 0 1 rfl dX11_act_0 rfl rfl ?_
  refine a_get 2 cl_10 f_RX11_28_10 (by decide) (rfl) rfl 4 rfl dX11_act_1 ?_
  refine a_iload_n 1 5 rfl dX11_act_4 rfl rfl ?_
  refine a_callVN (as := [.int y]) (rest := []) (st2 := [.null]) (u1 := 0) (v1 := 0) (u2 := 0) (v2 := 0) (r_at_out hm hi) (⟨_, _, _, _, rfl, rfl⟩) oX4_at q_446 q_448 q_9 rfl (by omega) (by decide) rfl (Nat.le_of_ble_eq_true rfl) 8 rfl dX11_act_5 rfl ?_
  refine a_astoreN (lv' := [(4, .null), (0, .ref (g_ad G 0)), (1, .int y), (2, .int y2), (3, .int y3)]) 10 rfl dX11_act_8 (by decide) rfl ?_
  refine a_aloadN 0 12 rfl dX11_act_10 rfl ?_
  refine a_ifnullN 24 dX11_act_12 (by decide) ?_
  refine a_iconst (x := 0) 25 rfl dX11_act_24 (by decide) ?_
  exact a_ireturn .int rfl rfl (rfl) (rfl) dX11_act_25
theorem r_X11_act_out (hf : f_is G C tl j o T) (hy : y2 < 0 ∨ ¬ y2 ≤ 2) : g_Run G mX11_act 10 0 0 [.ref (g_ad G 0), .int (nI j), .int y2, .int y3] (g_hp G C tl) (some (.int 0)) (g_hp G C tl) := by
  refine g_Run.of (lv := [(0, .ref (g_ad G 0)), (1, .int (nI j)), (2, .int y2), (3, .int y3)]) (by decide) (Nat.le_of_ble_eq_true rfl) rfl ?_
  refine a_aload_n 0 1 rfl dX11_act_0 rfl rfl ?_
  refine a_get 2 cl_10 f_RX11_28_10 (by decide) (rfl) rfl 4 rfl dX11_act_1 ?_
  refine a_iload_n 1 5 rfl dX11_act_4 rfl rfl ?_
  refine a_callVN (as := [.int (nI j)]) (rest := []) (st2 := [.ref (g_ad G (38 + o))]) (u1 := 0) (v1 := 0) (u2 := 0) (v2 := 0) (r_at_in hf) (⟨_, _, _, _, rfl, rfl⟩) oX4_at q_446 q_448 q_9 rfl (by omega) (by decide) rfl (Nat.le_of_ble_eq_true rfl) 8 rfl dX11_act_5 rfl ?_
  refine a_astore (lv' := [(4, .ref (g_ad G (38 + o))), (0, .ref (g_ad G 0)), (1, .int (nI j)), (2, .int y2), (3, .int y3)]) 10 rfl dX11_act_8 (by decide) rfl ?_
  refine a_aload 0 12 rfl dX11_act_10 rfl ?_
  refine a_ifnull 15 rfl dX11_act_12 ?_
  refine a_iload_n 3 16 rfl dX11_act_15 rfl rfl ?_
  refine a_if_lt 24 19 rfl dX11_act_16 (by decide) (fun c16 => ?_) (fun c16 => ?_)
  refine a_iconst (x := 0) 25 rfl dX11_act_24 (by decide) ?_
  exact a_ireturn .int rfl rfl (rfl) (rfl) dX11_act_25
  refine a_iload_n 3 20 rfl dX11_act_19 rfl rfl ?_
  refine a_iconst (x := 2) 21 rfl dX11_act_20 (by decide) ?_
  refine a_icmp_le 26 24 rfl dX11_act_21 (by decide) (fun hc => absurd hc ((hy.resolve_left c16))) (fun _ => ?_)
  refine a_iconst (x := 0) 25 rfl dX11_act_24 (by decide) ?_
  exact a_ireturn .int rfl rfl (rfl) (rfl) dX11_act_25
theorem r_X11_act {w9 : Nat} (hf : f_is G C tl j o T) (hw : w9 < 3) : ∃ f2, f_ext (C.2.2.2.1 3) f2 0 (l_act T.1 w9) ∧ g_Run G mX11_act 10 0 0 [.ref (g_ad G 0), .int (nI j), .int (nI w9), .int y3] (g_hp G C tl) (some (.int (f_act T.1 w9 y3 (nI j) (nI T.2.1)))) (g_hp G (f_ui (f_ui (f_un (f_un (f_uI C 3 f2) 8 (l_act T.1 w9).length) 9 T.1) 0 (nI j)) 1 (nI T.2.1)) tl) := by
  obtain ⟨f2, e2, w⟩ := r_X0_run (G := G) (h := g_hp G C tl) (a := 13) (ka := 14) (b := 38 + o) (m := C.1 8) (k8 := C.1 9) (nu2 := C.2.1 0) (fg2 := C.2.1 1) (f := C.2.2.2.1 3) (nu := nI j) (x := y3) (w9 := w9) rfl rfl (f_T_at hf.2.2.2.1) (by decide) hf.2.2.2.2.1 hw
  refine ⟨f2, e2, ?_⟩
  refine g_Run.of (lv := [(0, .ref (g_ad G 0)), (1, .int (nI j)), (2, .int (nI w9)), (3, .int y3)]) (by decide) (Nat.le_of_ble_eq_true rfl) rfl ?_
  refine a_aload_n 0 1 rfl dX11_act_0 rfl rfl ?_
  refine a_get 2 cl_10 f_RX11_28_10 (by decide) (rfl) rfl 4 rfl dX11_act_1 ?_
  refine a_iload_n 1 5 rfl dX11_act_4 rfl rfl ?_
  refine a_callVN (as := [.int (nI j)]) (rest := []) (st2 := [.ref (g_ad G (38 + o))]) (u1 := 0) (v1 := 0) (u2 := 0) (v2 := 0) (r_at_in hf) (⟨_, _, _, _, rfl, rfl⟩) oX4_at q_446 q_448 q_9 rfl (by omega) (by decide) rfl (Nat.le_of_ble_eq_true rfl) 8 rfl dX11_act_5 rfl ?_
  refine a_astore (lv' := [(4, .ref (g_ad G (38 + o))), (0, .ref (g_ad G 0)), (1, .int (nI j)), (2, .int (nI w9)), (3, .int y3)]) 10 rfl dX11_act_8 (by decide) rfl ?_
  refine a_aload 0 12 rfl dX11_act_10 rfl ?_
  refine a_ifnull 15 rfl dX11_act_12 ?_
  refine a_iload_n 3 16 rfl dX11_act_15 rfl rfl ?_
  refine a_if_lt 24 19 rfl dX11_act_16 (by decide) (fun hc => absurd hc (nI_pos (by omega))) (fun _ => ?_)
  refine a_iload_n 3 20 rfl dX11_act_19 rfl rfl ?_
  refine a_iconst (x := 2) 21 rfl dX11_act_20 (by decide) ?_
  refine a_icmp_le 26 24 rfl dX11_act_21 (by decide) (fun _ => ?_) (fun hc => absurd ((nI_le (b := 2) (by omega) (by omega))) hc)
  refine a_aload_n 1 27 rfl dX11_act_26 rfl rfl ?_
  refine a_get 6 cl_10 f_RX11_45_10 (by decide) (rfl) rfl 30 rfl dX11_act_27 ?_
  refine a_aload 0 32 rfl dX11_act_30 rfl ?_
  refine a_iload_n 2 33 rfl dX11_act_32 rfl rfl ?_
  refine a_iload_n 3 34 rfl dX11_act_33 rfl rfl ?_
  refine a_iload_n 4 35 rfl dX11_act_34 rfl rfl ?_
  refine a_callVN (as := [.ref (g_ad G (38 + o)), .int (nI j), .int (nI w9), .int y3]) (rest := []) (st2 := [.int (f_act T.1 w9 y3 (nI j) (nI T.2.1))]) (u1 := 0) (v1 := 0) (u2 := 0) (v2 := 0) (w) (⟨_, _, _, _, rfl, rfl⟩) oX0_run q_1006 q_1008 q_69 rfl (by omega) (by decide) rfl (Nat.le_of_ble_eq_true rfl) 38 rfl dX11_act_35 rfl ?_
  refine a_eq (h2 := g_hp G (f_ui (f_ui (f_un (f_un (f_uI C 3 f2) 8 ((l_act T.1 w9).length)) 9 T.1) 0 (nI j)) 1 (nI T.2.1)) tl) rfl rfl rfl (rfl) ?_
  exact a_ireturn .int rfl rfl (rfl) (rfl) dX11_act_38
theorem r_X11_taken_bad (hm : C.1 3 ≤ 8) (hi : ¬ vp_in y (C.1 3)) : g_Run G mX11_taken 3 0 0 [.ref (g_ad G 0), .int y, .int y2] (g_hp G C tl) (some (.int (-1))) (g_hp G C tl) := by
  refine g_Run.of (lv := [(0, .ref (g_ad G 0)), (1, .int y), (2, .int y2)]) (by decide) (Nat.le_of_ble_eq_true rfl) rfl ?_
  refine a_aload_n 0 1 rfl dX11_taken_0 rfl rfl ?_
  refine a_get 2 cl_10 f_RX11_28_10 (by decide) (rfl) rfl 4 rfl dX11_taken_1 ?_
  refine a_iload_n 1 5 rfl dX11_taken_4 rfl rfl ?_
  refine a_callVN (as := [.int y]) (rest := []) (st2 := [.null]) (u1 := 0) (v1 := 0) (u2 := 0) (v2 := 0) (r_at_out hm hi) (⟨_, _, _, _, rfl, rfl⟩) oX4_at q_446 q_448 q_9 rfl (by omega) (by decide) rfl (Nat.le_of_ble_eq_true rfl) 8 rfl dX11_taken_5 rfl ?_
  refine a_astore_nN (lv' := [(3, .null), (0, .ref (g_ad G 0)), (1, .int y), (2, .int y2)]) 9 rfl dX11_taken_8 rfl (by decide) rfl ?_
  refine a_aload_nN 0 10 rfl dX11_taken_9 rfl rfl ?_
  refine a_ifnullN 23 dX11_taken_10 (by decide) ?_
  refine a_iconst (x := (-1)) 24 rfl dX11_taken_23 (by decide) ?_
  exact a_ireturn .int rfl rfl (rfl) (rfl) dX11_taken_24
theorem r_X11_taken_out (hf : f_is G C tl j o T) (hy : y2 < 0 ∨ ¬ y2 < 6) : g_Run G mX11_taken 3 0 0 [.ref (g_ad G 0), .int (nI j), .int y2] (g_hp G C tl) (some (.int (-1))) (g_hp G C tl) := by
  refine g_Run.of (lv := [(0, .ref (g_ad G 0)), (1, .int (nI j)), (2, .int y2)]) (by decide) (Nat.le_of_ble_eq_true rfl) rfl ?_
  refine a_aload_n 0 1 rfl dX11_taken_0 rfl rfl ?_
  refine a_get 2 cl_10 f_RX11_28_10 (by decide) (rfl) rfl 4 rfl dX11_taken_1 ?_
  refine a_iload_n 1 5 rfl dX11_taken_4 rfl rfl ?_
  refine a_callVN (as := [.int (nI j)]) (rest := []) (st2 := [.ref (g_ad G (38 + o))]) (u1 := 0) (v1 := 0) (u2 := 0) (v2 := 0) (r_at_in hf) (⟨_, _, _, _, rfl, rfl⟩) oX4_at q_446 q_448 q_9 rfl (by omega) (by decide) rfl (Nat.le_of_ble_eq_true rfl) 8 rfl dX11_taken_5 rfl ?_
  refine a_astore_n (lv' := [(3, .ref (g_ad G (38 + o))), (0, .ref (g_ad G 0)), (1, .int (nI j)), (2, .int y2)]) 9 rfl dX11_taken_8 rfl (by decide) rfl ?_
  refine a_aload_n 0 10 rfl dX11_taken_9 rfl rfl ?_
  refine a_ifnull 13 rfl dX11_taken_10 ?_
  refine a_iload_n 3 14 rfl dX11_taken_13 rfl rfl ?_
  refine a_if_lt 23 17 rfl dX11_taken_14 (by decide) (fun c14 => ?_) (fun c14 => ?_)
  refine a_iconst (x := (-1)) 24 rfl dX11_taken_23 (by decide) ?_
  exact a_ireturn .int rfl rfl (rfl) (rfl) dX11_taken_24
  refine a_iload_n 3 18 rfl dX11_taken_17 rfl rfl ?_
  refine a_bipush (x := 6) 20 rfl dX11_taken_18 (by decide) ?_
  refine a_icmp_lt 25 23 rfl dX11_taken_20 (by decide) (fun hc => absurd hc ((hy.resolve_left c14))) (fun _ => ?_)
  refine a_iconst (x := (-1)) 24 rfl dX11_taken_23 (by decide) ?_
  exact a_ireturn .int rfl rfl (rfl) (rfl) dX11_taken_24
theorem r_X11_taken {k9 : Nat} (hf : f_is G C tl j o T) (hk : k9 < 6) : g_Run G mX11_taken 3 0 0 [.ref (g_ad G 0), .int (nI j), .int (nI k9)] (g_hp G C tl) (some (.int (if f_under T.1 k9 then (if k9 = 3 ∨ k9 = 4 then nI T.2.1 else nI j) else -5))) (g_hp G C tl) := by
  refine g_Run.of (lv := [(0, .ref (g_ad G 0)), (1, .int (nI j)), (2, .int (nI k9))]) (by decide) (Nat.le_of_ble_eq_true rfl) rfl ?_
  refine a_aload_n 0 1 rfl dX11_taken_0 rfl rfl ?_
  refine a_get 2 cl_10 f_RX11_28_10 (by decide) (rfl) rfl 4 rfl dX11_taken_1 ?_
  refine a_iload_n 1 5 rfl dX11_taken_4 rfl rfl ?_
  refine a_callVN (as := [.int (nI j)]) (rest := []) (st2 := [.ref (g_ad G (38 + o))]) (u1 := 0) (v1 := 0) (u2 := 0) (v2 := 0) (r_at_in hf) (⟨_, _, _, _, rfl, rfl⟩) oX4_at q_446 q_448 q_9 rfl (by omega) (by decide) rfl (Nat.le_of_ble_eq_true rfl) 8 rfl dX11_taken_5 rfl ?_
  refine a_astore_n (lv' := [(3, .ref (g_ad G (38 + o))), (0, .ref (g_ad G 0)), (1, .int (nI j)), (2, .int (nI k9))]) 9 rfl dX11_taken_8 rfl (by decide) rfl ?_
  refine a_aload_n 0 10 rfl dX11_taken_9 rfl rfl ?_
  refine a_ifnull 13 rfl dX11_taken_10 ?_
  refine a_iload_n 3 14 rfl dX11_taken_13 rfl rfl ?_
  refine a_if_lt 23 17 rfl dX11_taken_14 (by decide) (fun hc => absurd hc (nI_pos (by omega))) (fun _ => ?_)
  refine a_iload_n 3 18 rfl dX11_taken_17 rfl rfl ?_
  refine a_bipush (x := 6) 20 rfl dX11_taken_18 (by decide) ?_
  refine a_icmp_lt 25 23 rfl dX11_taken_20 (by decide) (fun _ => ?_) (fun hc => absurd (nI_lt (b := 6) hk (by omega)) hc)
  refine a_aload_n 0 26 rfl dX11_taken_25 rfl rfl ?_
  refine a_iload_n 3 27 rfl dX11_taken_26 rfl rfl ?_
  refine a_callVN (as := [.int (nI k9)]) (rest := []) (st2 := [.int (if f_under T.1 k9 then 1 else 0)]) (u1 := 0) (v1 := 0) (u2 := 0) (v2 := 0) (r_X5_isUnder (f_T_at hf.2.2.2.1) hf.2.2.2.2.1 hk) (⟨_, _, _, _, f_T_at hf.2.2.2.1, rfl⟩) oX5_isUnder q_1038 q_942 q_61 rfl (by omega) (by decide) rfl (Nat.le_of_ble_eq_true rfl) 30 rfl dX11_taken_27 rfl ?_
  by_cases hu : f_under T.1 k9
  · skip
    refine a_if_ne 36 33 rfl dX11_taken_30 (by decide) (fun _ => ?_) (fun hc => absurd hc ((by rw [if_pos hu]; decide)))
    refine a_iload_n 3 37 rfl dX11_taken_36 rfl rfl ?_
    refine a_iconst (x := 3) 38 rfl dX11_taken_37 (by decide) ?_
    by_cases h3 : k9 = 3
    · skip
      refine a_icmp_eq 46 41 rfl dX11_taken_38 (by decide) (fun _ => ?_) (fun hc => absurd ((by rw [h3]; rfl)) hc)
      refine a_aload_n 0 47 rfl dX11_taken_46 rfl rfl ?_
      refine a_get 1 cl_5 f_RX11_120_5 (by decide) (f_T_at hf.2.2.2.1) rfl 50 rfl dX11_taken_47 ?_
      refine a_goto 54 dX11_taken_50 (by decide) ?_
      exact a_ireturn .int rfl rfl ((by rw [if_pos hu, if_pos (Or.inl h3)])) (rfl) dX11_taken_54
    · skip
      refine a_icmp_eq 46 41 rfl dX11_taken_38 (by decide) (fun hc => absurd hc ((fun z => h3 (nI_inj9 (by omega) (by omega) z)))) (fun _ => ?_)
      refine a_iload_n 3 42 rfl dX11_taken_41 rfl rfl ?_
      refine a_iconst (x := 4) 43 rfl dX11_taken_42 (by decide) ?_
      by_cases h4 : k9 = 4
      · skip
        refine a_icmp_ne 53 46 rfl dX11_taken_43 (by decide) (fun hc => absurd ((by rw [h4]; rfl)) hc) (fun _ => ?_)
        refine a_aload_n 0 47 rfl dX11_taken_46 rfl rfl ?_
        refine a_get 1 cl_5 f_RX11_120_5 (by decide) (f_T_at hf.2.2.2.1) rfl 50 rfl dX11_taken_47 ?_
        refine a_goto 54 dX11_taken_50 (by decide) ?_
        exact a_ireturn .int rfl rfl ((by rw [if_pos hu, if_pos (Or.inr h4)])) (rfl) dX11_taken_54
      · skip
        refine a_icmp_ne 53 46 rfl dX11_taken_43 (by decide) (fun _ => ?_) (fun hc => absurd hc ((fun z => h4 (nI_inj9 (by omega) (by omega) z))))
        refine a_iload_n 2 54 rfl dX11_taken_53 rfl rfl ?_
        exact a_ireturn .int rfl rfl ((by rw [if_pos hu, if_neg (fun z => z.elim h3 h4)])) (rfl) dX11_taken_54
  · skip
    refine a_if_ne 36 33 rfl dX11_taken_30 (by decide) (fun hc => absurd ((by rw [if_neg hu])) hc) (fun _ => ?_)
    refine a_bipush (x := (-5)) 35 rfl dX11_taken_33 (by decide) ?_
    exact a_ireturn .int rfl rfl ((by rw [if_neg hu])) (rfl) dX11_taken_35
/-- a family behind the class's cells, or none -/
def f_fo (G : g_G) (tl : List va_E) (r : Option Nat) : Prop := r = none ∨ ∃ T, f_fam G tl r T
theorem f_fo.push {r : Option Nat} {c : va_E} (hf : f_fo G tl r) : f_fo G (tl ++ [c]) r := hf.imp id (fun ⟨T, e⟩ => ⟨T, e.push⟩)
theorem f_fo.fam {r : Option Nat} (hf : f_fo G tl r) : g_fam G (g_hp G C tl) r := by
  intro x9 hx
  rcases hf with e | ⟨T, o9, e1, e2⟩
  · rw [e] at hx; cases hx
  · rw [e1] at hx; cases hx; exact ⟨38 + o9, _, rfl, f_T_at e2⟩
/-- all that the changes hold are families -/
def f_wx (G : g_G) (C : f_C) (tl : List va_E) : Prop := ∀ j, j < 12 → f_fo G tl (C.2.2.2.2.2 1 j) ∧ f_fo G tl (C.2.2.2.2.2 2 j)
theorem r_chg (hw : f_wx G C tl) : g_chg G (g_hp G C tl) 7 8 9 10 (C.1 4) (C.1 5) (C.2.2.2.1 2) (C.2.2.2.2.2 1) (C.2.2.2.2.2 2) := ⟨rfl, rfl, rfl, rfl, by decide, fun j hj => ⟨(hw j hj).1.fam, (hw j hj).2.fam⟩⟩
def f_xC (C : f_C) (dn hd : Nat) (fI : Nat → Int32) (fB fA : Nat → Option Nat) : f_C := f_uR (f_uR (f_uI (f_un (f_un C 4 dn) 5 hd) 2 fI) 1 fB) 2 fA
theorem f_xC_eq {h1 : List va_E} {dn hd : Nat} {fI : Nat → Int32} {fB fA : Nat → Option Nat} (hk : g_kp [7, 8, 9, 10] (g_hp G C tl) h1) (hc : g_chg G h1 7 8 9 10 dn hd fI fB fA) : h1 = g_hp G (f_xC C dn hd fI fB fA) tl := by
  refine hk.eq (by rw [g_hp_len, g_hp_len]) (fun k hk9 => ?_) (fun k hk9 => ?_)
  · simp only [List.mem_cons, List.not_mem_nil, or_false] at hk9
    rcases hk9 with rfl | rfl | rfl | rfl
    · rw [hc.1]; rfl
    · rw [hc.2.1]; rfl
    · rw [hc.2.2.1]; rfl
    · rw [hc.2.2.2.1]; rfl
  · have e9 : g_hp G (f_xC C dn hd fI fB fA) tl = ((((g_hp G C tl).set 7 (c_O 2 [.ref (g_ad G 8), .ref (g_ad G 9), .ref (g_ad G 10), .int (nI dn), .int (nI hd)])).set 8 (c_I G 12 fI)).set 9 (c_Q G 3 12 fB)).set 10 (c_Q G 3 12 fA) := rfl
    simp only [List.mem_cons, List.not_mem_nil, or_false, not_or] at hk9
    rw [e9, List.getElem?_set_ne (by omega), List.getElem?_set_ne (by omega), List.getElem?_set_ne (by omega), List.getElem?_set_ne (by omega)]
theorem r_X11_undo0 (hw : f_wx G C tl) (hd : C.1 4 = 0) : g_Run G mX11_undo 3 0 0 [.ref (g_ad G 0)] (g_hp G C tl) (some (.int (-5))) (g_hp G C tl) := by
  have hX := r_chg hw
  rw [hd] at hX
  refine g_Run.of (lv := [(0, .ref (g_ad G 0))]) (by decide) (Nat.le_of_ble_eq_true rfl) rfl ?_
  refine a_aload_n 0 1 rfl dX11_undo_0 rfl rfl ?_
  refine a_get 3 cl_10 f_RX11_35_10 (by decide) (rfl) rfl 4 rfl dX11_undo_1 ?_
  refine a_aload_n 0 5 rfl dX11_undo_4 rfl rfl ?_
  refine a_get 2 cl_10 f_RX11_28_10 (by decide) (rfl) rfl 8 rfl dX11_undo_5 ?_
  refine a_callVN (as := [.ref (g_ad G 5)]) (rest := []) (st2 := [.int 0]) (u1 := 0) (v1 := 0) (u2 := 0) (v2 := 0) (r_X2_stepBack0 hX) (⟨_, _, _, _, rfl, rfl⟩) oX2_stepBack q_1043 q_1045 q_75 rfl (by omega) (by decide) rfl (Nat.le_of_ble_eq_true rfl) 11 rfl dX11_undo_8 rfl ?_
  refine a_if_eq 24 14 rfl dX11_undo_11 (by decide) (fun _ => ?_) (fun hc => absurd (rfl) hc)
  refine a_bipush (x := (-5)) 26 rfl dX11_undo_24 (by decide) ?_
  exact a_ireturn .int rfl rfl (rfl) (rfl) dX11_undo_26
theorem r_X11_undo {dn j9 o9 : Nat} {T : f_T} (hw : f_wx G C tl) (hd : C.1 4 = dn + 1) (hd9 : dn < 12) (hI : C.2.2.2.1 2 dn = nI j9) (hB : C.2.2.2.2.2 1 dn = some (g_ad G (38 + o9))) (ht : tl[o9]? = some (c_Fa T)) (hm : C.1 3 ≤ 8) (hj : j9 < C.1 3) : g_Run G mX11_undo 3 0 0 [.ref (g_ad G 0)] (g_hp G C tl) (some (.int (nI dn))) (g_hp G (f_uR (f_un C 4 dn) 0 (va_up (C.2.2.2.2.2 0) j9 (some (g_ad G (38 + o9))))) tl) := by
  have hX := r_chg hw
  rw [hd] at hX
  have w := r_X2_stepBack (b := 5) (kr := 6) hX hd9 hI hB (f_T_at ht) rfl rfl hm hj
  refine g_Run.of (lv := [(0, .ref (g_ad G 0))]) (by decide) (Nat.le_of_ble_eq_true rfl) rfl ?_
  refine a_aload_n 0 1 rfl dX11_undo_0 rfl rfl ?_
  refine a_get 3 cl_10 f_RX11_35_10 (by decide) (rfl) rfl 4 rfl dX11_undo_1 ?_
  refine a_aload_n 0 5 rfl dX11_undo_4 rfl rfl ?_
  refine a_get 2 cl_10 f_RX11_28_10 (by decide) (rfl) rfl 8 rfl dX11_undo_5 ?_
  refine a_callVN (as := [.ref (g_ad G 5)]) (rest := []) (st2 := [.int 1]) (u1 := 0) (v1 := 0) (u2 := 0) (v2 := 0) (w) (⟨_, _, _, _, rfl, rfl⟩) oX2_stepBack q_1043 q_1045 q_75 rfl (by omega) (by decide) rfl (Nat.le_of_ble_eq_true rfl) 11 rfl dX11_undo_8 rfl ?_
  refine a_eq (h2 := g_hp G (f_uR (f_un C 4 dn) 0 (va_up (C.2.2.2.2.2 0) j9 (some (g_ad G (38 + o9))))) tl) rfl rfl rfl (rfl) ?_
  refine a_if_eq 24 14 rfl dX11_undo_11 (by decide) (fun hc => absurd hc ((by decide))) (fun _ => ?_)
  refine a_aload_n 0 15 rfl dX11_undo_14 rfl rfl ?_
  refine a_get 3 cl_10 f_RX11_35_10 (by decide) (rfl) rfl 18 rfl dX11_undo_15 ?_
  refine a_callVN (as := []) (rest := []) (st2 := [.int (nI dn)]) (u1 := 0) (v1 := 0) (u2 := 0) (v2 := 0) (r_X2_undoable rfl) (⟨_, _, _, _, rfl, rfl⟩) oX2_undoable q_1048 q_1050 q_76 rfl (by omega) (by decide) rfl (Nat.le_of_ble_eq_true rfl) 21 rfl dX11_undo_18 rfl ?_
  refine a_goto 26 dX11_undo_21 (by decide) ?_
  exact a_ireturn .int rfl rfl (rfl) (rfl) dX11_undo_26
theorem r_X11_redo0 (hw : f_wx G C tl) (hd : C.1 4 = C.1 5) (hd9 : C.1 5 ≤ 12) : g_Run G mX11_redo 3 0 0 [.ref (g_ad G 0)] (g_hp G C tl) (some (.int (-5))) (g_hp G C tl) := by
  have hX := r_chg hw
  rw [hd] at hX
  refine g_Run.of (lv := [(0, .ref (g_ad G 0))]) (by decide) (Nat.le_of_ble_eq_true rfl) rfl ?_
  refine a_aload_n 0 1 rfl dX11_redo_0 rfl rfl ?_
  refine a_get 3 cl_10 f_RX11_35_10 (by decide) (rfl) rfl 4 rfl dX11_redo_1 ?_
  refine a_aload_n 0 5 rfl dX11_redo_4 rfl rfl ?_
  refine a_get 2 cl_10 f_RX11_28_10 (by decide) (rfl) rfl 8 rfl dX11_redo_5 ?_
  refine a_callVN (as := [.ref (g_ad G 5)]) (rest := []) (st2 := [.int 0]) (u1 := 0) (v1 := 0) (u2 := 0) (v2 := 0) (r_X2_stepOn0 hX hd9) (⟨_, _, _, _, rfl, rfl⟩) oX2_stepOn q_1056 q_1058 q_77 rfl (by omega) (by decide) rfl (Nat.le_of_ble_eq_true rfl) 11 rfl dX11_redo_8 rfl ?_
  refine a_if_eq 24 14 rfl dX11_redo_11 (by decide) (fun _ => ?_) (fun hc => absurd (rfl) hc)
  refine a_bipush (x := (-5)) 26 rfl dX11_redo_24 (by decide) ?_
  exact a_ireturn .int rfl rfl (rfl) (rfl) dX11_redo_26
theorem r_X11_redo {j9 o9 : Nat} {T : f_T} (hw : f_wx G C tl) (hd : C.1 4 < C.1 5) (hd9 : C.1 5 ≤ 12) (hI : C.2.2.2.1 2 (C.1 4) = nI j9) (hB : C.2.2.2.2.2 2 (C.1 4) = some (g_ad G (38 + o9))) (ht : tl[o9]? = some (c_Fa T)) (hm : C.1 3 ≤ 8) (hj : j9 < C.1 3) : g_Run G mX11_redo 3 0 0 [.ref (g_ad G 0)] (g_hp G C tl) (some (.int (nI (C.1 5 - (C.1 4 + 1))))) (g_hp G (f_un (f_uR C 0 (va_up (C.2.2.2.2.2 0) j9 (some (g_ad G (38 + o9))))) 4 (C.1 4 + 1)) tl) := by
  have hX := r_chg hw
  have w := r_X2_stepOn (b := 5) (kr := 6) hX hd hd9 hI hB (f_T_at ht) rfl rfl hm hj
  refine g_Run.of (lv := [(0, .ref (g_ad G 0))]) (by decide) (Nat.le_of_ble_eq_true rfl) rfl ?_
  refine a_aload_n 0 1 rfl dX11_redo_0 rfl rfl ?_
  refine a_get 3 cl_10 f_RX11_35_10 (by decide) (rfl) rfl 4 rfl dX11_redo_1 ?_
  refine a_aload_n 0 5 rfl dX11_redo_4 rfl rfl ?_
  refine a_get 2 cl_10 f_RX11_28_10 (by decide) (rfl) rfl 8 rfl dX11_redo_5 ?_
  refine a_callVN (as := [.ref (g_ad G 5)]) (rest := []) (st2 := [.int 1]) (u1 := 0) (v1 := 0) (u2 := 0) (v2 := 0) (w) (⟨_, _, _, _, rfl, rfl⟩) oX2_stepOn q_1056 q_1058 q_77 rfl (by omega) (by decide) rfl (Nat.le_of_ble_eq_true rfl) 11 rfl dX11_redo_8 rfl ?_
  refine a_eq (h2 := g_hp G (f_un (f_uR C 0 (va_up (C.2.2.2.2.2 0) j9 (some (g_ad G (38 + o9))))) 4 (C.1 4 + 1)) tl) rfl rfl rfl (rfl) ?_
  refine a_if_eq 24 14 rfl dX11_redo_11 (by decide) (fun hc => absurd hc ((by decide))) (fun _ => ?_)
  refine a_aload_n 0 15 rfl dX11_redo_14 rfl rfl ?_
  refine a_get 3 cl_10 f_RX11_35_10 (by decide) (rfl) rfl 18 rfl dX11_redo_15 ?_
  refine a_callVN (as := []) (rest := []) (st2 := [.int (nI (C.1 5) - nI (C.1 4 + 1))]) (u1 := 0) (v1 := 0) (u2 := 0) (v2 := 0) (r_X2_redoable rfl) (⟨_, _, _, _, rfl, rfl⟩) oX2_redoable q_1060 q_1062 q_78 rfl (by omega) (by decide) rfl (Nat.le_of_ble_eq_true rfl) 21 rfl dX11_redo_18 rfl ?_
  refine a_goto 26 dX11_redo_21 (by decide) ?_
  exact a_ireturn .int rfl rfl ((by rw [pk_sub (by omega)])) (rfl) dX11_redo_26
theorem r_X11_image (hr : ∀ j, j < 8 → f_fo G tl (C.2.2.2.2.2 0 j)) : ∃ f2 : Nat → Option Nat, (∀ j, j < 8 → f2 j = C.2.2.2.2.2 0 j) ∧ g_Run G mX11_image 2 0 0 [.ref (g_ad G 0)] (g_hp G C tl) (some (.int (nI (C.1 3)))) (g_hp G (f_un (f_un (f_uR C 3 f2) 6 (C.1 3)) 7 (C.1 0)) tl) := by
  obtain ⟨f2, e2, w⟩ := r_X4_becomeLike (G := G) (h := g_hp G C tl) (a := 11) (ka := 12) (b := 5) (kb := 6) rfl rfl rfl rfl (fun j hj => (hr j hj).fam) (by decide) (by decide) (by decide) (by decide) (fun fs z => by have z9 : (some (c_Q G 3 8 (C.2.2.2.2.2 3)) : Option va_E) = some (c_O 5 fs) := z; cases z9)
  refine ⟨f2, e2, ?_⟩
  refine g_Run.of (lv := [(0, .ref (g_ad G 0))]) (by decide) (Nat.le_of_ble_eq_true rfl) rfl ?_
  refine a_aload_n 0 1 rfl dX11_image_0 rfl rfl ?_
  refine a_get 4 cl_10 f_RX11_39_10 (by decide) (rfl) rfl 4 rfl dX11_image_1 ?_
  refine a_aload_n 0 5 rfl dX11_image_4 rfl rfl ?_
  refine a_get 2 cl_10 f_RX11_28_10 (by decide) (rfl) rfl 8 rfl dX11_image_5 ?_
  refine a_callVN (as := [.ref (g_ad G 5)]) (rest := []) (st2 := []) (u1 := 0) (v1 := 0) (u2 := 0) (v2 := 0) (w) (⟨_, _, _, _, rfl, rfl⟩) oX4_becomeLike q_1068 q_1070 q_79 rfl (by omega) (by decide) rfl (Nat.le_of_ble_eq_true rfl) 11 rfl dX11_image_8 rfl ?_
  refine a_eq (h2 := g_hp G (f_un (f_uR C 3 f2) 6 (C.1 3)) tl) rfl rfl rfl (rfl) ?_
  refine a_aload_n 0 12 rfl dX11_image_11 rfl rfl ?_
  refine a_aload_n 0 13 rfl dX11_image_12 rfl rfl ?_
  refine a_get 0 cl_10 f_RX11_12_10 (by decide) (rfl) rfl 16 rfl dX11_image_13 ?_
  refine a_callVN (as := []) (rest := [.ref (g_ad G 0)]) (st2 := [.int (nI (C.1 0)), .ref (g_ad G 0)]) (u1 := 0) (v1 := 0) (u2 := 0) (v2 := 0) (r_X3_elements rfl) (⟨_, _, _, _, rfl, rfl⟩) oX3_elements q_352 q_354 q_0 rfl (by omega) (by decide) rfl (Nat.le_of_ble_eq_true rfl) 19 rfl dX11_image_16 rfl ?_
  refine a_put (fs' := [.ref (g_ad G 1), .ref (g_ad G 3), .ref (g_ad G 5), .ref (g_ad G 7), .ref (g_ad G 11), .int (nI (C.1 0)), .ref (g_ad G 13), .ref (g_ad G 15), .ref (g_ad G 17), .ref (g_ad G 19), .ref (g_ad G 21), .ref (g_ad G 22)]) 5 cl_10 f_RX11_367_10 (by decide) (rfl) rfl rfl rfl (Nat.le_of_ble_eq_true rfl) rfl 22 rfl dX11_image_19 ?_
  refine a_eq (h2 := g_hp G (f_un (f_un (f_uR C 3 f2) 6 (C.1 3)) 7 (C.1 0)) tl) rfl rfl rfl (rfl) ?_
  refine a_aload_n 0 23 rfl dX11_image_22 rfl rfl ?_
  refine a_get 2 cl_10 f_RX11_28_10 (by decide) (rfl) rfl 26 rfl dX11_image_23 ?_
  refine a_callVN (as := []) (rest := []) (st2 := [.int (nI (C.1 3))]) (u1 := 0) (v1 := 0) (u2 := 0) (v2 := 0) (r_X4_many rfl) (⟨_, _, _, _, rfl, rfl⟩) oX4_many q_438 q_440 q_8 rfl (by omega) (by decide) rfl (Nat.le_of_ble_eq_true rfl) 29 rfl dX11_image_26 rfl ?_
  exact a_ireturn .int rfl rfl (rfl) (rfl) dX11_image_29
theorem r_X11_back (hr : ∀ j, j < 8 → f_fo G tl (C.2.2.2.2.2 3 j)) (h0 : 0 < C.1 7) (h6 : C.1 7 ≤ 6) : ∃ f2 : Nat → Option Nat, (∀ j, j < 8 → f2 j = C.2.2.2.2.2 3 j) ∧ g_Run G mX11_back 2 0 0 [.ref (g_ad G 0)] (g_hp G C tl) (some (.int (nI (C.1 6)))) (g_hp G (f_un (f_un (f_un (f_uR (f_un C 0 (C.1 7)) 0 f2) 3 (C.1 6)) 4 0) 5 0) tl) := by
  obtain ⟨f2, e2, w⟩ := r_X4_becomeLike (G := G) (h := g_hp G (f_un C 0 (C.1 7)) tl) (a := 5) (ka := 6) (b := 11) (kb := 12) rfl rfl rfl rfl (fun j hj => (hr j hj).fam) (by decide) (by decide) (by decide) (by decide) (fun fs z => by have z9 : (some (c_Q G 3 8 (C.2.2.2.2.2 0)) : Option va_E) = some (c_O 5 fs) := z; cases z9)
  refine ⟨f2, e2, ?_⟩
  refine g_Run.of (lv := [(0, .ref (g_ad G 0))]) (by decide) (Nat.le_of_ble_eq_true rfl) rfl ?_
  refine a_aload_n 0 1 rfl dX11_back_0 rfl rfl ?_
  refine a_get 5 cl_10 f_RX11_367_10 (by decide) (rfl) rfl 4 rfl dX11_back_1 ?_
  refine a_if_ne 10 7 rfl dX11_back_4 (by decide) (fun _ => ?_) (fun hc => absurd hc ((fun z => absurd (nI_inj9 (b := 0) (by omega) (by omega) z) (by omega))))
  refine a_aload_n 0 11 rfl dX11_back_10 rfl rfl ?_
  refine a_get 0 cl_10 f_RX11_12_10 (by decide) (rfl) rfl 14 rfl dX11_back_11 ?_
  refine a_aload_n 0 15 rfl dX11_back_14 rfl rfl ?_
  refine a_get 5 cl_10 f_RX11_367_10 (by decide) (rfl) rfl 18 rfl dX11_back_15 ?_
  refine a_callVN (as := [.int (nI (C.1 7))]) (rest := []) (st2 := []) (u1 := 0) (v1 := 0) (u2 := 0) (v2 := 0) (r_X3_reshape (n := C.1 0) rfl) (⟨_, _, _, _, rfl, rfl⟩) oX3_reshape q_356 q_358 q_1 rfl (by omega) (by decide) rfl (Nat.le_of_ble_eq_true rfl) 21 rfl dX11_back_18 rfl ?_
  refine a_eq (h2 := g_hp G (f_un C 0 (C.1 7)) tl) rfl rfl rfl (rfl) ?_
  refine a_aload_n 0 22 rfl dX11_back_21 rfl rfl ?_
  refine a_get 2 cl_10 f_RX11_28_10 (by decide) (rfl) rfl 25 rfl dX11_back_22 ?_
  refine a_aload_n 0 26 rfl dX11_back_25 rfl rfl ?_
  refine a_get 4 cl_10 f_RX11_39_10 (by decide) (rfl) rfl 29 rfl dX11_back_26 ?_
  refine a_callVN (as := [.ref (g_ad G 11)]) (rest := []) (st2 := []) (u1 := 0) (v1 := 0) (u2 := 0) (v2 := 0) (w) (⟨_, _, _, _, rfl, rfl⟩) oX4_becomeLike q_1068 q_1070 q_79 rfl (by omega) (by decide) rfl (Nat.le_of_ble_eq_true rfl) 32 rfl dX11_back_29 rfl ?_
  refine a_eq (h2 := g_hp G (f_un (f_uR (f_un C 0 (C.1 7)) 0 f2) 3 (C.1 6)) tl) rfl rfl rfl (rfl) ?_
  refine a_aload_n 0 33 rfl dX11_back_32 rfl rfl ?_
  refine a_get 3 cl_10 f_RX11_35_10 (by decide) (rfl) rfl 36 rfl dX11_back_33 ?_
  refine a_callVN (as := []) (rest := []) (st2 := []) (u1 := 0) (v1 := 0) (u2 := 0) (v2 := 0) (r_X2_forget rfl) (⟨_, _, _, _, rfl, rfl⟩) oX2_forget q_364 q_366 q_3 rfl (by omega) (by decide) rfl (Nat.le_of_ble_eq_true rfl) 39 rfl dX11_back_36 rfl ?_
  refine a_eq (h2 := g_hp G (f_un (f_un (f_un (f_uR (f_un C 0 (C.1 7)) 0 f2) 3 (C.1 6)) 4 0) 5 0) tl) rfl rfl rfl (rfl) ?_
  refine a_aload_n 0 40 rfl dX11_back_39 rfl rfl ?_
  refine a_get 2 cl_10 f_RX11_28_10 (by decide) (rfl) rfl 43 rfl dX11_back_40 ?_
  refine a_callVN (as := []) (rest := []) (st2 := [.int (nI (C.1 6))]) (u1 := 0) (v1 := 0) (u2 := 0) (v2 := 0) (r_X4_many rfl) (⟨_, _, _, _, rfl, rfl⟩) oX4_many q_438 q_440 q_8 rfl (by omega) (by decide) rfl (Nat.le_of_ble_eq_true rfl) 46 rfl dX11_back_43 rfl ?_
  exact a_ireturn .int rfl rfl (rfl) (rfl) dX11_back_46
theorem r_X11_back_none (h0 : C.1 7 = 0) : g_Run G mX11_back 4 0 0 [.ref (g_ad G 0)] (g_hp G C tl) (some (.int (-5))) (g_hp G C tl) := by
  refine g_Run.of (lv := [(0, .ref (g_ad G 0))]) (by decide) (Nat.le_of_ble_eq_true rfl) rfl ?_
  refine a_aload_n 0 1 rfl dX11_back_0 rfl rfl ?_
  refine a_get 5 cl_10 f_RX11_367_10 (by decide) (rfl) rfl 4 rfl dX11_back_1 ?_
  refine a_if_ne 10 7 rfl dX11_back_4 (by decide) (fun hc => absurd ((by rw [h0]; rfl)) hc) (fun _ => ?_)
  refine a_bipush (x := (-5)) 9 rfl dX11_back_7 (by decide) ?_
  exact a_ireturn .int rfl rfl (rfl) (rfl) dX11_back_9

theorem r_X11_alike_none (h0 : C.1 7 = 0) : g_Run G mX11_alike 4 0 0 [.ref (g_ad G 0)] (g_hp G C tl) (some (.int (-5))) (g_hp G C tl) := by
  refine g_Run.of (lv := [(0, .ref (g_ad G 0))]) (by decide) (Nat.le_of_ble_eq_true rfl) rfl ?_
  refine a_aload_n 0 1 rfl dX11_alike_0 rfl rfl ?_
  refine a_get 5 cl_10 f_RX11_367_10 (by decide) (rfl) rfl 4 rfl dX11_alike_1 ?_
  refine a_if_ne 10 7 rfl dX11_alike_4 (by decide) (fun hc => absurd ((by rw [h0]; rfl)) hc) (fun _ => ?_)
  refine a_bipush (x := (-5)) 9 rfl dX11_alike_7 (by decide) ?_
  exact a_ireturn .int rfl rfl (rfl) (rfl) dX11_alike_9

theorem r_X11_alike_n (h0 : 0 < C.1 7) (h6 : C.1 7 ≤ 6) (hn : C.1 0 ≤ 6) (hne : C.1 0 ≠ C.1 7) : g_Run G mX11_alike 4 0 0 [.ref (g_ad G 0)] (g_hp G C tl) (some (.int 0)) (g_hp G C tl) := by
  refine g_Run.of (lv := [(0, .ref (g_ad G 0))]) (by decide) (Nat.le_of_ble_eq_true rfl) rfl ?_
  refine a_aload_n 0 1 rfl dX11_alike_0 rfl rfl ?_
  refine a_get 5 cl_10 f_RX11_367_10 (by decide) (rfl) rfl 4 rfl dX11_alike_1 ?_
  refine a_if_ne 10 7 rfl dX11_alike_4 (by decide) (fun _ => ?_) (fun hc => absurd hc ((fun z => absurd (nI_inj9 (b := 0) (by omega) (by omega) z) (by omega))))
  refine a_aload_n 0 11 rfl dX11_alike_10 rfl rfl ?_
  refine a_get 0 cl_10 f_RX11_12_10 (by decide) (rfl) rfl 14 rfl dX11_alike_11 ?_
  refine a_callVN (as := []) (rest := []) (st2 := [.int (nI (C.1 0))]) (u1 := 0) (v1 := 0) (u2 := 0) (v2 := 0) (r_X3_elements rfl) (⟨_, _, _, _, rfl, rfl⟩) oX3_elements q_352 q_354 q_0 rfl (by omega) (by decide) rfl (Nat.le_of_ble_eq_true rfl) 17 rfl dX11_alike_14 rfl ?_
  refine a_aload_n 0 18 rfl dX11_alike_17 rfl rfl ?_
  refine a_get 5 cl_10 f_RX11_367_10 (by decide) (rfl) rfl 21 rfl dX11_alike_18 ?_
  refine a_icmp_ne 42 24 rfl dX11_alike_21 (by decide) (fun _ => ?_) (fun hc => absurd hc ((fun z => hne (nI_inj9 (by omega) (by omega) z))))
  refine a_iconst (x := 0) 43 rfl dX11_alike_42 (by decide) ?_
  refine a_callS (as := [.int 0]) (rest := []) (st2 := [.int 0]) (u1 := 0) (v1 := 0) (u2 := 0) (v2 := 0) (r_yes0) oX11_yesOrNo q_540 q_541 rfl (by omega) (by decide) rfl (Nat.le_of_ble_eq_true rfl) 46 rfl dX11_alike_43 rfl ?_
  exact a_ireturn .int rfl rfl (rfl) (rfl) dX11_alike_46
theorem r_X11_alike_m (h0 : 0 < C.1 7) (h6 : C.1 7 ≤ 6) (hn : C.1 0 = C.1 7) (h8 : C.1 3 ≤ 8) (h9 : C.1 6 ≤ 8) (hne : C.1 3 ≠ C.1 6) : g_Run G mX11_alike 4 0 0 [.ref (g_ad G 0)] (g_hp G C tl) (some (.int 0)) (g_hp G C tl) := by
  refine g_Run.of (lv := [(0, .ref (g_ad G 0))]) (by decide) (Nat.le_of_ble_eq_true rfl) rfl ?_
  refine a_aload_n 0 1 rfl dX11_alike_0 rfl rfl ?_
  refine a_get 5 cl_10 f_RX11_367_10 (by decide) (rfl) rfl 4 rfl dX11_alike_1 ?_
  refine a_if_ne 10 7 rfl dX11_alike_4 (by decide) (fun _ => ?_) (fun hc => absurd hc ((fun z => absurd (nI_inj9 (b := 0) (by omega) (by omega) z) (by omega))))
  refine a_aload_n 0 11 rfl dX11_alike_10 rfl rfl ?_
  refine a_get 0 cl_10 f_RX11_12_10 (by decide) (rfl) rfl 14 rfl dX11_alike_11 ?_
  refine a_callVN (as := []) (rest := []) (st2 := [.int (nI (C.1 0))]) (u1 := 0) (v1 := 0) (u2 := 0) (v2 := 0) (r_X3_elements rfl) (⟨_, _, _, _, rfl, rfl⟩) oX3_elements q_352 q_354 q_0 rfl (by omega) (by decide) rfl (Nat.le_of_ble_eq_true rfl) 17 rfl dX11_alike_14 rfl ?_
  refine a_aload_n 0 18 rfl dX11_alike_17 rfl rfl ?_
  refine a_get 5 cl_10 f_RX11_367_10 (by decide) (rfl) rfl 21 rfl dX11_alike_18 ?_
  refine a_icmp_ne 42 24 rfl dX11_alike_21 (by decide) (fun hc => absurd ((by rw [hn])) hc) (fun _ => ?_)
  refine a_aload_n 0 25 rfl dX11_alike_24 rfl rfl ?_
  refine a_get 2 cl_10 f_RX11_28_10 (by decide) (rfl) rfl 28 rfl dX11_alike_25 ?_
  refine a_aload_n 0 29 rfl dX11_alike_28 rfl rfl ?_
  refine a_get 4 cl_10 f_RX11_39_10 (by decide) (rfl) rfl 32 rfl dX11_alike_29 ?_
  refine a_callVN (as := [.ref (g_ad G 11)]) (rest := []) (st2 := [.int 0]) (u1 := 0) (v1 := 0) (u2 := 0) (v2 := 0) (r_X4_areLikeN rfl rfl h8 h9 hne) (⟨_, _, _, _, rfl, rfl⟩) oX4_areLike q_1076 q_1078 q_80 rfl (by omega) (by decide) rfl (Nat.le_of_ble_eq_true rfl) 35 rfl dX11_alike_32 rfl ?_
  refine a_if_eq 42 38 rfl dX11_alike_35 (by decide) (fun _ => ?_) (fun hc => absurd (rfl) hc)
  refine a_iconst (x := 0) 43 rfl dX11_alike_42 (by decide) ?_
  refine a_callS (as := [.int 0]) (rest := []) (st2 := [.int 0]) (u1 := 0) (v1 := 0) (u2 := 0) (v2 := 0) (r_yes0) oX11_yesOrNo q_540 q_541 rfl (by omega) (by decide) rfl (Nat.le_of_ble_eq_true rfl) 46 rfl dX11_alike_43 rfl ?_
  exact a_ireturn .int rfl rfl (rfl) (rfl) dX11_alike_46
theorem r_X11_alike {F E : Nat → f_T} {p9 p8 : Nat → Nat} (h0 : 0 < C.1 7) (h6 : C.1 7 ≤ 6) (hn : C.1 0 = C.1 7) (h8 : C.1 3 ≤ 8) (he : C.1 6 = C.1 3) (h9 : ∀ j, j < C.1 3 → C.2.2.2.2.2 0 j = some (g_ad G (38 + p9 j)) ∧ tl[p9 j]? = some (c_Fa (F j))) (h7 : ∀ j, j < C.1 3 → C.2.2.2.2.2 3 j = some (g_ad G (38 + p8 j)) ∧ tl[p8 j]? = some (c_Fa (E j))) : g_Run G mX11_alike 4 0 0 [.ref (g_ad G 0)] (g_hp G C tl) (some (.int (if f_alike (fun j => nI (F j).1) (fun j => nI (F j).2.1) (fun j => nI (E j).1) (fun j => nI (E j).2.1) (fun j => (F j).2.2) (fun j => (E j).2.2) (C.1 3) 0 then 1 else 0))) (g_hp G C tl) := by
  have hE : (g_hp G C tl)[11]? = some (c_O 4 [.ref (g_ad G 12), .int (nI (C.1 3))]) := by rw [← he]; rfl
  have w := r_X4_areLike (G := G) (h := g_hp G C tl) (a := 5) (b := 11) (ka := 6) (kb := 12) (m9 := C.1 3) (k9 := fun j => nI (F j).1) (g9 := fun j => nI (F j).2.1) (k8 := fun j => nI (E j).1) (g8 := fun j => nI (E j).2.1) (t9 := fun j => (F j).2.2) (t8 := fun j => (E j).2.2) (p9 := fun j => 38 + p9 j) (p8 := fun j => 38 + p8 j) rfl hE rfl rfl h8 (fun j hj => ⟨(h9 j hj).1, f_T_at (h9 j hj).2⟩) (fun j hj => ⟨(h7 j hj).1, f_T_at (h7 j hj).2⟩)
  obtain ⟨P9, eP⟩ : ∃ P9, P9 = f_alike (fun j => nI (F j).1) (fun j => nI (F j).2.1) (fun j => nI (E j).1) (fun j => nI (E j).2.1) (fun j => (F j).2.2) (fun j => (E j).2.2) (C.1 3) 0 := ⟨_, rfl⟩
  rw [← eP] at w ⊢
  refine g_Run.of (lv := [(0, .ref (g_ad G 0))]) (by decide) (Nat.le_of_ble_eq_true rfl) rfl ?_
  refine a_aload_n 0 1 rfl dX11_alike_0 rfl rfl ?_
  refine a_get 5 cl_10 f_RX11_367_10 (by decide) (rfl) rfl 4 rfl dX11_alike_1 ?_
  refine a_if_ne 10 7 rfl dX11_alike_4 (by decide) (fun _ => ?_) (fun hc => absurd hc ((fun z => absurd (nI_inj9 (b := 0) (by omega) (by omega) z) (by omega))))
  refine a_aload_n 0 11 rfl dX11_alike_10 rfl rfl ?_
  refine a_get 0 cl_10 f_RX11_12_10 (by decide) (rfl) rfl 14 rfl dX11_alike_11 ?_
  refine a_callVN (as := []) (rest := []) (st2 := [.int (nI (C.1 0))]) (u1 := 0) (v1 := 0) (u2 := 0) (v2 := 0) (r_X3_elements rfl) (⟨_, _, _, _, rfl, rfl⟩) oX3_elements q_352 q_354 q_0 rfl (by omega) (by decide) rfl (Nat.le_of_ble_eq_true rfl) 17 rfl dX11_alike_14 rfl ?_
  refine a_aload_n 0 18 rfl dX11_alike_17 rfl rfl ?_
  refine a_get 5 cl_10 f_RX11_367_10 (by decide) (rfl) rfl 21 rfl dX11_alike_18 ?_
  refine a_icmp_ne 42 24 rfl dX11_alike_21 (by decide) (fun hc => absurd ((by rw [hn])) hc) (fun _ => ?_)
  refine a_aload_n 0 25 rfl dX11_alike_24 rfl rfl ?_
  refine a_get 2 cl_10 f_RX11_28_10 (by decide) (rfl) rfl 28 rfl dX11_alike_25 ?_
  refine a_aload_n 0 29 rfl dX11_alike_28 rfl rfl ?_
  refine a_get 4 cl_10 f_RX11_39_10 (by decide) (rfl) rfl 32 rfl dX11_alike_29 ?_
  refine a_callVN (as := [.ref (g_ad G 11)]) (rest := []) (st2 := [.int (if P9 then 1 else 0)]) (u1 := 0) (v1 := 0) (u2 := 0) (v2 := 0) (w) (⟨_, _, _, _, rfl, rfl⟩) oX4_areLike q_1076 q_1078 q_80 rfl (by omega) (by decide) rfl (Nat.le_of_ble_eq_true rfl) 35 rfl dX11_alike_32 rfl ?_
  by_cases e9 : P9 = true
  · skip
    refine a_if_eq 42 38 rfl dX11_alike_35 (by decide) (fun hc => absurd hc ((by rw [if_pos e9]; decide))) (fun _ => ?_)
    refine a_iconst (x := 1) 39 rfl dX11_alike_38 (by decide) ?_
    refine a_goto 43 dX11_alike_39 (by decide) ?_
    refine a_callS (as := [.int 1]) (rest := []) (st2 := [.int 1]) (u1 := 0) (v1 := 0) (u2 := 0) (v2 := 0) (r_yes1) oX11_yesOrNo q_540 q_541 rfl (by omega) (by decide) rfl (Nat.le_of_ble_eq_true rfl) 46 rfl dX11_alike_43 rfl ?_
    exact a_ireturn .int rfl rfl ((by rw [if_pos e9])) (rfl) dX11_alike_46
  · skip
    refine a_if_eq 42 38 rfl dX11_alike_35 (by decide) (fun _ => ?_) (fun hc => absurd ((by rw [if_neg e9])) hc)
    refine a_iconst (x := 0) 43 rfl dX11_alike_42 (by decide) ?_
    refine a_callS (as := [.int 0]) (rest := []) (st2 := [.int 0]) (u1 := 0) (v1 := 0) (u2 := 0) (v2 := 0) (r_yes0) oX11_yesOrNo q_540 q_541 rfl (by omega) (by decide) rfl (Nat.le_of_ble_eq_true rfl) 46 rfl dX11_alike_43 rfl ?_
    exact a_ireturn .int rfl rfl ((by rw [if_neg e9])) (rfl) dX11_alike_46
end CH1
