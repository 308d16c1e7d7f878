/-! The class's calls on shelves -/
section SH1
variable {G : g_G} {C : f_C} {tl : List va_E} {x z9 : Int64} {y y2 y3 y4 y5 : Int32} {j o : Nat} {T : f_T}
theorem r_X11_shelf_bad (hi : ¬ vp_in y 3) : g_Run G mX11_shelf 2 0 0 [.ref (g_ad G 0), .int y, .int y2, .int y3] (g_hp G C tl) (some (.int (-1))) (g_hp G C tl) := by
  refine g_Run.of (lv := [(0, .ref (g_ad G 0)), (1, .int y), (2, .int y2), (3, .int y3)]) (by decide) (Nat.le_of_ble_eq_true rfl) rfl ?_
  refine a_aload_n 0 1 rfl dX11_shelf_0 rfl rfl ?_
  refine a_iload_n 1 2 rfl dX11_shelf_1 rfl rfl ?_
  refine a_callV (as := [.int y]) (rest := []) (st2 := [.null]) (u1 := 0) (v1 := 0) (u2 := 0) (v2 := 0) (r_shelfAt_out hi) (⟨_, _, _, _, rfl, rfl⟩) oX11_shelfAt q_908 q_910 q_54 rfl (by omega) (by decide) rfl (Nat.le_of_ble_eq_true rfl) 5 rfl dX11_shelf_2 rfl ?_
  refine a_astoreN (lv' := [(4, .null), (0, .ref (g_ad G 0)), (1, .int y), (2, .int y2), (3, .int y3)]) 7 rfl dX11_shelf_5 (by decide) rfl ?_
  refine a_aloadN 0 9 rfl dX11_shelf_7 rfl ?_
  refine a_ifnullN 22 dX11_shelf_9 (by decide) ?_
  refine a_iconst (x := (-1)) 23 rfl dX11_shelf_22 (by decide) ?_
  exact a_ireturn .int rfl rfl (rfl) (rfl) dX11_shelf_23
theorem r_X11_kept_bad (hi : ¬ vp_in y 3) : g_Run G mX11_kept 4 0 0 [.ref (g_ad G 0), .int y, .int y2] (g_hp G C tl) (some (.long (-9223372036854775808))) (g_hp G C tl) := by
  refine g_Run.of (lv := [(0, .ref (g_ad G 0)), (1, .int y), (2, .int y2)]) (by decide) (Nat.le_of_ble_eq_true rfl) rfl ?_
  refine a_aload_n 0 1 rfl dX11_kept_0 rfl rfl ?_
  refine a_iload_n 1 2 rfl dX11_kept_1 rfl rfl ?_
  refine a_callV (as := [.int y]) (rest := []) (st2 := [.null]) (u1 := 0) (v1 := 0) (u2 := 0) (v2 := 0) (r_shelfAt_out hi) (⟨_, _, _, _, rfl, rfl⟩) oX11_shelfAt q_908 q_910 q_54 rfl (by omega) (by decide) rfl (Nat.le_of_ble_eq_true rfl) 5 rfl dX11_kept_2 rfl ?_
  refine a_astore_nN (lv' := [(3, .null), (0, .ref (g_ad G 0)), (1, .int y), (2, .int y2)]) 6 rfl dX11_kept_5 rfl (by decide) rfl ?_
  refine a_aload_nN 0 7 rfl dX11_kept_6 rfl rfl ?_
  refine a_ifnonnullN 10 rfl dX11_kept_7 ?_
  refine a_null 11 rfl dX11_kept_10 ?_
  refine a_goto 19 dX11_kept_11 (by decide) ?_
  refine a_astoreN (lv' := [(4, .null), (3, .null), (0, .ref (g_ad G 0)), (1, .int y), (2, .int y2)]) 21 rfl dX11_kept_19 (by decide) rfl ?_
  refine a_aloadN 0 23 rfl dX11_kept_21 rfl ?_
  refine a_ifnonnullN 26 rfl dX11_kept_23 ?_
  refine a_ldc2 q_466 29 rfl dX11_kept_26 ?_
  refine a_goto 41 dX11_kept_29 (by decide) ?_
  exact a_lreturn rfl (rfl) (rfl) dX11_kept_41
theorem r_X11_keep_bad1 (hi : ¬ vp_in y 3) (hm : C.1 3 ≤ 8) (hi3 : ¬ vp_in y3 (C.1 3)) : g_Run G mX11_keep 5 0 0 [.ref (g_ad G 0), .int y, .int y2, .int y3] (g_hp G C tl) (some (.int (-1))) (g_hp G C tl) := by
  refine g_Run.of (lv := [(0, .ref (g_ad G 0)), (1, .int y), (2, .int y2), (3, .int y3)]) (by decide) (Nat.le_of_ble_eq_true rfl) rfl ?_
  refine a_aload_n 0 1 rfl dX11_keep_0 rfl rfl ?_
  refine a_iload_n 1 2 rfl dX11_keep_1 rfl rfl ?_
  refine a_callV (as := [.int y]) (rest := []) (st2 := [.null]) (u1 := 0) (v1 := 0) (u2 := 0) (v2 := 0) (r_shelfAt_out hi) (⟨_, _, _, _, rfl, rfl⟩) oX11_shelfAt q_908 q_910 q_54 rfl (by omega) (by decide) rfl (Nat.le_of_ble_eq_true rfl) 5 rfl dX11_keep_2 rfl ?_
  refine a_astoreN (lv' := [(4, .null), (0, .ref (g_ad G 0)), (1, .int y), (2, .int y2), (3, .int y3)]) 7 rfl dX11_keep_5 (by decide) rfl ?_
  refine a_aload_n 1 8 rfl dX11_keep_7 rfl rfl ?_
  refine a_get 2 cl_10 f_RX11_28_10 (by decide) (rfl) rfl 11 rfl dX11_keep_8 ?_
  refine a_iload_n 4 12 rfl dX11_keep_11 rfl rfl ?_
  refine a_callVN (as := [.int y3]) (rest := []) (st2 := [.null]) (u1 := 0) (v1 := 0) (u2 := 0) (v2 := 0) (r_at_out hm hi3) (⟨_, _, _, _, rfl, rfl⟩) oX4_at q_446 q_448 q_9 rfl (by omega) (by decide) rfl (Nat.le_of_ble_eq_true rfl) 15 rfl dX11_keep_12 rfl ?_
  refine a_astoreN (lv' := [(5, .null), (4, .null), (0, .ref (g_ad G 0)), (1, .int y), (2, .int y2), (3, .int y3)]) 17 rfl dX11_keep_15 (by decide) rfl ?_
  refine a_aloadN 1 19 rfl dX11_keep_17 rfl ?_
  refine a_ifnullN 27 dX11_keep_19 (by decide) ?_
  refine a_iconst (x := (-1)) 28 rfl dX11_keep_27 (by decide) ?_
  exact a_ireturn .int rfl rfl (rfl) (rfl) dX11_keep_28
theorem r_X11_keep_bad2 (hi : ¬ vp_in y 3) (hf : f_is G C tl j o T) : g_Run G mX11_keep 5 0 0 [.ref (g_ad G 0), .int y, .int y2, .int (nI j)] (g_hp G C tl) (some (.int (-1))) (g_hp G C tl) := by
  refine g_Run.of (lv := [(0, .ref (g_ad G 0)), (1, .int y), (2, .int y2), (3, .int (nI j))]) (by decide) (Nat.le_of_ble_eq_true rfl) rfl ?_
  refine a_aload_n 0 1 rfl dX11_keep_0 rfl rfl ?_
  refine a_iload_n 1 2 rfl dX11_keep_1 rfl rfl ?_
  refine a_callV (as := [.int y]) (rest := []) (st2 := [.null]) (u1 := 0) (v1 := 0) (u2 := 0) (v2 := 0) (r_shelfAt_out hi) (⟨_, _, _, _, rfl, rfl⟩) oX11_shelfAt q_908 q_910 q_54 rfl (by omega) (by decide) rfl (Nat.le_of_ble_eq_true rfl) 5 rfl dX11_keep_2 rfl ?_
  refine a_astoreN (lv' := [(4, .null), (0, .ref (g_ad G 0)), (1, .int y), (2, .int y2), (3, .int (nI j))]) 7 rfl dX11_keep_5 (by decide) rfl ?_
  refine a_aload_n 1 8 rfl dX11_keep_7 rfl rfl ?_
  refine a_get 2 cl_10 f_RX11_28_10 (by decide) (rfl) rfl 11 rfl dX11_keep_8 ?_
  refine a_iload_n 4 12 rfl dX11_keep_11 rfl rfl ?_
  refine a_callVN (as := [.int (nI j)]) (rest := []) (st2 := [.ref (g_ad G (38 + o))]) (u1 := 0) (v1 := 0) (u2 := 0) (v2 := 0) (r_at_in hf) (⟨_, _, _, _, rfl, rfl⟩) oX4_at q_446 q_448 q_9 rfl (by omega) (by decide) rfl (Nat.le_of_ble_eq_true rfl) 15 rfl dX11_keep_12 rfl ?_
  refine a_astore (lv' := [(5, .ref (g_ad G (38 + o))), (4, .null), (0, .ref (g_ad G 0)), (1, .int y), (2, .int y2), (3, .int (nI j))]) 17 rfl dX11_keep_15 (by decide) rfl ?_
  refine a_aloadN 1 19 rfl dX11_keep_17 rfl ?_
  refine a_ifnullN 27 dX11_keep_19 (by decide) ?_
  refine a_iconst (x := (-1)) 28 rfl dX11_keep_27 (by decide) ?_
  exact a_ireturn .int rfl rfl (rfl) (rfl) dX11_keep_28
theorem r_X11_like_bad (hi : ¬ vp_in y 3) (hi2 : ¬ vp_in y2 3) : g_Run G mX11_like 3 0 0 [.ref (g_ad G 0), .int y, .int y2] (g_hp G C tl) (some (.int (-1))) (g_hp G C tl) := by
  refine g_Run.of (lv := [(0, .ref (g_ad G 0)), (1, .int y), (2, .int y2)]) (by decide) (Nat.le_of_ble_eq_true rfl) rfl ?_
  refine a_aload_n 0 1 rfl dX11_like_0 rfl rfl ?_
  refine a_iload_n 1 2 rfl dX11_like_1 rfl rfl ?_
  refine a_callV (as := [.int y]) (rest := []) (st2 := [.null]) (u1 := 0) (v1 := 0) (u2 := 0) (v2 := 0) (r_shelfAt_out hi) (⟨_, _, _, _, rfl, rfl⟩) oX11_shelfAt q_908 q_910 q_54 rfl (by omega) (by decide) rfl (Nat.le_of_ble_eq_true rfl) 5 rfl dX11_like_2 rfl ?_
  refine a_astore_nN (lv' := [(3, .null), (0, .ref (g_ad G 0)), (1, .int y), (2, .int y2)]) 6 rfl dX11_like_5 rfl (by decide) rfl ?_
  refine a_aload_n 1 7 rfl dX11_like_6 rfl rfl ?_
  refine a_iload_n 3 8 rfl dX11_like_7 rfl rfl ?_
  refine a_callV (as := [.int y2]) (rest := []) (st2 := [.null]) (u1 := 0) (v1 := 0) (u2 := 0) (v2 := 0) (r_shelfAt_out hi2) (⟨_, _, _, _, rfl, rfl⟩) oX11_shelfAt q_908 q_910 q_54 rfl (by omega) (by decide) rfl (Nat.le_of_ble_eq_true rfl) 11 rfl dX11_like_8 rfl ?_
  refine a_astoreN (lv' := [(4, .null), (3, .null), (0, .ref (g_ad G 0)), (1, .int y), (2, .int y2)]) 13 rfl dX11_like_11 (by decide) rfl ?_
  refine a_aload_nN 1 14 rfl dX11_like_13 rfl rfl ?_
  refine a_ifnullN 28 dX11_like_14 (by decide) ?_
  refine a_iconst (x := (-1)) 29 rfl dX11_like_28 (by decide) ?_
  exact a_ireturn .int rfl rfl (rfl) (rfl) dX11_like_29
theorem r_X11_shift_bad (hi : ¬ vp_in y 3) (hi2 : ¬ vp_in y3 3) : g_Run G mX11_shift 6 0 0 [.ref (g_ad G 0), .int y, .int y2, .int y3, .int y4, .int y5] (g_hp G C tl) (some (.int (-1))) (g_hp G C tl) := by
  refine g_Run.of (lv := [(0, .ref (g_ad G 0)), (1, .int y), (2, .int y2), (3, .int y3), (4, .int y4), (5, .int y5)]) (by decide) (Nat.le_of_ble_eq_true rfl) rfl ?_
  refine a_aload_n 0 1 rfl dX11_shift_0 rfl rfl ?_
  refine a_iload_n 1 2 rfl dX11_shift_1 rfl rfl ?_
  refine a_callV (as := [.int y]) (rest := []) (st2 := [.null]) (u1 := 0) (v1 := 0) (u2 := 0) (v2 := 0) (r_shelfAt_out hi) (⟨_, _, _, _, rfl, rfl⟩) oX11_shelfAt q_908 q_910 q_54 rfl (by omega) (by decide) rfl (Nat.le_of_ble_eq_true rfl) 5 rfl dX11_shift_2 rfl ?_
  refine a_astoreN (lv' := [(6, .null), (0, .ref (g_ad G 0)), (1, .int y), (2, .int y2), (3, .int y3), (4, .int y4), (5, .int y5)]) 7 rfl dX11_shift_5 (by decide) rfl ?_
  refine a_aload_n 1 8 rfl dX11_shift_7 rfl rfl ?_
  refine a_iload_n 4 9 rfl dX11_shift_8 rfl rfl ?_
  refine a_callV (as := [.int y3]) (rest := []) (st2 := [.null]) (u1 := 0) (v1 := 0) (u2 := 0) (v2 := 0) (r_shelfAt_out hi2) (⟨_, _, _, _, rfl, rfl⟩) oX11_shelfAt q_908 q_910 q_54 rfl (by omega) (by decide) rfl (Nat.le_of_ble_eq_true rfl) 12 rfl dX11_shift_9 rfl ?_
  refine a_astoreN (lv' := [(7, .null), (6, .null), (0, .ref (g_ad G 0)), (1, .int y), (2, .int y2), (3, .int y3), (4, .int y4), (5, .int y5)]) 14 rfl dX11_shift_12 (by decide) rfl ?_
  refine a_aloadN 1 16 rfl dX11_shift_14 rfl ?_
  refine a_ifnullN 24 dX11_shift_16 (by decide) ?_
  refine a_iconst (x := (-1)) 25 rfl dX11_shift_24 (by decide) ?_
  exact a_ireturn .int rfl rfl (rfl) (rfl) dX11_shift_25
theorem r_X11_like_bad1_0 (hq : f_qs G C) (hi : ¬ vp_in y 3) : g_Run G mX11_like 3 0 0 [.ref (g_ad G 0), .int y, .int 0] (g_hp G C tl) (some (.int (-1))) (g_hp G C tl) := by
  refine g_Run.of (lv := [(0, .ref (g_ad G 0)), (1, .int y), (2, .int 0)]) (by decide) (Nat.le_of_ble_eq_true rfl) rfl ?_
  refine a_aload_n 0 1 rfl dX11_like_0 rfl rfl ?_
  refine a_iload_n 1 2 rfl dX11_like_1 rfl rfl ?_
  refine a_callV (as := [.int y]) (rest := []) (st2 := [.null]) (u1 := 0) (v1 := 0) (u2 := 0) (v2 := 0) (r_shelfAt_out hi) (⟨_, _, _, _, rfl, rfl⟩) oX11_shelfAt q_908 q_910 q_54 rfl (by omega) (by decide) rfl (Nat.le_of_ble_eq_true rfl) 5 rfl dX11_like_2 rfl ?_
  refine a_astore_nN (lv' := [(3, .null), (0, .ref (g_ad G 0)), (1, .int y), (2, .int 0)]) 6 rfl dX11_like_5 rfl (by decide) rfl ?_
  refine a_aload_n 1 7 rfl dX11_like_6 rfl rfl ?_
  refine a_iload_n 3 8 rfl dX11_like_7 rfl rfl ?_
  refine a_callV (as := [.int 0]) (rest := []) (st2 := [.ref (g_ad G 23)]) (u1 := 0) (v1 := 0) (u2 := 0) (v2 := 0) (r_shelfAt0 hq) (⟨_, _, _, _, rfl, rfl⟩) oX11_shelfAt q_908 q_910 q_54 rfl (by omega) (by decide) rfl (Nat.le_of_ble_eq_true rfl) 11 rfl dX11_like_8 rfl ?_
  refine a_astore (lv' := [(4, .ref (g_ad G 23)), (3, .null), (0, .ref (g_ad G 0)), (1, .int y), (2, .int 0)]) 13 rfl dX11_like_11 (by decide) rfl ?_
  refine a_aload_nN 1 14 rfl dX11_like_13 rfl rfl ?_
  refine a_ifnullN 28 dX11_like_14 (by decide) ?_
  refine a_iconst (x := (-1)) 29 rfl dX11_like_28 (by decide) ?_
  exact a_ireturn .int rfl rfl (rfl) (rfl) dX11_like_29
theorem r_X11_like_bad2_0 (hq : f_qs G C) (hi : ¬ vp_in y 3) : g_Run G mX11_like 3 0 0 [.ref (g_ad G 0), .int 0, .int y] (g_hp G C tl) (some (.int (-1))) (g_hp G C tl) := by
  refine g_Run.of (lv := [(0, .ref (g_ad G 0)), (1, .int 0), (2, .int y)]) (by decide) (Nat.le_of_ble_eq_true rfl) rfl ?_
  refine a_aload_n 0 1 rfl dX11_like_0 rfl rfl ?_
  refine a_iload_n 1 2 rfl dX11_like_1 rfl rfl ?_
  refine a_callV (as := [.int 0]) (rest := []) (st2 := [.ref (g_ad G 23)]) (u1 := 0) (v1 := 0) (u2 := 0) (v2 := 0) (r_shelfAt0 hq) (⟨_, _, _, _, rfl, rfl⟩) oX11_shelfAt q_908 q_910 q_54 rfl (by omega) (by decide) rfl (Nat.le_of_ble_eq_true rfl) 5 rfl dX11_like_2 rfl ?_
  refine a_astore_n (lv' := [(3, .ref (g_ad G 23)), (0, .ref (g_ad G 0)), (1, .int 0), (2, .int y)]) 6 rfl dX11_like_5 rfl (by decide) rfl ?_
  refine a_aload_n 1 7 rfl dX11_like_6 rfl rfl ?_
  refine a_iload_n 3 8 rfl dX11_like_7 rfl rfl ?_
  refine a_callV (as := [.int y]) (rest := []) (st2 := [.null]) (u1 := 0) (v1 := 0) (u2 := 0) (v2 := 0) (r_shelfAt_out hi) (⟨_, _, _, _, rfl, rfl⟩) oX11_shelfAt q_908 q_910 q_54 rfl (by omega) (by decide) rfl (Nat.le_of_ble_eq_true rfl) 11 rfl dX11_like_8 rfl ?_
  refine a_astoreN (lv' := [(4, .null), (3, .ref (g_ad G 23)), (0, .ref (g_ad G 0)), (1, .int 0), (2, .int y)]) 13 rfl dX11_like_11 (by decide) rfl ?_
  refine a_aload_n 1 14 rfl dX11_like_13 rfl rfl ?_
  refine a_ifnull 17 rfl dX11_like_14 ?_
  refine a_aloadN 0 19 rfl dX11_like_17 rfl ?_
  refine a_ifnullN 28 dX11_like_19 (by decide) ?_
  refine a_iconst (x := (-1)) 29 rfl dX11_like_28 (by decide) ?_
  exact a_ireturn .int rfl rfl (rfl) (rfl) dX11_like_29
theorem r_X11_like_same_0 (hq : f_qs G C) : g_Run G mX11_like 3 0 0 [.ref (g_ad G 0), .int 0, .int 0] (g_hp G C tl) (some (.int (-1))) (g_hp G C tl) := by
  refine g_Run.of (lv := [(0, .ref (g_ad G 0)), (1, .int 0), (2, .int 0)]) (by decide) (Nat.le_of_ble_eq_true rfl) rfl ?_
  refine a_aload_n 0 1 rfl dX11_like_0 rfl rfl ?_
  refine a_iload_n 1 2 rfl dX11_like_1 rfl rfl ?_
  refine a_callV (as := [.int 0]) (rest := []) (st2 := [.ref (g_ad G 23)]) (u1 := 0) (v1 := 0) (u2 := 0) (v2 := 0) (r_shelfAt0 hq) (⟨_, _, _, _, rfl, rfl⟩) oX11_shelfAt q_908 q_910 q_54 rfl (by omega) (by decide) rfl (Nat.le_of_ble_eq_true rfl) 5 rfl dX11_like_2 rfl ?_
  refine a_astore_n (lv' := [(3, .ref (g_ad G 23)), (0, .ref (g_ad G 0)), (1, .int 0), (2, .int 0)]) 6 rfl dX11_like_5 rfl (by decide) rfl ?_
  refine a_aload_n 1 7 rfl dX11_like_6 rfl rfl ?_
  refine a_iload_n 3 8 rfl dX11_like_7 rfl rfl ?_
  refine a_callV (as := [.int 0]) (rest := []) (st2 := [.ref (g_ad G 23)]) (u1 := 0) (v1 := 0) (u2 := 0) (v2 := 0) (r_shelfAt0 hq) (⟨_, _, _, _, rfl, rfl⟩) oX11_shelfAt q_908 q_910 q_54 rfl (by omega) (by decide) rfl (Nat.le_of_ble_eq_true rfl) 11 rfl dX11_like_8 rfl ?_
  refine a_astore (lv' := [(4, .ref (g_ad G 23)), (3, .ref (g_ad G 23)), (0, .ref (g_ad G 0)), (1, .int 0), (2, .int 0)]) 13 rfl dX11_like_11 (by decide) rfl ?_
  refine a_aload_n 1 14 rfl dX11_like_13 rfl rfl ?_
  refine a_ifnull 17 rfl dX11_like_14 ?_
  refine a_aload 0 19 rfl dX11_like_17 rfl ?_
  refine a_ifnull 22 rfl dX11_like_19 ?_
  refine a_aload_n 1 23 rfl dX11_like_22 rfl rfl ?_
  refine a_aload 0 25 rfl dX11_like_23 rfl ?_
  refine a_acmp_ne (rx := some (g_ad G 23)) (ry := some (g_ad G 23)) 30 28 rfl dX11_like_25 (by decide) (fun hc => absurd (rfl) hc) (fun _ => ?_)
  refine a_iconst (x := (-1)) 29 rfl dX11_like_28 (by decide) ?_
  exact a_ireturn .int rfl rfl (rfl) (rfl) dX11_like_29
theorem r_X11_shift_bad1_0 (hq : f_qs G C) (hi : ¬ vp_in y 3) : g_Run G mX11_shift 6 0 0 [.ref (g_ad G 0), .int y, .int y2, .int 0, .int y4, .int y5] (g_hp G C tl) (some (.int (-1))) (g_hp G C tl) := by
  refine g_Run.of (lv := [(0, .ref (g_ad G 0)), (1, .int y), (2, .int y2), (3, .int 0), (4, .int y4), (5, .int y5)]) (by decide) (Nat.le_of_ble_eq_true rfl) rfl ?_
  refine a_aload_n 0 1 rfl dX11_shift_0 rfl rfl ?_
  refine a_iload_n 1 2 rfl dX11_shift_1 rfl rfl ?_
  refine a_callV (as := [.int y]) (rest := []) (st2 := [.null]) (u1 := 0) (v1 := 0) (u2 := 0) (v2 := 0) (r_shelfAt_out hi) (⟨_, _, _, _, rfl, rfl⟩) oX11_shelfAt q_908 q_910 q_54 rfl (by omega) (by decide) rfl (Nat.le_of_ble_eq_true rfl) 5 rfl dX11_shift_2 rfl ?_
  refine a_astoreN (lv' := [(6, .null), (0, .ref (g_ad G 0)), (1, .int y), (2, .int y2), (3, .int 0), (4, .int y4), (5, .int y5)]) 7 rfl dX11_shift_5 (by decide) rfl ?_
  refine a_aload_n 1 8 rfl dX11_shift_7 rfl rfl ?_
  refine a_iload_n 4 9 rfl dX11_shift_8 rfl rfl ?_
  refine a_callV (as := [.int 0]) (rest := []) (st2 := [.ref (g_ad G 23)]) (u1 := 0) (v1 := 0) (u2 := 0) (v2 := 0) (r_shelfAt0 hq) (⟨_, _, _, _, rfl, rfl⟩) oX11_shelfAt q_908 q_910 q_54 rfl (by omega) (by decide) rfl (Nat.le_of_ble_eq_true rfl) 12 rfl dX11_shift_9 rfl ?_
  refine a_astore (lv' := [(7, .ref (g_ad G 23)), (6, .null), (0, .ref (g_ad G 0)), (1, .int y), (2, .int y2), (3, .int 0), (4, .int y4), (5, .int y5)]) 14 rfl dX11_shift_12 (by decide) rfl ?_
  refine a_aloadN 1 16 rfl dX11_shift_14 rfl ?_
  refine a_ifnullN 24 dX11_shift_16 (by decide) ?_
  refine a_iconst (x := (-1)) 25 rfl dX11_shift_24 (by decide) ?_
  exact a_ireturn .int rfl rfl (rfl) (rfl) dX11_shift_25
theorem r_X11_shift_bad2_0 (hq : f_qs G C) (hi : ¬ vp_in y 3) : g_Run G mX11_shift 6 0 0 [.ref (g_ad G 0), .int 0, .int y2, .int y, .int y4, .int y5] (g_hp G C tl) (some (.int (-1))) (g_hp G C tl) := by
  refine g_Run.of (lv := [(0, .ref (g_ad G 0)), (1, .int 0), (2, .int y2), (3, .int y), (4, .int y4), (5, .int y5)]) (by decide) (Nat.le_of_ble_eq_true rfl) rfl ?_
  refine a_aload_n 0 1 rfl dX11_shift_0 rfl rfl ?_
  refine a_iload_n 1 2 rfl dX11_shift_1 rfl rfl ?_
  refine a_callV (as := [.int 0]) (rest := []) (st2 := [.ref (g_ad G 23)]) (u1 := 0) (v1 := 0) (u2 := 0) (v2 := 0) (r_shelfAt0 hq) (⟨_, _, _, _, rfl, rfl⟩) oX11_shelfAt q_908 q_910 q_54 rfl (by omega) (by decide) rfl (Nat.le_of_ble_eq_true rfl) 5 rfl dX11_shift_2 rfl ?_
  refine a_astore (lv' := [(6, .ref (g_ad G 23)), (0, .ref (g_ad G 0)), (1, .int 0), (2, .int y2), (3, .int y), (4, .int y4), (5, .int y5)]) 7 rfl dX11_shift_5 (by decide) rfl ?_
  refine a_aload_n 1 8 rfl dX11_shift_7 rfl rfl ?_
  refine a_iload_n 4 9 rfl dX11_shift_8 rfl rfl ?_
  refine a_callV (as := [.int y]) (rest := []) (st2 := [.null]) (u1 := 0) (v1 := 0) (u2 := 0) (v2 := 0) (r_shelfAt_out hi) (⟨_, _, _, _, rfl, rfl⟩) oX11_shelfAt q_908 q_910 q_54 rfl (by omega) (by decide) rfl (Nat.le_of_ble_eq_true rfl) 12 rfl dX11_shift_9 rfl ?_
  refine a_astoreN (lv' := [(7, .null), (6, .ref (g_ad G 23)), (0, .ref (g_ad G 0)), (1, .int 0), (2, .int y2), (3, .int y), (4, .int y4), (5, .int y5)]) 14 rfl dX11_shift_12 (by decide) rfl ?_
  refine a_aload 1 16 rfl dX11_shift_14 rfl ?_
  refine a_ifnull 19 rfl dX11_shift_16 ?_
  refine a_aloadN 0 21 rfl dX11_shift_19 rfl ?_
  refine a_ifnonnullN 24 rfl dX11_shift_21 ?_
  refine a_iconst (x := (-1)) 25 rfl dX11_shift_24 (by decide) ?_
  exact a_ireturn .int rfl rfl (rfl) (rfl) dX11_shift_25
theorem r_X11_shelf0_out (hq : f_qs G C) (hy : y2 < -1 ∨ ¬ y2 < 3) : g_Run G mX11_shelf 2 0 0 [.ref (g_ad G 0), .int 0, .int y2, .int y3] (g_hp G C tl) (some (.int (-1))) (g_hp G C tl) := by
  refine g_Run.of (lv := [(0, .ref (g_ad G 0)), (1, .int 0), (2, .int y2), (3, .int y3)]) (by decide) (Nat.le_of_ble_eq_true rfl) rfl ?_
  refine a_aload_n 0 1 rfl dX11_shelf_0 rfl rfl ?_
  refine a_iload_n 1 2 rfl dX11_shelf_1 rfl rfl ?_
  refine a_callV (as := [.int 0]) (rest := []) (st2 := [.ref (g_ad G 23)]) (u1 := 0) (v1 := 0) (u2 := 0) (v2 := 0) (r_shelfAt0 hq) (⟨_, _, _, _, rfl, rfl⟩) oX11_shelfAt q_908 q_910 q_54 rfl (by omega) (by decide) rfl (Nat.le_of_ble_eq_true rfl) 5 rfl dX11_shelf_2 rfl ?_
  refine a_astore (lv' := [(4, .ref (g_ad G 23)), (0, .ref (g_ad G 0)), (1, .int 0), (2, .int y2), (3, .int y3)]) 7 rfl dX11_shelf_5 (by decide) rfl ?_
  refine a_aload 0 9 rfl dX11_shelf_7 rfl ?_
  refine a_ifnull 12 rfl dX11_shelf_9 ?_
  refine a_iload_n 3 13 rfl dX11_shelf_12 rfl rfl ?_
  refine a_iconst (x := (-1)) 14 rfl dX11_shelf_13 (by decide) ?_
  refine a_icmp_lt 22 17 rfl dX11_shelf_14 (by decide) (fun c14 => ?_) (fun c14 => ?_)
  refine a_iconst (x := (-1)) 23 rfl dX11_shelf_22 (by decide) ?_
  exact a_ireturn .int rfl rfl (rfl) (rfl) dX11_shelf_23
  refine a_iload_n 3 18 rfl dX11_shelf_17 rfl rfl ?_
  refine a_iconst (x := 3) 19 rfl dX11_shelf_18 (by decide) ?_
  refine a_icmp_lt 24 22 rfl dX11_shelf_19 (by decide) (fun hc => absurd hc ((hy.resolve_left c14))) (fun _ => ?_)
  refine a_iconst (x := (-1)) 23 rfl dX11_shelf_22 (by decide) ?_
  exact a_ireturn .int rfl rfl (rfl) (rfl) dX11_shelf_23
theorem r_X11_shelf0_rem (hq : f_qs G C) : g_Run G mX11_shelf 2 0 0 [.ref (g_ad G 0), .int 0, .int (-1), .int y3] (g_hp G C tl) (some (.int 1)) (g_hp G (f_un (f_ui C 3 0) 12 0) tl) := by
  refine g_Run.of (lv := [(0, .ref (g_ad G 0)), (1, .int 0), (2, .int ((-1))), (3, .int y3)]) (by decide) (Nat.le_of_ble_eq_true rfl) rfl ?_
  refine a_aload_n 0 1 rfl dX11_shelf_0 rfl rfl ?_
  refine a_iload_n 1 2 rfl dX11_shelf_1 rfl rfl ?_
  refine a_callV (as := [.int 0]) (rest := []) (st2 := [.ref (g_ad G 23)]) (u1 := 0) (v1 := 0) (u2 := 0) (v2 := 0) (r_shelfAt0 hq) (⟨_, _, _, _, rfl, rfl⟩) oX11_shelfAt q_908 q_910 q_54 rfl (by omega) (by decide) rfl (Nat.le_of_ble_eq_true rfl) 5 rfl dX11_shelf_2 rfl ?_
  refine a_astore (lv' := [(4, .ref (g_ad G 23)), (0, .ref (g_ad G 0)), (1, .int 0), (2, .int ((-1))), (3, .int y3)]) 7 rfl dX11_shelf_5 (by decide) rfl ?_
  refine a_aload 0 9 rfl dX11_shelf_7 rfl ?_
  refine a_ifnull 12 rfl dX11_shelf_9 ?_
  refine a_iload_n 3 13 rfl dX11_shelf_12 rfl rfl ?_
  refine a_iconst (x := (-1)) 14 rfl dX11_shelf_13 (by decide) ?_
  refine a_icmp_lt 22 17 rfl dX11_shelf_14 (by decide) (fun hc => absurd hc ((by decide))) (fun _ => ?_)
  refine a_iload_n 3 18 rfl dX11_shelf_17 rfl rfl ?_
  refine a_iconst (x := 3) 19 rfl dX11_shelf_18 (by decide) ?_
  refine a_icmp_lt 24 22 rfl dX11_shelf_19 (by decide) (fun _ => ?_) (fun hc => absurd ((by decide)) hc)
  refine a_iload_n 3 25 rfl dX11_shelf_24 rfl rfl ?_
  refine a_iconst (x := (-1)) 26 rfl dX11_shelf_25 (by decide) ?_
  refine a_icmp_ne 36 29 rfl dX11_shelf_26 (by decide) (fun hc => absurd (rfl) hc) (fun _ => ?_)
  refine a_aload 0 31 rfl dX11_shelf_29 rfl ?_
  refine a_callVN (as := []) (rest := []) (st2 := []) (u1 := 0) (v1 := 0) (u2 := 0) (v2 := 0) (r_X9_remove rfl) (⟨_, _, _, _, rfl, rfl⟩) oX9_remove q_912 q_914 q_55 rfl (by omega) (by decide) rfl (Nat.le_of_ble_eq_true rfl) 34 rfl dX11_shelf_31 rfl ?_
  refine a_eq (h2 := g_hp G (f_un (f_ui C 3 0) 12 0) tl) rfl rfl rfl (rfl) ?_
  refine a_iconst (x := 1) 35 rfl dX11_shelf_34 (by decide) ?_
  exact a_ireturn .int rfl rfl (rfl) (rfl) dX11_shelf_35
theorem r_X11_shelf0_much (hq : f_qs G C) (h1 : ¬ y2 < -1) (h2 : y2 < 3) (h3 : ¬ y2 = -1) (h4 : ¬ y3 ≤ 6) : g_Run G mX11_shelf 2 0 0 [.ref (g_ad G 0), .int 0, .int y2, .int y3] (g_hp G C tl) (some (.int (-1))) (g_hp G C tl) := by
  refine g_Run.of (lv := [(0, .ref (g_ad G 0)), (1, .int 0), (2, .int y2), (3, .int y3)]) (by decide) (Nat.le_of_ble_eq_true rfl) rfl ?_
  refine a_aload_n 0 1 rfl dX11_shelf_0 rfl rfl ?_
  refine a_iload_n 1 2 rfl dX11_shelf_1 rfl rfl ?_
  refine a_callV (as := [.int 0]) (rest := []) (st2 := [.ref (g_ad G 23)]) (u1 := 0) (v1 := 0) (u2 := 0) (v2 := 0) (r_shelfAt0 hq) (⟨_, _, _, _, rfl, rfl⟩) oX11_shelfAt q_908 q_910 q_54 rfl (by omega) (by decide) rfl (Nat.le_of_ble_eq_true rfl) 5 rfl dX11_shelf_2 rfl ?_
  refine a_astore (lv' := [(4, .ref (g_ad G 23)), (0, .ref (g_ad G 0)), (1, .int 0), (2, .int y2), (3, .int y3)]) 7 rfl dX11_shelf_5 (by decide) rfl ?_
  refine a_aload 0 9 rfl dX11_shelf_7 rfl ?_
  refine a_ifnull 12 rfl dX11_shelf_9 ?_
  refine a_iload_n 3 13 rfl dX11_shelf_12 rfl rfl ?_
  refine a_iconst (x := (-1)) 14 rfl dX11_shelf_13 (by decide) ?_
  refine a_icmp_lt 22 17 rfl dX11_shelf_14 (by decide) (fun hc => absurd hc (h1)) (fun _ => ?_)
  refine a_iload_n 3 18 rfl dX11_shelf_17 rfl rfl ?_
  refine a_iconst (x := 3) 19 rfl dX11_shelf_18 (by decide) ?_
  refine a_icmp_lt 24 22 rfl dX11_shelf_19 (by decide) (fun _ => ?_) (fun hc => absurd (h2) hc)
  refine a_iload_n 3 25 rfl dX11_shelf_24 rfl rfl ?_
  refine a_iconst (x := (-1)) 26 rfl dX11_shelf_25 (by decide) ?_
  refine a_icmp_ne 36 29 rfl dX11_shelf_26 (by decide) (fun _ => ?_) (fun hc => absurd hc (h3))
  refine a_iload_n 4 37 rfl dX11_shelf_36 rfl rfl ?_
  refine a_bipush (x := 6) 39 rfl dX11_shelf_37 (by decide) ?_
  refine a_icmp_le 44 42 rfl dX11_shelf_39 (by decide) (fun hc => absurd hc (h4)) (fun _ => ?_)
  refine a_iconst (x := (-1)) 43 rfl dX11_shelf_42 (by decide) ?_
  exact a_ireturn .int rfl rfl (rfl) (rfl) dX11_shelf_43
theorem r_X11_shelf0_few (hq : f_qs G C) (h1 : ¬ y2 < -1) (h2 : y2 < 3) (h3 : ¬ y2 = -1) (h4 : y3 ≤ 6) (h5 : ¬ 0 ≤ y3) : g_Run G mX11_shelf 2 0 0 [.ref (g_ad G 0), .int 0, .int y2, .int y3] (g_hp G C tl) (some (.int (-14))) (g_hp G C tl) := by
  refine g_Run.of (lv := [(0, .ref (g_ad G 0)), (1, .int 0), (2, .int y2), (3, .int y3)]) (by decide) (Nat.le_of_ble_eq_true rfl) rfl ?_
  refine a_aload_n 0 1 rfl dX11_shelf_0 rfl rfl ?_
  refine a_iload_n 1 2 rfl dX11_shelf_1 rfl rfl ?_
  refine a_callV (as := [.int 0]) (rest := []) (st2 := [.ref (g_ad G 23)]) (u1 := 0) (v1 := 0) (u2 := 0) (v2 := 0) (r_shelfAt0 hq) (⟨_, _, _, _, rfl, rfl⟩) oX11_shelfAt q_908 q_910 q_54 rfl (by omega) (by decide) rfl (Nat.le_of_ble_eq_true rfl) 5 rfl dX11_shelf_2 rfl ?_
  refine a_astore (lv' := [(4, .ref (g_ad G 23)), (0, .ref (g_ad G 0)), (1, .int 0), (2, .int y2), (3, .int y3)]) 7 rfl dX11_shelf_5 (by decide) rfl ?_
  refine a_aload 0 9 rfl dX11_shelf_7 rfl ?_
  refine a_ifnull 12 rfl dX11_shelf_9 ?_
  refine a_iload_n 3 13 rfl dX11_shelf_12 rfl rfl ?_
  refine a_iconst (x := (-1)) 14 rfl dX11_shelf_13 (by decide) ?_
  refine a_icmp_lt 22 17 rfl dX11_shelf_14 (by decide) (fun hc => absurd hc (h1)) (fun _ => ?_)
  refine a_iload_n 3 18 rfl dX11_shelf_17 rfl rfl ?_
  refine a_iconst (x := 3) 19 rfl dX11_shelf_18 (by decide) ?_
  refine a_icmp_lt 24 22 rfl dX11_shelf_19 (by decide) (fun _ => ?_) (fun hc => absurd (h2) hc)
  refine a_iload_n 3 25 rfl dX11_shelf_24 rfl rfl ?_
  refine a_iconst (x := (-1)) 26 rfl dX11_shelf_25 (by decide) ?_
  refine a_icmp_ne 36 29 rfl dX11_shelf_26 (by decide) (fun _ => ?_) (fun hc => absurd hc (h3))
  refine a_iload_n 4 37 rfl dX11_shelf_36 rfl rfl ?_
  refine a_bipush (x := 6) 39 rfl dX11_shelf_37 (by decide) ?_
  refine a_icmp_le 44 42 rfl dX11_shelf_39 (by decide) (fun _ => ?_) (fun hc => absurd (h4) hc)
  refine a_iload_n 4 45 rfl dX11_shelf_44 rfl rfl ?_
  refine a_if_ge 51 48 rfl dX11_shelf_45 (by decide) (fun hc => absurd hc (h5)) (fun _ => ?_)
  refine a_bipush (x := (-14)) 50 rfl dX11_shelf_48 (by decide) ?_
  exact a_ireturn .int rfl rfl (rfl) (rfl) dX11_shelf_50
theorem r_X11_shelf0 {n9 : Nat} (hq : f_qs G C) (h1 : ¬ y2 < -1) (h2 : y2 < 3) (h3 : ¬ y2 = -1) (h4 : n9 ≤ 6) : ∃ f2 : Nat → Option Nat, (∀ j, j < 6 → f2 j = none) ∧ g_Run G mX11_shelf 2 0 0 [.ref (g_ad G 0), .int 0, .int y2, .int (nI n9)] (g_hp G C tl) (some (.int 1)) (g_hp G (f_uR (f_un (f_ui (f_ui C 3 1) 6 y2) 12 n9) 6 f2) tl) := by
  obtain ⟨f2, hz, w⟩ := r_X9_lay (G := G) (h := g_hp G C tl) (a := 23) (y3 := y2) (p8 := n9) rfl rfl (by decide)
  refine ⟨f2, hz, ?_⟩
  refine g_Run.of (lv := [(0, .ref (g_ad G 0)), (1, .int 0), (2, .int y2), (3, .int (nI n9))]) (by decide) (Nat.le_of_ble_eq_true rfl) rfl ?_
  refine a_aload_n 0 1 rfl dX11_shelf_0 rfl rfl ?_
  refine a_iload_n 1 2 rfl dX11_shelf_1 rfl rfl ?_
  refine a_callV (as := [.int 0]) (rest := []) (st2 := [.ref (g_ad G 23)]) (u1 := 0) (v1 := 0) (u2 := 0) (v2 := 0) (r_shelfAt0 hq) (⟨_, _, _, _, rfl, rfl⟩) oX11_shelfAt q_908 q_910 q_54 rfl (by omega) (by decide) rfl (Nat.le_of_ble_eq_true rfl) 5 rfl dX11_shelf_2 rfl ?_
  refine a_astore (lv' := [(4, .ref (g_ad G 23)), (0, .ref (g_ad G 0)), (1, .int 0), (2, .int y2), (3, .int (nI n9))]) 7 rfl dX11_shelf_5 (by decide) rfl ?_
  refine a_aload 0 9 rfl dX11_shelf_7 rfl ?_
  refine a_ifnull 12 rfl dX11_shelf_9 ?_
  refine a_iload_n 3 13 rfl dX11_shelf_12 rfl rfl ?_
  refine a_iconst (x := (-1)) 14 rfl dX11_shelf_13 (by decide) ?_
  refine a_icmp_lt 22 17 rfl dX11_shelf_14 (by decide) (fun hc => absurd hc (h1)) (fun _ => ?_)
  refine a_iload_n 3 18 rfl dX11_shelf_17 rfl rfl ?_
  refine a_iconst (x := 3) 19 rfl dX11_shelf_18 (by decide) ?_
  refine a_icmp_lt 24 22 rfl dX11_shelf_19 (by decide) (fun _ => ?_) (fun hc => absurd (h2) hc)
  refine a_iload_n 3 25 rfl dX11_shelf_24 rfl rfl ?_
  refine a_iconst (x := (-1)) 26 rfl dX11_shelf_25 (by decide) ?_
  refine a_icmp_ne 36 29 rfl dX11_shelf_26 (by decide) (fun _ => ?_) (fun hc => absurd hc (h3))
  refine a_iload_n 4 37 rfl dX11_shelf_36 rfl rfl ?_
  refine a_bipush (x := 6) 39 rfl dX11_shelf_37 (by decide) ?_
  refine a_icmp_le 44 42 rfl dX11_shelf_39 (by decide) (fun _ => ?_) (fun hc => absurd ((nI_le (b := 6) h4 (by omega))) hc)
  refine a_iload_n 4 45 rfl dX11_shelf_44 rfl rfl ?_
  refine a_if_ge 51 48 rfl dX11_shelf_45 (by decide) (fun _ => ?_) (fun hc => absurd (nI_pos' (by omega)) hc)
  refine a_aload 0 53 rfl dX11_shelf_51 rfl ?_
  refine a_iload_n 3 54 rfl dX11_shelf_53 rfl rfl ?_
  refine a_iload_n 4 55 rfl dX11_shelf_54 rfl rfl ?_
  refine a_callVN (as := [.int y2, .int (nI n9)]) (rest := []) (st2 := []) (u1 := 0) (v1 := 0) (u2 := 0) (v2 := 0) (w) (⟨_, _, _, _, rfl, rfl⟩) oX9_lay q_916 q_918 q_56 rfl (by omega) (by decide) rfl (Nat.le_of_ble_eq_true rfl) 58 rfl dX11_shelf_55 rfl ?_
  refine a_eq (h2 := g_hp G (f_uR (f_un (f_ui (f_ui C 3 1) 6 y2) 12 n9) 6 f2) tl) rfl rfl rfl (rfl) ?_
  refine a_iconst (x := 1) 59 rfl dX11_shelf_58 (by decide) ?_
  exact a_ireturn .int rfl rfl (rfl) (rfl) dX11_shelf_59
theorem r_X11_keep0_bad (hq : f_qs G C) (hm : C.1 3 ≤ 8) (hi3 : ¬ vp_in y3 (C.1 3)) : g_Run G mX11_keep 5 0 0 [.ref (g_ad G 0), .int 0, .int y2, .int y3] (g_hp G C tl) (some (.int (-1))) (g_hp G C tl) := by
  refine g_Run.of (lv := [(0, .ref (g_ad G 0)), (1, .int 0), (2, .int y2), (3, .int y3)]) (by decide) (Nat.le_of_ble_eq_true rfl) rfl ?_
  refine a_aload_n 0 1 rfl dX11_keep_0 rfl rfl ?_
  refine a_iload_n 1 2 rfl dX11_keep_1 rfl rfl ?_
  refine a_callV (as := [.int 0]) (rest := []) (st2 := [.ref (g_ad G 23)]) (u1 := 0) (v1 := 0) (u2 := 0) (v2 := 0) (r_shelfAt0 hq) (⟨_, _, _, _, rfl, rfl⟩) oX11_shelfAt q_908 q_910 q_54 rfl (by omega) (by decide) rfl (Nat.le_of_ble_eq_true rfl) 5 rfl dX11_keep_2 rfl ?_
  refine a_astore (lv' := [(4, .ref (g_ad G 23)), (0, .ref (g_ad G 0)), (1, .int 0), (2, .int y2), (3, .int y3)]) 7 rfl dX11_keep_5 (by decide) rfl ?_
  refine a_aload_n 1 8 rfl dX11_keep_7 rfl rfl ?_
  refine a_get 2 cl_10 f_RX11_28_10 (by decide) (rfl) rfl 11 rfl dX11_keep_8 ?_
  refine a_iload_n 4 12 rfl dX11_keep_11 rfl rfl ?_
  refine a_callVN (as := [.int y3]) (rest := []) (st2 := [.null]) (u1 := 0) (v1 := 0) (u2 := 0) (v2 := 0) (r_at_out hm hi3) (⟨_, _, _, _, rfl, rfl⟩) oX4_at q_446 q_448 q_9 rfl (by omega) (by decide) rfl (Nat.le_of_ble_eq_true rfl) 15 rfl dX11_keep_12 rfl ?_
  refine a_astoreN (lv' := [(5, .null), (4, .ref (g_ad G 23)), (0, .ref (g_ad G 0)), (1, .int 0), (2, .int y2), (3, .int y3)]) 17 rfl dX11_keep_15 (by decide) rfl ?_
  refine a_aload 1 19 rfl dX11_keep_17 rfl ?_
  refine a_ifnull 22 rfl dX11_keep_19 ?_
  refine a_aloadN 0 24 rfl dX11_keep_22 rfl ?_
  refine a_ifnonnullN 27 rfl dX11_keep_24 ?_
  refine a_iconst (x := (-1)) 28 rfl dX11_keep_27 (by decide) ?_
  exact a_ireturn .int rfl rfl (rfl) (rfl) dX11_keep_28
theorem r_X11_keep0_miss (hq : f_qs G C) (hf : f_is G C tl j o T) (ht : C.2.1 3 = 0) : g_Run G mX11_keep 5 0 0 [.ref (g_ad G 0), .int 0, .int y2, .int (nI j)] (g_hp G C tl) (some (.int (-11))) (g_hp G C tl) := by
  refine g_Run.of (lv := [(0, .ref (g_ad G 0)), (1, .int 0), (2, .int y2), (3, .int (nI j))]) (by decide) (Nat.le_of_ble_eq_true rfl) rfl ?_
  refine a_aload_n 0 1 rfl dX11_keep_0 rfl rfl ?_
  refine a_iload_n 1 2 rfl dX11_keep_1 rfl rfl ?_
  refine a_callV (as := [.int 0]) (rest := []) (st2 := [.ref (g_ad G 23)]) (u1 := 0) (v1 := 0) (u2 := 0) (v2 := 0) (r_shelfAt0 hq) (⟨_, _, _, _, rfl, rfl⟩) oX11_shelfAt q_908 q_910 q_54 rfl (by omega) (by decide) rfl (Nat.le_of_ble_eq_true rfl) 5 rfl dX11_keep_2 rfl ?_
  refine a_astore (lv' := [(4, .ref (g_ad G 23)), (0, .ref (g_ad G 0)), (1, .int 0), (2, .int y2), (3, .int (nI j))]) 7 rfl dX11_keep_5 (by decide) rfl ?_
  refine a_aload_n 1 8 rfl dX11_keep_7 rfl rfl ?_
  refine a_get 2 cl_10 f_RX11_28_10 (by decide) (rfl) rfl 11 rfl dX11_keep_8 ?_
  refine a_iload_n 4 12 rfl dX11_keep_11 rfl rfl ?_
  refine a_callVN (as := [.int (nI j)]) (rest := []) (st2 := [.ref (g_ad G (38 + o))]) (u1 := 0) (v1 := 0) (u2 := 0) (v2 := 0) (r_at_in hf) (⟨_, _, _, _, rfl, rfl⟩) oX4_at q_446 q_448 q_9 rfl (by omega) (by decide) rfl (Nat.le_of_ble_eq_true rfl) 15 rfl dX11_keep_12 rfl ?_
  refine a_astore (lv' := [(5, .ref (g_ad G (38 + o))), (4, .ref (g_ad G 23)), (0, .ref (g_ad G 0)), (1, .int 0), (2, .int y2), (3, .int (nI j))]) 17 rfl dX11_keep_15 (by decide) rfl ?_
  refine a_aload 1 19 rfl dX11_keep_17 rfl ?_
  refine a_ifnull 22 rfl dX11_keep_19 ?_
  refine a_aload 0 24 rfl dX11_keep_22 rfl ?_
  refine a_ifnonnull 29 dX11_keep_24 (by decide) ?_
  refine a_aload 1 31 rfl dX11_keep_29 rfl ?_
  refine a_callVN (as := []) (rest := []) (st2 := [.int (if C.2.1 3 = 0 then 1 else 0)]) (u1 := 0) (v1 := 0) (u2 := 0) (v2 := 0) (r_X9_isMissing rfl) (⟨_, _, _, _, rfl, rfl⟩) oX9_isMissing q_924 q_926 q_57 rfl (by omega) (by decide) rfl (Nat.le_of_ble_eq_true rfl) 34 rfl dX11_keep_31 rfl ?_
  refine a_if_eq 40 37 rfl dX11_keep_34 (by decide) (fun hc => absurd hc ((by rw [if_pos ht]; decide))) (fun _ => ?_)
  refine a_bipush (x := (-11)) 39 rfl dX11_keep_37 (by decide) ?_
  exact a_ireturn .int rfl rfl (rfl) (rfl) dX11_keep_39
theorem r_X11_keep0_out (hq : f_qs G C) (hf : f_is G C tl j o T) (ht : ¬ C.2.1 3 = 0) (hp : C.1 12 ≤ 6) (hno : ∀ i9 n9 : Nat, y2 = nI i9 → (1 : Int32) = nI n9 → ¬ i9 + n9 ≤ C.1 12) : g_Run G mX11_keep 5 0 0 [.ref (g_ad G 0), .int 0, .int y2, .int (nI j)] (g_hp G C tl) (some (.int (-13))) (g_hp G C tl) := by
  refine g_Run.of (lv := [(0, .ref (g_ad G 0)), (1, .int 0), (2, .int y2), (3, .int (nI j))]) (by decide) (Nat.le_of_ble_eq_true rfl) rfl ?_
  refine a_aload_n 0 1 rfl dX11_keep_0 rfl rfl ?_
  refine a_iload_n 1 2 rfl dX11_keep_1 rfl rfl ?_
  refine a_callV (as := [.int 0]) (rest := []) (st2 := [.ref (g_ad G 23)]) (u1 := 0) (v1 := 0) (u2 := 0) (v2 := 0) (r_shelfAt0 hq) (⟨_, _, _, _, rfl, rfl⟩) oX11_shelfAt q_908 q_910 q_54 rfl (by omega) (by decide) rfl (Nat.le_of_ble_eq_true rfl) 5 rfl dX11_keep_2 rfl ?_
  refine a_astore (lv' := [(4, .ref (g_ad G 23)), (0, .ref (g_ad G 0)), (1, .int 0), (2, .int y2), (3, .int (nI j))]) 7 rfl dX11_keep_5 (by decide) rfl ?_
  refine a_aload_n 1 8 rfl dX11_keep_7 rfl rfl ?_
  refine a_get 2 cl_10 f_RX11_28_10 (by decide) (rfl) rfl 11 rfl dX11_keep_8 ?_
  refine a_iload_n 4 12 rfl dX11_keep_11 rfl rfl ?_
  refine a_callVN (as := [.int (nI j)]) (rest := []) (st2 := [.ref (g_ad G (38 + o))]) (u1 := 0) (v1 := 0) (u2 := 0) (v2 := 0) (r_at_in hf) (⟨_, _, _, _, rfl, rfl⟩) oX4_at q_446 q_448 q_9 rfl (by omega) (by decide) rfl (Nat.le_of_ble_eq_true rfl) 15 rfl dX11_keep_12 rfl ?_
  refine a_astore (lv' := [(5, .ref (g_ad G (38 + o))), (4, .ref (g_ad G 23)), (0, .ref (g_ad G 0)), (1, .int 0), (2, .int y2), (3, .int (nI j))]) 17 rfl dX11_keep_15 (by decide) rfl ?_
  refine a_aload 1 19 rfl dX11_keep_17 rfl ?_
  refine a_ifnull 22 rfl dX11_keep_19 ?_
  refine a_aload 0 24 rfl dX11_keep_22 rfl ?_
  refine a_ifnonnull 29 dX11_keep_24 (by decide) ?_
  refine a_aload 1 31 rfl dX11_keep_29 rfl ?_
  refine a_callVN (as := []) (rest := []) (st2 := [.int (if C.2.1 3 = 0 then 1 else 0)]) (u1 := 0) (v1 := 0) (u2 := 0) (v2 := 0) (r_X9_isMissing rfl) (⟨_, _, _, _, rfl, rfl⟩) oX9_isMissing q_924 q_926 q_57 rfl (by omega) (by decide) rfl (Nat.le_of_ble_eq_true rfl) 34 rfl dX11_keep_31 rfl ?_
  refine a_if_eq 40 37 rfl dX11_keep_34 (by decide) (fun _ => ?_) (fun hc => absurd ((by rw [if_neg ht])) hc)
  refine a_aload 1 42 rfl dX11_keep_40 rfl ?_
  refine a_iload_n 4 43 rfl dX11_keep_42 rfl rfl ?_
  refine a_iconst (x := 1) 44 rfl dX11_keep_43 (by decide) ?_
  refine a_callVN (as := [.int y2, .int 1]) (rest := []) (st2 := [.int 0]) (u1 := 0) (v1 := 0) (u2 := 0) (v2 := 0) (r_X9_hasPlaces_f rfl hp hno) (⟨_, _, _, _, rfl, rfl⟩) oX9_hasPlaces q_928 q_930 q_58 rfl (by omega) (by decide) rfl (Nat.le_of_ble_eq_true rfl) 47 rfl dX11_keep_44 rfl ?_
  refine a_if_ne 53 50 rfl dX11_keep_47 (by decide) (fun hc => absurd (rfl) hc) (fun _ => ?_)
  refine a_bipush (x := (-13)) 52 rfl dX11_keep_50 (by decide) ?_
  exact a_ireturn .int rfl rfl (rfl) (rfl) dX11_keep_52
theorem r_X11_keep0 {s9 i9 : Nat} (hq : f_qs G C) (hf : f_is G C tl j o T) (ht : ¬ C.2.1 3 = 0) (hp : C.1 12 ≤ 6) (hi : i9 < C.1 12) (hs : C.2.1 6 = nI s9) (hs3 : s9 < 3) : g_Run G mX11_keep 5 0 0 [.ref (g_ad G 0), .int 0, .int (nI i9), .int (nI j)] (g_hp G C tl) (some (.int (if f_may s9 T.1 then 1 else -12))) (g_hp G (if f_may s9 T.1 then f_uR C 6 (va_up (C.2.2.2.2.2 6) i9 (some (g_ad G (38 + o)))) else C) tl) := by
  have hS : (g_hp G C tl)[23]? = some (c_Sh G 24 25 (C.2.1 3) (nI s9) (C.1 12)) := by rw [← hs]; rfl
  have w := r_X9_place (G := G) (h := g_hp G C tl) (a := 23) (ka := 24) (r := some (g_ad G (38 + o))) (k := some T.1) hS rfl hs3 hp hi ⟨_, _, _, rfl, f_T_at hf.2.2.2.1, hf.2.2.2.2.1⟩
  have em : f_mayo s9 (some T.1) = f_may s9 T.1 := rfl
  rw [em] at w
  refine g_Run.of (lv := [(0, .ref (g_ad G 0)), (1, .int 0), (2, .int (nI i9)), (3, .int (nI j))]) (by decide) (Nat.le_of_ble_eq_true rfl) rfl ?_
  refine a_aload_n 0 1 rfl dX11_keep_0 rfl rfl ?_
  refine a_iload_n 1 2 rfl dX11_keep_1 rfl rfl ?_
  refine a_callV (as := [.int 0]) (rest := []) (st2 := [.ref (g_ad G 23)]) (u1 := 0) (v1 := 0) (u2 := 0) (v2 := 0) (r_shelfAt0 hq) (⟨_, _, _, _, rfl, rfl⟩) oX11_shelfAt q_908 q_910 q_54 rfl (by omega) (by decide) rfl (Nat.le_of_ble_eq_true rfl) 5 rfl dX11_keep_2 rfl ?_
  refine a_astore (lv' := [(4, .ref (g_ad G 23)), (0, .ref (g_ad G 0)), (1, .int 0), (2, .int (nI i9)), (3, .int (nI j))]) 7 rfl dX11_keep_5 (by decide) rfl ?_
  refine a_aload_n 1 8 rfl dX11_keep_7 rfl rfl ?_
  refine a_get 2 cl_10 f_RX11_28_10 (by decide) (rfl) rfl 11 rfl dX11_keep_8 ?_
  refine a_iload_n 4 12 rfl dX11_keep_11 rfl rfl ?_
  refine a_callVN (as := [.int (nI j)]) (rest := []) (st2 := [.ref (g_ad G (38 + o))]) (u1 := 0) (v1 := 0) (u2 := 0) (v2 := 0) (r_at_in hf) (⟨_, _, _, _, rfl, rfl⟩) oX4_at q_446 q_448 q_9 rfl (by omega) (by decide) rfl (Nat.le_of_ble_eq_true rfl) 15 rfl dX11_keep_12 rfl ?_
  refine a_astore (lv' := [(5, .ref (g_ad G (38 + o))), (4, .ref (g_ad G 23)), (0, .ref (g_ad G 0)), (1, .int 0), (2, .int (nI i9)), (3, .int (nI j))]) 17 rfl dX11_keep_15 (by decide) rfl ?_
  refine a_aload 1 19 rfl dX11_keep_17 rfl ?_
  refine a_ifnull 22 rfl dX11_keep_19 ?_
  refine a_aload 0 24 rfl dX11_keep_22 rfl ?_
  refine a_ifnonnull 29 dX11_keep_24 (by decide) ?_
  refine a_aload 1 31 rfl dX11_keep_29 rfl ?_
  refine a_callVN (as := []) (rest := []) (st2 := [.int (if C.2.1 3 = 0 then 1 else 0)]) (u1 := 0) (v1 := 0) (u2 := 0) (v2 := 0) (r_X9_isMissing rfl) (⟨_, _, _, _, rfl, rfl⟩) oX9_isMissing q_924 q_926 q_57 rfl (by omega) (by decide) rfl (Nat.le_of_ble_eq_true rfl) 34 rfl dX11_keep_31 rfl ?_
  refine a_if_eq 40 37 rfl dX11_keep_34 (by decide) (fun _ => ?_) (fun hc => absurd ((by rw [if_neg ht])) hc)
  refine a_aload 1 42 rfl dX11_keep_40 rfl ?_
  refine a_iload_n 4 43 rfl dX11_keep_42 rfl rfl ?_
  refine a_iconst (x := 1) 44 rfl dX11_keep_43 (by decide) ?_
  refine a_callVN (as := [.int (nI i9), .int 1]) (rest := []) (st2 := [.int 1]) (u1 := 0) (v1 := 0) (u2 := 0) (v2 := 0) (r_X9_hasPlaces_t (n9 := 1) rfl hp (by omega)) (⟨_, _, _, _, rfl, rfl⟩) oX9_hasPlaces q_928 q_930 q_58 rfl (by omega) (by decide) rfl (Nat.le_of_ble_eq_true rfl) 47 rfl dX11_keep_44 rfl ?_
  refine a_if_ne 53 50 rfl dX11_keep_47 (by decide) (fun _ => ?_) (fun hc => absurd hc ((by decide)))
  refine a_aload 1 55 rfl dX11_keep_53 rfl ?_
  refine a_iload_n 4 56 rfl dX11_keep_55 rfl rfl ?_
  refine a_aload 0 58 rfl dX11_keep_56 rfl ?_
  by_cases hm : f_may s9 T.1 = true
  · rw [if_pos hm, if_pos hm] at w
    rw [if_pos hm, if_pos hm]
    refine a_callVN (as := [.int (nI i9), .ref (g_ad G (38 + o))]) (rest := []) (st2 := [.int 1]) (u1 := 0) (v1 := 0) (u2 := 0) (v2 := 0) (w) (⟨_, _, _, _, rfl, rfl⟩) oX9_place q_932 q_934 q_59 rfl (by omega) (by decide) rfl (Nat.le_of_ble_eq_true rfl) 61 rfl dX11_keep_58 rfl ?_
    refine a_if_eq 68 64 rfl dX11_keep_61 (by decide) (fun hc => absurd hc ((by decide))) (fun _ => ?_)
    refine a_iconst (x := 1) 65 rfl dX11_keep_64 (by decide) ?_
    refine a_goto 70 dX11_keep_65 (by decide) ?_
    refine a_eq (h2 := g_hp G (f_uR C 6 (va_up (C.2.2.2.2.2 6) i9 (some (g_ad G (38 + o))))) tl) rfl rfl rfl (rfl) ?_
    exact a_ireturn .int rfl rfl (rfl) (rfl) dX11_keep_70
  · rw [if_neg hm, if_neg hm] at w
    rw [if_neg hm, if_neg hm]
    refine a_callVN (as := [.int (nI i9), .ref (g_ad G (38 + o))]) (rest := []) (st2 := [.int 0]) (u1 := 0) (v1 := 0) (u2 := 0) (v2 := 0) (w) (⟨_, _, _, _, rfl, rfl⟩) oX9_place q_932 q_934 q_59 rfl (by omega) (by decide) rfl (Nat.le_of_ble_eq_true rfl) 61 rfl dX11_keep_58 rfl ?_
    refine a_if_eq 68 64 rfl dX11_keep_61 (by decide) (fun _ => ?_) (fun hc => absurd (rfl) hc)
    refine a_bipush (x := (-12)) 70 rfl dX11_keep_68 (by decide) ?_
    exact a_ireturn .int rfl rfl (rfl) (rfl) dX11_keep_70
theorem r_X11_kept0_out (hq : f_qs G C) (hp : C.1 12 ≤ 6) (hi : ¬ vp_in y2 (C.1 12)) : g_Run G mX11_kept 4 0 0 [.ref (g_ad G 0), .int 0, .int y2] (g_hp G C tl) (some (.long (-9223372036854775808))) (g_hp G C tl) := by
  refine g_Run.of (lv := [(0, .ref (g_ad G 0)), (1, .int 0), (2, .int y2)]) (by decide) (Nat.le_of_ble_eq_true rfl) rfl ?_
  refine a_aload_n 0 1 rfl dX11_kept_0 rfl rfl ?_
  refine a_iload_n 1 2 rfl dX11_kept_1 rfl rfl ?_
  refine a_callV (as := [.int 0]) (rest := []) (st2 := [.ref (g_ad G 23)]) (u1 := 0) (v1 := 0) (u2 := 0) (v2 := 0) (r_shelfAt0 hq) (⟨_, _, _, _, rfl, rfl⟩) oX11_shelfAt q_908 q_910 q_54 rfl (by omega) (by decide) rfl (Nat.le_of_ble_eq_true rfl) 5 rfl dX11_kept_2 rfl ?_
  refine a_astore_n (lv' := [(3, .ref (g_ad G 23)), (0, .ref (g_ad G 0)), (1, .int 0), (2, .int y2)]) 6 rfl dX11_kept_5 rfl (by decide) rfl ?_
  refine a_aload_n 0 7 rfl dX11_kept_6 rfl rfl ?_
  refine a_ifnonnull 14 dX11_kept_7 (by decide) ?_
  refine a_aload_n 0 15 rfl dX11_kept_14 rfl rfl ?_
  refine a_iload_n 3 16 rfl dX11_kept_15 rfl rfl ?_
  refine a_callVN (as := [.int y2]) (rest := []) (st2 := [.null]) (u1 := 0) (v1 := 0) (u2 := 0) (v2 := 0) (r_X9_at_out rfl hp hi) (⟨_, _, _, _, rfl, rfl⟩) oX9_at q_951 q_953 q_62 rfl (by omega) (by decide) rfl (Nat.le_of_ble_eq_true rfl) 19 rfl dX11_kept_16 rfl ?_
  refine a_astoreN (lv' := [(4, .null), (3, .ref (g_ad G 23)), (0, .ref (g_ad G 0)), (1, .int 0), (2, .int y2)]) 21 rfl dX11_kept_19 (by decide) rfl ?_
  refine a_aloadN 0 23 rfl dX11_kept_21 rfl ?_
  refine a_ifnonnullN 26 rfl dX11_kept_23 ?_
  refine a_ldc2 q_466 29 rfl dX11_kept_26 ?_
  refine a_goto 41 dX11_kept_29 (by decide) ?_
  exact a_lreturn rfl (rfl) (rfl) dX11_kept_41
theorem r_X11_kept0_none (hq : f_qs G C) (hp : C.1 12 ≤ 6) (hj : j < C.1 12) (hr : C.2.2.2.2.2 6 j = none) : g_Run G mX11_kept 4 0 0 [.ref (g_ad G 0), .int 0, .int (nI j)] (g_hp G C tl) (some (.long (-9223372036854775808))) (g_hp G C tl) := by
  have w := r_X9_at_in (G := G) (h := g_hp G C tl) (a := 23) (ka := 24) rfl rfl hp hj
  rw [hr] at w
  refine g_Run.of (lv := [(0, .ref (g_ad G 0)), (1, .int 0), (2, .int (nI j))]) (by decide) (Nat.le_of_ble_eq_true rfl) rfl ?_
  refine a_aload_n 0 1 rfl dX11_kept_0 rfl rfl ?_
  refine a_iload_n 1 2 rfl dX11_kept_1 rfl rfl ?_
  refine a_callV (as := [.int 0]) (rest := []) (st2 := [.ref (g_ad G 23)]) (u1 := 0) (v1 := 0) (u2 := 0) (v2 := 0) (r_shelfAt0 hq) (⟨_, _, _, _, rfl, rfl⟩) oX11_shelfAt q_908 q_910 q_54 rfl (by omega) (by decide) rfl (Nat.le_of_ble_eq_true rfl) 5 rfl dX11_kept_2 rfl ?_
  refine a_astore_n (lv' := [(3, .ref (g_ad G 23)), (0, .ref (g_ad G 0)), (1, .int 0), (2, .int (nI j))]) 6 rfl dX11_kept_5 rfl (by decide) rfl ?_
  refine a_aload_n 0 7 rfl dX11_kept_6 rfl rfl ?_
  refine a_ifnonnull 14 dX11_kept_7 (by decide) ?_
  refine a_aload_n 0 15 rfl dX11_kept_14 rfl rfl ?_
  refine a_iload_n 3 16 rfl dX11_kept_15 rfl rfl ?_
  refine a_callVN (as := [.int (nI j)]) (rest := []) (st2 := [.null]) (u1 := 0) (v1 := 0) (u2 := 0) (v2 := 0) (w) (⟨_, _, _, _, rfl, rfl⟩) oX9_at q_951 q_953 q_62 rfl (by omega) (by decide) rfl (Nat.le_of_ble_eq_true rfl) 19 rfl dX11_kept_16 rfl ?_
  refine a_astoreN (lv' := [(4, .null), (3, .ref (g_ad G 23)), (0, .ref (g_ad G 0)), (1, .int 0), (2, .int (nI j))]) 21 rfl dX11_kept_19 (by decide) rfl ?_
  refine a_aloadN 0 23 rfl dX11_kept_21 rfl ?_
  refine a_ifnonnullN 26 rfl dX11_kept_23 ?_
  refine a_ldc2 q_466 29 rfl dX11_kept_26 ?_
  refine a_goto 41 dX11_kept_29 (by decide) ?_
  exact a_lreturn rfl (rfl) (rfl) dX11_kept_41
theorem r_X11_kept0 (hq : f_qs G C) (hn : C.1 0 ≤ 6) (hp : C.1 12 ≤ 6) (hj : j < C.1 12) (hr : C.2.2.2.2.2 6 j = some (g_ad G (38 + o))) (ht : tl[o]? = some (c_Fa T)) (hk : T.1 < 6) : g_Run G mX11_kept 4 0 0 [.ref (g_ad G 0), .int 0, .int (nI j)] (g_hp G C tl) (some (.long (f_so C T))) (g_hp G C tl) := by
  have w := r_X9_at_in (G := G) (h := g_hp G C tl) (a := 23) (ka := 24) rfl rfl hp hj
  rw [hr] at w
  have w2 := r_X3_setsOf (G := G) (h := g_hp G C tl) (a := 1) (ka := 2) (n := C.1 0) rfl (f_T_at ht) hn hk
  refine g_Run.of (lv := [(0, .ref (g_ad G 0)), (1, .int 0), (2, .int (nI j))]) (by decide) (Nat.le_of_ble_eq_true rfl) rfl ?_
  refine a_aload_n 0 1 rfl dX11_kept_0 rfl rfl ?_
  refine a_iload_n 1 2 rfl dX11_kept_1 rfl rfl ?_
  refine a_callV (as := [.int 0]) (rest := []) (st2 := [.ref (g_ad G 23)]) (u1 := 0) (v1 := 0) (u2 := 0) (v2 := 0) (r_shelfAt0 hq) (⟨_, _, _, _, rfl, rfl⟩) oX11_shelfAt q_908 q_910 q_54 rfl (by omega) (by decide) rfl (Nat.le_of_ble_eq_true rfl) 5 rfl dX11_kept_2 rfl ?_
  refine a_astore_n (lv' := [(3, .ref (g_ad G 23)), (0, .ref (g_ad G 0)), (1, .int 0), (2, .int (nI j))]) 6 rfl dX11_kept_5 rfl (by decide) rfl ?_
  refine a_aload_n 0 7 rfl dX11_kept_6 rfl rfl ?_
  refine a_ifnonnull 14 dX11_kept_7 (by decide) ?_
  refine a_aload_n 0 15 rfl dX11_kept_14 rfl rfl ?_
  refine a_iload_n 3 16 rfl dX11_kept_15 rfl rfl ?_
  refine a_callVN (as := [.int (nI j)]) (rest := []) (st2 := [.ref (g_ad G (38 + o))]) (u1 := 0) (v1 := 0) (u2 := 0) (v2 := 0) (w) (⟨_, _, _, _, rfl, rfl⟩) oX9_at q_951 q_953 q_62 rfl (by omega) (by decide) rfl (Nat.le_of_ble_eq_true rfl) 19 rfl dX11_kept_16 rfl ?_
  refine a_astore (lv' := [(4, .ref (g_ad G (38 + o))), (3, .ref (g_ad G 23)), (0, .ref (g_ad G 0)), (1, .int 0), (2, .int (nI j))]) 21 rfl dX11_kept_19 (by decide) rfl ?_
  refine a_aload 0 23 rfl dX11_kept_21 rfl ?_
  refine a_ifnonnull 32 dX11_kept_23 (by decide) ?_
  refine a_aload_n 2 33 rfl dX11_kept_32 rfl rfl ?_
  refine a_get 0 cl_10 f_RX11_12_10 (by decide) (rfl) rfl 36 rfl dX11_kept_33 ?_
  refine a_aload 0 38 rfl dX11_kept_36 rfl ?_
  refine a_callVN (as := [.ref (g_ad G (38 + o))]) (rest := []) (st2 := [.long (f_so C T)]) (u1 := 0) (v1 := 0) (u2 := 0) (v2 := 0) (w2) (⟨_, _, _, _, rfl, rfl⟩) oX3_setsOf q_467 q_469 q_13 rfl (by omega) (by decide) rfl (Nat.le_of_ble_eq_true rfl) 41 rfl dX11_kept_38 rfl ?_
  exact a_lreturn rfl (rfl) (rfl) dX11_kept_41

theorem r_X11_like_bad1_1 (hq : f_qs G C) (hi : ¬ vp_in y 3) : g_Run G mX11_like 3 0 0 [.ref (g_ad G 0), .int y, .int 1] (g_hp G C tl) (some (.int (-1))) (g_hp G C tl) := by
  refine g_Run.of (lv := [(0, .ref (g_ad G 0)), (1, .int y), (2, .int 1)]) (by decide) (Nat.le_of_ble_eq_true rfl) rfl ?_
  refine a_aload_n 0 1 rfl dX11_like_0 rfl rfl ?_
  refine a_iload_n 1 2 rfl dX11_like_1 rfl rfl ?_
  refine a_callV (as := [.int y]) (rest := []) (st2 := [.null]) (u1 := 0) (v1 := 0) (u2 := 0) (v2 := 0) (r_shelfAt_out hi) (⟨_, _, _, _, rfl, rfl⟩) oX11_shelfAt q_908 q_910 q_54 rfl (by omega) (by decide) rfl (Nat.le_of_ble_eq_true rfl) 5 rfl dX11_like_2 rfl ?_
  refine a_astore_nN (lv' := [(3, .null), (0, .ref (g_ad G 0)), (1, .int y), (2, .int 1)]) 6 rfl dX11_like_5 rfl (by decide) rfl ?_
  refine a_aload_n 1 7 rfl dX11_like_6 rfl rfl ?_
  refine a_iload_n 3 8 rfl dX11_like_7 rfl rfl ?_
  refine a_callV (as := [.int 1]) (rest := []) (st2 := [.ref (g_ad G 26)]) (u1 := 0) (v1 := 0) (u2 := 0) (v2 := 0) (r_shelfAt1 hq) (⟨_, _, _, _, rfl, rfl⟩) oX11_shelfAt q_908 q_910 q_54 rfl (by omega) (by decide) rfl (Nat.le_of_ble_eq_true rfl) 11 rfl dX11_like_8 rfl ?_
  refine a_astore (lv' := [(4, .ref (g_ad G 26)), (3, .null), (0, .ref (g_ad G 0)), (1, .int y), (2, .int 1)]) 13 rfl dX11_like_11 (by decide) rfl ?_
  refine a_aload_nN 1 14 rfl dX11_like_13 rfl rfl ?_
  refine a_ifnullN 28 dX11_like_14 (by decide) ?_
  refine a_iconst (x := (-1)) 29 rfl dX11_like_28 (by decide) ?_
  exact a_ireturn .int rfl rfl (rfl) (rfl) dX11_like_29
theorem r_X11_like_bad2_1 (hq : f_qs G C) (hi : ¬ vp_in y 3) : g_Run G mX11_like 3 0 0 [.ref (g_ad G 0), .int 1, .int y] (g_hp G C tl) (some (.int (-1))) (g_hp G C tl) := by
  refine g_Run.of (lv := [(0, .ref (g_ad G 0)), (1, .int 1), (2, .int y)]) (by decide) (Nat.le_of_ble_eq_true rfl) rfl ?_
  refine a_aload_n 0 1 rfl dX11_like_0 rfl rfl ?_
  refine a_iload_n 1 2 rfl dX11_like_1 rfl rfl ?_
  refine a_callV (as := [.int 1]) (rest := []) (st2 := [.ref (g_ad G 26)]) (u1 := 0) (v1 := 0) (u2 := 0) (v2 := 0) (r_shelfAt1 hq) (⟨_, _, _, _, rfl, rfl⟩) oX11_shelfAt q_908 q_910 q_54 rfl (by omega) (by decide) rfl (Nat.le_of_ble_eq_true rfl) 5 rfl dX11_like_2 rfl ?_
  refine a_astore_n (lv' := [(3, .ref (g_ad G 26)), (0, .ref (g_ad G 0)), (1, .int 1), (2, .int y)]) 6 rfl dX11_like_5 rfl (by decide) rfl ?_
  refine a_aload_n 1 7 rfl dX11_like_6 rfl rfl ?_
  refine a_iload_n 3 8 rfl dX11_like_7 rfl rfl ?_
  refine a_callV (as := [.int y]) (rest := []) (st2 := [.null]) (u1 := 0) (v1 := 0) (u2 := 0) (v2 := 0) (r_shelfAt_out hi) (⟨_, _, _, _, rfl, rfl⟩) oX11_shelfAt q_908 q_910 q_54 rfl (by omega) (by decide) rfl (Nat.le_of_ble_eq_true rfl) 11 rfl dX11_like_8 rfl ?_
  refine a_astoreN (lv' := [(4, .null), (3, .ref (g_ad G 26)), (0, .ref (g_ad G 0)), (1, .int 1), (2, .int y)]) 13 rfl dX11_like_11 (by decide) rfl ?_
  refine a_aload_n 1 14 rfl dX11_like_13 rfl rfl ?_
  refine a_ifnull 17 rfl dX11_like_14 ?_
  refine a_aloadN 0 19 rfl dX11_like_17 rfl ?_
  refine a_ifnullN 28 dX11_like_19 (by decide) ?_
  refine a_iconst (x := (-1)) 29 rfl dX11_like_28 (by decide) ?_
  exact a_ireturn .int rfl rfl (rfl) (rfl) dX11_like_29
theorem r_X11_like_same_1 (hq : f_qs G C) : g_Run G mX11_like 3 0 0 [.ref (g_ad G 0), .int 1, .int 1] (g_hp G C tl) (some (.int (-1))) (g_hp G C tl) := by
  refine g_Run.of (lv := [(0, .ref (g_ad G 0)), (1, .int 1), (2, .int 1)]) (by decide) (Nat.le_of_ble_eq_true rfl) rfl ?_
  refine a_aload_n 0 1 rfl dX11_like_0 rfl rfl ?_
  refine a_iload_n 1 2 rfl dX11_like_1 rfl rfl ?_
  refine a_callV (as := [.int 1]) (rest := []) (st2 := [.ref (g_ad G 26)]) (u1 := 0) (v1 := 0) (u2 := 0) (v2 := 0) (r_shelfAt1 hq) (⟨_, _, _, _, rfl, rfl⟩) oX11_shelfAt q_908 q_910 q_54 rfl (by omega) (by decide) rfl (Nat.le_of_ble_eq_true rfl) 5 rfl dX11_like_2 rfl ?_
  refine a_astore_n (lv' := [(3, .ref (g_ad G 26)), (0, .ref (g_ad G 0)), (1, .int 1), (2, .int 1)]) 6 rfl dX11_like_5 rfl (by decide) rfl ?_
  refine a_aload_n 1 7 rfl dX11_like_6 rfl rfl ?_
  refine a_iload_n 3 8 rfl dX11_like_7 rfl rfl ?_
  refine a_callV (as := [.int 1]) (rest := []) (st2 := [.ref (g_ad G 26)]) (u1 := 0) (v1 := 0) (u2 := 0) (v2 := 0) (r_shelfAt1 hq) (⟨_, _, _, _, rfl, rfl⟩) oX11_shelfAt q_908 q_910 q_54 rfl (by omega) (by decide) rfl (Nat.le_of_ble_eq_true rfl) 11 rfl dX11_like_8 rfl ?_
  refine a_astore (lv' := [(4, .ref (g_ad G 26)), (3, .ref (g_ad G 26)), (0, .ref (g_ad G 0)), (1, .int 1), (2, .int 1)]) 13 rfl dX11_like_11 (by decide) rfl ?_
  refine a_aload_n 1 14 rfl dX11_like_13 rfl rfl ?_
  refine a_ifnull 17 rfl dX11_like_14 ?_
  refine a_aload 0 19 rfl dX11_like_17 rfl ?_
  refine a_ifnull 22 rfl dX11_like_19 ?_
  refine a_aload_n 1 23 rfl dX11_like_22 rfl rfl ?_
  refine a_aload 0 25 rfl dX11_like_23 rfl ?_
  refine a_acmp_ne (rx := some (g_ad G 26)) (ry := some (g_ad G 26)) 30 28 rfl dX11_like_25 (by decide) (fun hc => absurd (rfl) hc) (fun _ => ?_)
  refine a_iconst (x := (-1)) 29 rfl dX11_like_28 (by decide) ?_
  exact a_ireturn .int rfl rfl (rfl) (rfl) dX11_like_29
theorem r_X11_shift_bad1_1 (hq : f_qs G C) (hi : ¬ vp_in y 3) : g_Run G mX11_shift 6 0 0 [.ref (g_ad G 0), .int y, .int y2, .int 1, .int y4, .int y5] (g_hp G C tl) (some (.int (-1))) (g_hp G C tl) := by
  refine g_Run.of (lv := [(0, .ref (g_ad G 0)), (1, .int y), (2, .int y2), (3, .int 1), (4, .int y4), (5, .int y5)]) (by decide) (Nat.le_of_ble_eq_true rfl) rfl ?_
  refine a_aload_n 0 1 rfl dX11_shift_0 rfl rfl ?_
  refine a_iload_n 1 2 rfl dX11_shift_1 rfl rfl ?_
  refine a_callV (as := [.int y]) (rest := []) (st2 := [.null]) (u1 := 0) (v1 := 0) (u2 := 0) (v2 := 0) (r_shelfAt_out hi) (⟨_, _, _, _, rfl, rfl⟩) oX11_shelfAt q_908 q_910 q_54 rfl (by omega) (by decide) rfl (Nat.le_of_ble_eq_true rfl) 5 rfl dX11_shift_2 rfl ?_
  refine a_astoreN (lv' := [(6, .null), (0, .ref (g_ad G 0)), (1, .int y), (2, .int y2), (3, .int 1), (4, .int y4), (5, .int y5)]) 7 rfl dX11_shift_5 (by decide) rfl ?_
  refine a_aload_n 1 8 rfl dX11_shift_7 rfl rfl ?_
  refine a_iload_n 4 9 rfl dX11_shift_8 rfl rfl ?_
  refine a_callV (as := [.int 1]) (rest := []) (st2 := [.ref (g_ad G 26)]) (u1 := 0) (v1 := 0) (u2 := 0) (v2 := 0) (r_shelfAt1 hq) (⟨_, _, _, _, rfl, rfl⟩) oX11_shelfAt q_908 q_910 q_54 rfl (by omega) (by decide) rfl (Nat.le_of_ble_eq_true rfl) 12 rfl dX11_shift_9 rfl ?_
  refine a_astore (lv' := [(7, .ref (g_ad G 26)), (6, .null), (0, .ref (g_ad G 0)), (1, .int y), (2, .int y2), (3, .int 1), (4, .int y4), (5, .int y5)]) 14 rfl dX11_shift_12 (by decide) rfl ?_
  refine a_aloadN 1 16 rfl dX11_shift_14 rfl ?_
  refine a_ifnullN 24 dX11_shift_16 (by decide) ?_
  refine a_iconst (x := (-1)) 25 rfl dX11_shift_24 (by decide) ?_
  exact a_ireturn .int rfl rfl (rfl) (rfl) dX11_shift_25
theorem r_X11_shift_bad2_1 (hq : f_qs G C) (hi : ¬ vp_in y 3) : g_Run G mX11_shift 6 0 0 [.ref (g_ad G 0), .int 1, .int y2, .int y, .int y4, .int y5] (g_hp G C tl) (some (.int (-1))) (g_hp G C tl) := by
  refine g_Run.of (lv := [(0, .ref (g_ad G 0)), (1, .int 1), (2, .int y2), (3, .int y), (4, .int y4), (5, .int y5)]) (by decide) (Nat.le_of_ble_eq_true rfl) rfl ?_
  refine a_aload_n 0 1 rfl dX11_shift_0 rfl rfl ?_
  refine a_iload_n 1 2 rfl dX11_shift_1 rfl rfl ?_
  refine a_callV (as := [.int 1]) (rest := []) (st2 := [.ref (g_ad G 26)]) (u1 := 0) (v1 := 0) (u2 := 0) (v2 := 0) (r_shelfAt1 hq) (⟨_, _, _, _, rfl, rfl⟩) oX11_shelfAt q_908 q_910 q_54 rfl (by omega) (by decide) rfl (Nat.le_of_ble_eq_true rfl) 5 rfl dX11_shift_2 rfl ?_
  refine a_astore (lv' := [(6, .ref (g_ad G 26)), (0, .ref (g_ad G 0)), (1, .int 1), (2, .int y2), (3, .int y), (4, .int y4), (5, .int y5)]) 7 rfl dX11_shift_5 (by decide) rfl ?_
  refine a_aload_n 1 8 rfl dX11_shift_7 rfl rfl ?_
  refine a_iload_n 4 9 rfl dX11_shift_8 rfl rfl ?_
  refine a_callV (as := [.int y]) (rest := []) (st2 := [.null]) (u1 := 0) (v1 := 0) (u2 := 0) (v2 := 0) (r_shelfAt_out hi) (⟨_, _, _, _, rfl, rfl⟩) oX11_shelfAt q_908 q_910 q_54 rfl (by omega) (by decide) rfl (Nat.le_of_ble_eq_true rfl) 12 rfl dX11_shift_9 rfl ?_
  refine a_astoreN (lv' := [(7, .null), (6, .ref (g_ad G 26)), (0, .ref (g_ad G 0)), (1, .int 1), (2, .int y2), (3, .int y), (4, .int y4), (5, .int y5)]) 14 rfl dX11_shift_12 (by decide) rfl ?_
  refine a_aload 1 16 rfl dX11_shift_14 rfl ?_
  refine a_ifnull 19 rfl dX11_shift_16 ?_
  refine a_aloadN 0 21 rfl dX11_shift_19 rfl ?_
  refine a_ifnonnullN 24 rfl dX11_shift_21 ?_
  refine a_iconst (x := (-1)) 25 rfl dX11_shift_24 (by decide) ?_
  exact a_ireturn .int rfl rfl (rfl) (rfl) dX11_shift_25
theorem r_X11_shelf1_out (hq : f_qs G C) (hy : y2 < -1 ∨ ¬ y2 < 3) : g_Run G mX11_shelf 2 0 0 [.ref (g_ad G 0), .int 1, .int y2, .int y3] (g_hp G C tl) (some (.int (-1))) (g_hp G C tl) := by
  refine g_Run.of (lv := [(0, .ref (g_ad G 0)), (1, .int 1), (2, .int y2), (3, .int y3)]) (by decide) (Nat.le_of_ble_eq_true rfl) rfl ?_
  refine a_aload_n 0 1 rfl dX11_shelf_0 rfl rfl ?_
  refine a_iload_n 1 2 rfl dX11_shelf_1 rfl rfl ?_
  refine a_callV (as := [.int 1]) (rest := []) (st2 := [.ref (g_ad G 26)]) (u1 := 0) (v1 := 0) (u2 := 0) (v2 := 0) (r_shelfAt1 hq) (⟨_, _, _, _, rfl, rfl⟩) oX11_shelfAt q_908 q_910 q_54 rfl (by omega) (by decide) rfl (Nat.le_of_ble_eq_true rfl) 5 rfl dX11_shelf_2 rfl ?_
  refine a_astore (lv' := [(4, .ref (g_ad G 26)), (0, .ref (g_ad G 0)), (1, .int 1), (2, .int y2), (3, .int y3)]) 7 rfl dX11_shelf_5 (by decide) rfl ?_
  refine a_aload 0 9 rfl dX11_shelf_7 rfl ?_
  refine a_ifnull 12 rfl dX11_shelf_9 ?_
  refine a_iload_n 3 13 rfl dX11_shelf_12 rfl rfl ?_
  refine a_iconst (x := (-1)) 14 rfl dX11_shelf_13 (by decide) ?_
  refine a_icmp_lt 22 17 rfl dX11_shelf_14 (by decide) (fun c14 => ?_) (fun c14 => ?_)
  refine a_iconst (x := (-1)) 23 rfl dX11_shelf_22 (by decide) ?_
  exact a_ireturn .int rfl rfl (rfl) (rfl) dX11_shelf_23
  refine a_iload_n 3 18 rfl dX11_shelf_17 rfl rfl ?_
  refine a_iconst (x := 3) 19 rfl dX11_shelf_18 (by decide) ?_
  refine a_icmp_lt 24 22 rfl dX11_shelf_19 (by decide) (fun hc => absurd hc ((hy.resolve_left c14))) (fun _ => ?_)
  refine a_iconst (x := (-1)) 23 rfl dX11_shelf_22 (by decide) ?_
  exact a_ireturn .int rfl rfl (rfl) (rfl) dX11_shelf_23
theorem r_X11_shelf1_rem (hq : f_qs G C) : g_Run G mX11_shelf 2 0 0 [.ref (g_ad G 0), .int 1, .int (-1), .int y3] (g_hp G C tl) (some (.int 1)) (g_hp G (f_un (f_ui C 4 0) 13 0) tl) := by
  refine g_Run.of (lv := [(0, .ref (g_ad G 0)), (1, .int 1), (2, .int ((-1))), (3, .int y3)]) (by decide) (Nat.le_of_ble_eq_true rfl) rfl ?_
  refine a_aload_n 0 1 rfl dX11_shelf_0 rfl rfl ?_
  refine a_iload_n 1 2 rfl dX11_shelf_1 rfl rfl ?_
  refine a_callV (as := [.int 1]) (rest := []) (st2 := [.ref (g_ad G 26)]) (u1 := 0) (v1 := 0) (u2 := 0) (v2 := 0) (r_shelfAt1 hq) (⟨_, _, _, _, rfl, rfl⟩) oX11_shelfAt q_908 q_910 q_54 rfl (by omega) (by decide) rfl (Nat.le_of_ble_eq_true rfl) 5 rfl dX11_shelf_2 rfl ?_
  refine a_astore (lv' := [(4, .ref (g_ad G 26)), (0, .ref (g_ad G 0)), (1, .int 1), (2, .int ((-1))), (3, .int y3)]) 7 rfl dX11_shelf_5 (by decide) rfl ?_
  refine a_aload 0 9 rfl dX11_shelf_7 rfl ?_
  refine a_ifnull 12 rfl dX11_shelf_9 ?_
  refine a_iload_n 3 13 rfl dX11_shelf_12 rfl rfl ?_
  refine a_iconst (x := (-1)) 14 rfl dX11_shelf_13 (by decide) ?_
  refine a_icmp_lt 22 17 rfl dX11_shelf_14 (by decide) (fun hc => absurd hc ((by decide))) (fun _ => ?_)
  refine a_iload_n 3 18 rfl dX11_shelf_17 rfl rfl ?_
  refine a_iconst (x := 3) 19 rfl dX11_shelf_18 (by decide) ?_
  refine a_icmp_lt 24 22 rfl dX11_shelf_19 (by decide) (fun _ => ?_) (fun hc => absurd ((by decide)) hc)
  refine a_iload_n 3 25 rfl dX11_shelf_24 rfl rfl ?_
  refine a_iconst (x := (-1)) 26 rfl dX11_shelf_25 (by decide) ?_
  refine a_icmp_ne 36 29 rfl dX11_shelf_26 (by decide) (fun hc => absurd (rfl) hc) (fun _ => ?_)
  refine a_aload 0 31 rfl dX11_shelf_29 rfl ?_
  refine a_callVN (as := []) (rest := []) (st2 := []) (u1 := 0) (v1 := 0) (u2 := 0) (v2 := 0) (r_X9_remove rfl) (⟨_, _, _, _, rfl, rfl⟩) oX9_remove q_912 q_914 q_55 rfl (by omega) (by decide) rfl (Nat.le_of_ble_eq_true rfl) 34 rfl dX11_shelf_31 rfl ?_
  refine a_eq (h2 := g_hp G (f_un (f_ui C 4 0) 13 0) tl) rfl rfl rfl (rfl) ?_
  refine a_iconst (x := 1) 35 rfl dX11_shelf_34 (by decide) ?_
  exact a_ireturn .int rfl rfl (rfl) (rfl) dX11_shelf_35
theorem r_X11_shelf1_much (hq : f_qs G C) (h1 : ¬ y2 < -1) (h2 : y2 < 3) (h3 : ¬ y2 = -1) (h4 : ¬ y3 ≤ 6) : g_Run G mX11_shelf 2 0 0 [.ref (g_ad G 0), .int 1, .int y2, .int y3] (g_hp G C tl) (some (.int (-1))) (g_hp G C tl) := by
  refine g_Run.of (lv := [(0, .ref (g_ad G 0)), (1, .int 1), (2, .int y2), (3, .int y3)]) (by decide) (Nat.le_of_ble_eq_true rfl) rfl ?_
  refine a_aload_n 0 1 rfl dX11_shelf_0 rfl rfl ?_
  refine a_iload_n 1 2 rfl dX11_shelf_1 rfl rfl ?_
  refine a_callV (as := [.int 1]) (rest := []) (st2 := [.ref (g_ad G 26)]) (u1 := 0) (v1 := 0) (u2 := 0) (v2 := 0) (r_shelfAt1 hq) (⟨_, _, _, _, rfl, rfl⟩) oX11_shelfAt q_908 q_910 q_54 rfl (by omega) (by decide) rfl (Nat.le_of_ble_eq_true rfl) 5 rfl dX11_shelf_2 rfl ?_
  refine a_astore (lv' := [(4, .ref (g_ad G 26)), (0, .ref (g_ad G 0)), (1, .int 1), (2, .int y2), (3, .int y3)]) 7 rfl dX11_shelf_5 (by decide) rfl ?_
  refine a_aload 0 9 rfl dX11_shelf_7 rfl ?_
  refine a_ifnull 12 rfl dX11_shelf_9 ?_
  refine a_iload_n 3 13 rfl dX11_shelf_12 rfl rfl ?_
  refine a_iconst (x := (-1)) 14 rfl dX11_shelf_13 (by decide) ?_
  refine a_icmp_lt 22 17 rfl dX11_shelf_14 (by decide) (fun hc => absurd hc (h1)) (fun _ => ?_)
  refine a_iload_n 3 18 rfl dX11_shelf_17 rfl rfl ?_
  refine a_iconst (x := 3) 19 rfl dX11_shelf_18 (by decide) ?_
  refine a_icmp_lt 24 22 rfl dX11_shelf_19 (by decide) (fun _ => ?_) (fun hc => absurd (h2) hc)
  refine a_iload_n 3 25 rfl dX11_shelf_24 rfl rfl ?_
  refine a_iconst (x := (-1)) 26 rfl dX11_shelf_25 (by decide) ?_
  refine a_icmp_ne 36 29 rfl dX11_shelf_26 (by decide) (fun _ => ?_) (fun hc => absurd hc (h3))
  refine a_iload_n 4 37 rfl dX11_shelf_36 rfl rfl ?_
  refine a_bipush (x := 6) 39 rfl dX11_shelf_37 (by decide) ?_
  refine a_icmp_le 44 42 rfl dX11_shelf_39 (by decide) (fun hc => absurd hc (h4)) (fun _ => ?_)
  refine a_iconst (x := (-1)) 43 rfl dX11_shelf_42 (by decide) ?_
  exact a_ireturn .int rfl rfl (rfl) (rfl) dX11_shelf_43
theorem r_X11_shelf1_few (hq : f_qs G C) (h1 : ¬ y2 < -1) (h2 : y2 < 3) (h3 : ¬ y2 = -1) (h4 : y3 ≤ 6) (h5 : ¬ 0 ≤ y3) : g_Run G mX11_shelf 2 0 0 [.ref (g_ad G 0), .int 1, .int y2, .int y3] (g_hp G C tl) (some (.int (-14))) (g_hp G C tl) := by
  refine g_Run.of (lv := [(0, .ref (g_ad G 0)), (1, .int 1), (2, .int y2), (3, .int y3)]) (by decide) (Nat.le_of_ble_eq_true rfl) rfl ?_
  refine a_aload_n 0 1 rfl dX11_shelf_0 rfl rfl ?_
  refine a_iload_n 1 2 rfl dX11_shelf_1 rfl rfl ?_
  refine a_callV (as := [.int 1]) (rest := []) (st2 := [.ref (g_ad G 26)]) (u1 := 0) (v1 := 0) (u2 := 0) (v2 := 0) (r_shelfAt1 hq) (⟨_, _, _, _, rfl, rfl⟩) oX11_shelfAt q_908 q_910 q_54 rfl (by omega) (by decide) rfl (Nat.le_of_ble_eq_true rfl) 5 rfl dX11_shelf_2 rfl ?_
  refine a_astore (lv' := [(4, .ref (g_ad G 26)), (0, .ref (g_ad G 0)), (1, .int 1), (2, .int y2), (3, .int y3)]) 7 rfl dX11_shelf_5 (by decide) rfl ?_
  refine a_aload 0 9 rfl dX11_shelf_7 rfl ?_
  refine a_ifnull 12 rfl dX11_shelf_9 ?_
  refine a_iload_n 3 13 rfl dX11_shelf_12 rfl rfl ?_
  refine a_iconst (x := (-1)) 14 rfl dX11_shelf_13 (by decide) ?_
  refine a_icmp_lt 22 17 rfl dX11_shelf_14 (by decide) (fun hc => absurd hc (h1)) (fun _ => ?_)
  refine a_iload_n 3 18 rfl dX11_shelf_17 rfl rfl ?_
  refine a_iconst (x := 3) 19 rfl dX11_shelf_18 (by decide) ?_
  refine a_icmp_lt 24 22 rfl dX11_shelf_19 (by decide) (fun _ => ?_) (fun hc => absurd (h2) hc)
  refine a_iload_n 3 25 rfl dX11_shelf_24 rfl rfl ?_
  refine a_iconst (x := (-1)) 26 rfl dX11_shelf_25 (by decide) ?_
  refine a_icmp_ne 36 29 rfl dX11_shelf_26 (by decide) (fun _ => ?_) (fun hc => absurd hc (h3))
  refine a_iload_n 4 37 rfl dX11_shelf_36 rfl rfl ?_
  refine a_bipush (x := 6) 39 rfl dX11_shelf_37 (by decide) ?_
  refine a_icmp_le 44 42 rfl dX11_shelf_39 (by decide) (fun _ => ?_) (fun hc => absurd (h4) hc)
  refine a_iload_n 4 45 rfl dX11_shelf_44 rfl rfl ?_
  refine a_if_ge 51 48 rfl dX11_shelf_45 (by decide) (fun hc => absurd hc (h5)) (fun _ => ?_)
  refine a_bipush (x := (-14)) 50 rfl dX11_shelf_48 (by decide) ?_
  exact a_ireturn .int rfl rfl (rfl) (rfl) dX11_shelf_50
theorem r_X11_shelf1 {n9 : Nat} (hq : f_qs G C) (h1 : ¬ y2 < -1) (h2 : y2 < 3) (h3 : ¬ y2 = -1) (h4 : n9 ≤ 6) : ∃ f2 : Nat → Option Nat, (∀ j, j < 6 → f2 j = none) ∧ g_Run G mX11_shelf 2 0 0 [.ref (g_ad G 0), .int 1, .int y2, .int (nI n9)] (g_hp G C tl) (some (.int 1)) (g_hp G (f_uR (f_un (f_ui (f_ui C 4 1) 7 y2) 13 n9) 7 f2) tl) := by
  obtain ⟨f2, hz, w⟩ := r_X9_lay (G := G) (h := g_hp G C tl) (a := 26) (y3 := y2) (p8 := n9) rfl rfl (by decide)
  refine ⟨f2, hz, ?_⟩
  refine g_Run.of (lv := [(0, .ref (g_ad G 0)), (1, .int 1), (2, .int y2), (3, .int (nI n9))]) (by decide) (Nat.le_of_ble_eq_true rfl) rfl ?_
  refine a_aload_n 0 1 rfl dX11_shelf_0 rfl rfl ?_
  refine a_iload_n 1 2 rfl dX11_shelf_1 rfl rfl ?_
  refine a_callV (as := [.int 1]) (rest := []) (st2 := [.ref (g_ad G 26)]) (u1 := 0) (v1 := 0) (u2 := 0) (v2 := 0) (r_shelfAt1 hq) (⟨_, _, _, _, rfl, rfl⟩) oX11_shelfAt q_908 q_910 q_54 rfl (by omega) (by decide) rfl (Nat.le_of_ble_eq_true rfl) 5 rfl dX11_shelf_2 rfl ?_
  refine a_astore (lv' := [(4, .ref (g_ad G 26)), (0, .ref (g_ad G 0)), (1, .int 1), (2, .int y2), (3, .int (nI n9))]) 7 rfl dX11_shelf_5 (by decide) rfl ?_
  refine a_aload 0 9 rfl dX11_shelf_7 rfl ?_
  refine a_ifnull 12 rfl dX11_shelf_9 ?_
  refine a_iload_n 3 13 rfl dX11_shelf_12 rfl rfl ?_
  refine a_iconst (x := (-1)) 14 rfl dX11_shelf_13 (by decide) ?_
  refine a_icmp_lt 22 17 rfl dX11_shelf_14 (by decide) (fun hc => absurd hc (h1)) (fun _ => ?_)
  refine a_iload_n 3 18 rfl dX11_shelf_17 rfl rfl ?_
  refine a_iconst (x := 3) 19 rfl dX11_shelf_18 (by decide) ?_
  refine a_icmp_lt 24 22 rfl dX11_shelf_19 (by decide) (fun _ => ?_) (fun hc => absurd (h2) hc)
  refine a_iload_n 3 25 rfl dX11_shelf_24 rfl rfl ?_
  refine a_iconst (x := (-1)) 26 rfl dX11_shelf_25 (by decide) ?_
  refine a_icmp_ne 36 29 rfl dX11_shelf_26 (by decide) (fun _ => ?_) (fun hc => absurd hc (h3))
  refine a_iload_n 4 37 rfl dX11_shelf_36 rfl rfl ?_
  refine a_bipush (x := 6) 39 rfl dX11_shelf_37 (by decide) ?_
  refine a_icmp_le 44 42 rfl dX11_shelf_39 (by decide) (fun _ => ?_) (fun hc => absurd ((nI_le (b := 6) h4 (by omega))) hc)
  refine a_iload_n 4 45 rfl dX11_shelf_44 rfl rfl ?_
  refine a_if_ge 51 48 rfl dX11_shelf_45 (by decide) (fun _ => ?_) (fun hc => absurd (nI_pos' (by omega)) hc)
  refine a_aload 0 53 rfl dX11_shelf_51 rfl ?_
  refine a_iload_n 3 54 rfl dX11_shelf_53 rfl rfl ?_
  refine a_iload_n 4 55 rfl dX11_shelf_54 rfl rfl ?_
  refine a_callVN (as := [.int y2, .int (nI n9)]) (rest := []) (st2 := []) (u1 := 0) (v1 := 0) (u2 := 0) (v2 := 0) (w) (⟨_, _, _, _, rfl, rfl⟩) oX9_lay q_916 q_918 q_56 rfl (by omega) (by decide) rfl (Nat.le_of_ble_eq_true rfl) 58 rfl dX11_shelf_55 rfl ?_
  refine a_eq (h2 := g_hp G (f_uR (f_un (f_ui (f_ui C 4 1) 7 y2) 13 n9) 7 f2) tl) rfl rfl rfl (rfl) ?_
  refine a_iconst (x := 1) 59 rfl dX11_shelf_58 (by decide) ?_
  exact a_ireturn .int rfl rfl (rfl) (rfl) dX11_shelf_59
theorem r_X11_keep1_bad (hq : f_qs G C) (hm : C.1 3 ≤ 8) (hi3 : ¬ vp_in y3 (C.1 3)) : g_Run G mX11_keep 5 0 0 [.ref (g_ad G 0), .int 1, .int y2, .int y3] (g_hp G C tl) (some (.int (-1))) (g_hp G C tl) := by
  refine g_Run.of (lv := [(0, .ref (g_ad G 0)), (1, .int 1), (2, .int y2), (3, .int y3)]) (by decide) (Nat.le_of_ble_eq_true rfl) rfl ?_
  refine a_aload_n 0 1 rfl dX11_keep_0 rfl rfl ?_
  refine a_iload_n 1 2 rfl dX11_keep_1 rfl rfl ?_
  refine a_callV (as := [.int 1]) (rest := []) (st2 := [.ref (g_ad G 26)]) (u1 := 0) (v1 := 0) (u2 := 0) (v2 := 0) (r_shelfAt1 hq) (⟨_, _, _, _, rfl, rfl⟩) oX11_shelfAt q_908 q_910 q_54 rfl (by omega) (by decide) rfl (Nat.le_of_ble_eq_true rfl) 5 rfl dX11_keep_2 rfl ?_
  refine a_astore (lv' := [(4, .ref (g_ad G 26)), (0, .ref (g_ad G 0)), (1, .int 1), (2, .int y2), (3, .int y3)]) 7 rfl dX11_keep_5 (by decide) rfl ?_
  refine a_aload_n 1 8 rfl dX11_keep_7 rfl rfl ?_
  refine a_get 2 cl_10 f_RX11_28_10 (by decide) (rfl) rfl 11 rfl dX11_keep_8 ?_
  refine a_iload_n 4 12 rfl dX11_keep_11 rfl rfl ?_
  refine a_callVN (as := [.int y3]) (rest := []) (st2 := [.null]) (u1 := 0) (v1 := 0) (u2 := 0) (v2 := 0) (r_at_out hm hi3) (⟨_, _, _, _, rfl, rfl⟩) oX4_at q_446 q_448 q_9 rfl (by omega) (by decide) rfl (Nat.le_of_ble_eq_true rfl) 15 rfl dX11_keep_12 rfl ?_
  refine a_astoreN (lv' := [(5, .null), (4, .ref (g_ad G 26)), (0, .ref (g_ad G 0)), (1, .int 1), (2, .int y2), (3, .int y3)]) 17 rfl dX11_keep_15 (by decide) rfl ?_
  refine a_aload 1 19 rfl dX11_keep_17 rfl ?_
  refine a_ifnull 22 rfl dX11_keep_19 ?_
  refine a_aloadN 0 24 rfl dX11_keep_22 rfl ?_
  refine a_ifnonnullN 27 rfl dX11_keep_24 ?_
  refine a_iconst (x := (-1)) 28 rfl dX11_keep_27 (by decide) ?_
  exact a_ireturn .int rfl rfl (rfl) (rfl) dX11_keep_28
theorem r_X11_keep1_miss (hq : f_qs G C) (hf : f_is G C tl j o T) (ht : C.2.1 4 = 0) : g_Run G mX11_keep 5 0 0 [.ref (g_ad G 0), .int 1, .int y2, .int (nI j)] (g_hp G C tl) (some (.int (-11))) (g_hp G C tl) := by
  refine g_Run.of (lv := [(0, .ref (g_ad G 0)), (1, .int 1), (2, .int y2), (3, .int (nI j))]) (by decide) (Nat.le_of_ble_eq_true rfl) rfl ?_
  refine a_aload_n 0 1 rfl dX11_keep_0 rfl rfl ?_
  refine a_iload_n 1 2 rfl dX11_keep_1 rfl rfl ?_
  refine a_callV (as := [.int 1]) (rest := []) (st2 := [.ref (g_ad G 26)]) (u1 := 0) (v1 := 0) (u2 := 0) (v2 := 0) (r_shelfAt1 hq) (⟨_, _, _, _, rfl, rfl⟩) oX11_shelfAt q_908 q_910 q_54 rfl (by omega) (by decide) rfl (Nat.le_of_ble_eq_true rfl) 5 rfl dX11_keep_2 rfl ?_
  refine a_astore (lv' := [(4, .ref (g_ad G 26)), (0, .ref (g_ad G 0)), (1, .int 1), (2, .int y2), (3, .int (nI j))]) 7 rfl dX11_keep_5 (by decide) rfl ?_
  refine a_aload_n 1 8 rfl dX11_keep_7 rfl rfl ?_
  refine a_get 2 cl_10 f_RX11_28_10 (by decide) (rfl) rfl 11 rfl dX11_keep_8 ?_
  refine a_iload_n 4 12 rfl dX11_keep_11 rfl rfl ?_
  refine a_callVN (as := [.int (nI j)]) (rest := []) (st2 := [.ref (g_ad G (38 + o))]) (u1 := 0) (v1 := 0) (u2 := 0) (v2 := 0) (r_at_in hf) (⟨_, _, _, _, rfl, rfl⟩) oX4_at q_446 q_448 q_9 rfl (by omega) (by decide) rfl (Nat.le_of_ble_eq_true rfl) 15 rfl dX11_keep_12 rfl ?_
  refine a_astore (lv' := [(5, .ref (g_ad G (38 + o))), (4, .ref (g_ad G 26)), (0, .ref (g_ad G 0)), (1, .int 1), (2, .int y2), (3, .int (nI j))]) 17 rfl dX11_keep_15 (by decide) rfl ?_
  refine a_aload 1 19 rfl dX11_keep_17 rfl ?_
  refine a_ifnull 22 rfl dX11_keep_19 ?_
  refine a_aload 0 24 rfl dX11_keep_22 rfl ?_
  refine a_ifnonnull 29 dX11_keep_24 (by decide) ?_
  refine a_aload 1 31 rfl dX11_keep_29 rfl ?_
  refine a_callVN (as := []) (rest := []) (st2 := [.int (if C.2.1 4 = 0 then 1 else 0)]) (u1 := 0) (v1 := 0) (u2 := 0) (v2 := 0) (r_X9_isMissing rfl) (⟨_, _, _, _, rfl, rfl⟩) oX9_isMissing q_924 q_926 q_57 rfl (by omega) (by decide) rfl (Nat.le_of_ble_eq_true rfl) 34 rfl dX11_keep_31 rfl ?_
  refine a_if_eq 40 37 rfl dX11_keep_34 (by decide) (fun hc => absurd hc ((by rw [if_pos ht]; decide))) (fun _ => ?_)
  refine a_bipush (x := (-11)) 39 rfl dX11_keep_37 (by decide) ?_
  exact a_ireturn .int rfl rfl (rfl) (rfl) dX11_keep_39
theorem r_X11_keep1_out (hq : f_qs G C) (hf : f_is G C tl j o T) (ht : ¬ C.2.1 4 = 0) (hp : C.1 13 ≤ 6) (hno : ∀ i9 n9 : Nat, y2 = nI i9 → (1 : Int32) = nI n9 → ¬ i9 + n9 ≤ C.1 13) : g_Run G mX11_keep 5 0 0 [.ref (g_ad G 0), .int 1, .int y2, .int (nI j)] (g_hp G C tl) (some (.int (-13))) (g_hp G C tl) := by
  refine g_Run.of (lv := [(0, .ref (g_ad G 0)), (1, .int 1), (2, .int y2), (3, .int (nI j))]) (by decide) (Nat.le_of_ble_eq_true rfl) rfl ?_
  refine a_aload_n 0 1 rfl dX11_keep_0 rfl rfl ?_
  refine a_iload_n 1 2 rfl dX11_keep_1 rfl rfl ?_
  refine a_callV (as := [.int 1]) (rest := []) (st2 := [.ref (g_ad G 26)]) (u1 := 0) (v1 := 0) (u2 := 0) (v2 := 0) (r_shelfAt1 hq) (⟨_, _, _, _, rfl, rfl⟩) oX11_shelfAt q_908 q_910 q_54 rfl (by omega) (by decide) rfl (Nat.le_of_ble_eq_true rfl) 5 rfl dX11_keep_2 rfl ?_
  refine a_astore (lv' := [(4, .ref (g_ad G 26)), (0, .ref (g_ad G 0)), (1, .int 1), (2, .int y2), (3, .int (nI j))]) 7 rfl dX11_keep_5 (by decide) rfl ?_
  refine a_aload_n 1 8 rfl dX11_keep_7 rfl rfl ?_
  refine a_get 2 cl_10 f_RX11_28_10 (by decide) (rfl) rfl 11 rfl dX11_keep_8 ?_
  refine a_iload_n 4 12 rfl dX11_keep_11 rfl rfl ?_
  refine a_callVN (as := [.int (nI j)]) (rest := []) (st2 := [.ref (g_ad G (38 + o))]) (u1 := 0) (v1 := 0) (u2 := 0) (v2 := 0) (r_at_in hf) (⟨_, _, _, _, rfl, rfl⟩) oX4_at q_446 q_448 q_9 rfl (by omega) (by decide) rfl (Nat.le_of_ble_eq_true rfl) 15 rfl dX11_keep_12 rfl ?_
  refine a_astore (lv' := [(5, .ref (g_ad G (38 + o))), (4, .ref (g_ad G 26)), (0, .ref (g_ad G 0)), (1, .int 1), (2, .int y2), (3, .int (nI j))]) 17 rfl dX11_keep_15 (by decide) rfl ?_
  refine a_aload 1 19 rfl dX11_keep_17 rfl ?_
  refine a_ifnull 22 rfl dX11_keep_19 ?_
  refine a_aload 0 24 rfl dX11_keep_22 rfl ?_
  refine a_ifnonnull 29 dX11_keep_24 (by decide) ?_
  refine a_aload 1 31 rfl dX11_keep_29 rfl ?_
  refine a_callVN (as := []) (rest := []) (st2 := [.int (if C.2.1 4 = 0 then 1 else 0)]) (u1 := 0) (v1 := 0) (u2 := 0) (v2 := 0) (r_X9_isMissing rfl) (⟨_, _, _, _, rfl, rfl⟩) oX9_isMissing q_924 q_926 q_57 rfl (by omega) (by decide) rfl (Nat.le_of_ble_eq_true rfl) 34 rfl dX11_keep_31 rfl ?_
  refine a_if_eq 40 37 rfl dX11_keep_34 (by decide) (fun _ => ?_) (fun hc => absurd ((by rw [if_neg ht])) hc)
  refine a_aload 1 42 rfl dX11_keep_40 rfl ?_
  refine a_iload_n 4 43 rfl dX11_keep_42 rfl rfl ?_
  refine a_iconst (x := 1) 44 rfl dX11_keep_43 (by decide) ?_
  refine a_callVN (as := [.int y2, .int 1]) (rest := []) (st2 := [.int 0]) (u1 := 0) (v1 := 0) (u2 := 0) (v2 := 0) (r_X9_hasPlaces_f rfl hp hno) (⟨_, _, _, _, rfl, rfl⟩) oX9_hasPlaces q_928 q_930 q_58 rfl (by omega) (by decide) rfl (Nat.le_of_ble_eq_true rfl) 47 rfl dX11_keep_44 rfl ?_
  refine a_if_ne 53 50 rfl dX11_keep_47 (by decide) (fun hc => absurd (rfl) hc) (fun _ => ?_)
  refine a_bipush (x := (-13)) 52 rfl dX11_keep_50 (by decide) ?_
  exact a_ireturn .int rfl rfl (rfl) (rfl) dX11_keep_52
theorem r_X11_keep1 {s9 i9 : Nat} (hq : f_qs G C) (hf : f_is G C tl j o T) (ht : ¬ C.2.1 4 = 0) (hp : C.1 13 ≤ 6) (hi : i9 < C.1 13) (hs : C.2.1 7 = nI s9) (hs3 : s9 < 3) : g_Run G mX11_keep 5 0 0 [.ref (g_ad G 0), .int 1, .int (nI i9), .int (nI j)] (g_hp G C tl) (some (.int (if f_may s9 T.1 then 1 else -12))) (g_hp G (if f_may s9 T.1 then f_uR C 7 (va_up (C.2.2.2.2.2 7) i9 (some (g_ad G (38 + o)))) else C) tl) := by
  have hS : (g_hp G C tl)[26]? = some (c_Sh G 27 28 (C.2.1 4) (nI s9) (C.1 13)) := by rw [← hs]; rfl
  have w := r_X9_place (G := G) (h := g_hp G C tl) (a := 26) (ka := 27) (r := some (g_ad G (38 + o))) (k := some T.1) hS rfl hs3 hp hi ⟨_, _, _, rfl, f_T_at hf.2.2.2.1, hf.2.2.2.2.1⟩
  have em : f_mayo s9 (some T.1) = f_may s9 T.1 := rfl
  rw [em] at w
  refine g_Run.of (lv := [(0, .ref (g_ad G 0)), (1, .int 1), (2, .int (nI i9)), (3, .int (nI j))]) (by decide) (Nat.le_of_ble_eq_true rfl) rfl ?_
  refine a_aload_n 0 1 rfl dX11_keep_0 rfl rfl ?_
  refine a_iload_n 1 2 rfl dX11_keep_1 rfl rfl ?_
  refine a_callV (as := [.int 1]) (rest := []) (st2 := [.ref (g_ad G 26)]) (u1 := 0) (v1 := 0) (u2 := 0) (v2 := 0) (r_shelfAt1 hq) (⟨_, _, _, _, rfl, rfl⟩) oX11_shelfAt q_908 q_910 q_54 rfl (by omega) (by decide) rfl (Nat.le_of_ble_eq_true rfl) 5 rfl dX11_keep_2 rfl ?_
  refine a_astore (lv' := [(4, .ref (g_ad G 26)), (0, .ref (g_ad G 0)), (1, .int 1), (2, .int (nI i9)), (3, .int (nI j))]) 7 rfl dX11_keep_5 (by decide) rfl ?_
  refine a_aload_n 1 8 rfl dX11_keep_7 rfl rfl ?_
  refine a_get 2 cl_10 f_RX11_28_10 (by decide) (rfl) rfl 11 rfl dX11_keep_8 ?_
  refine a_iload_n 4 12 rfl dX11_keep_11 rfl rfl ?_
  refine a_callVN (as := [.int (nI j)]) (rest := []) (st2 := [.ref (g_ad G (38 + o))]) (u1 := 0) (v1 := 0) (u2 := 0) (v2 := 0) (r_at_in hf) (⟨_, _, _, _, rfl, rfl⟩) oX4_at q_446 q_448 q_9 rfl (by omega) (by decide) rfl (Nat.le_of_ble_eq_true rfl) 15 rfl dX11_keep_12 rfl ?_
  refine a_astore (lv' := [(5, .ref (g_ad G (38 + o))), (4, .ref (g_ad G 26)), (0, .ref (g_ad G 0)), (1, .int 1), (2, .int (nI i9)), (3, .int (nI j))]) 17 rfl dX11_keep_15 (by decide) rfl ?_
  refine a_aload 1 19 rfl dX11_keep_17 rfl ?_
  refine a_ifnull 22 rfl dX11_keep_19 ?_
  refine a_aload 0 24 rfl dX11_keep_22 rfl ?_
  refine a_ifnonnull 29 dX11_keep_24 (by decide) ?_
  refine a_aload 1 31 rfl dX11_keep_29 rfl ?_
  refine a_callVN (as := []) (rest := []) (st2 := [.int (if C.2.1 4 = 0 then 1 else 0)]) (u1 := 0) (v1 := 0) (u2 := 0) (v2 := 0) (r_X9_isMissing rfl) (⟨_, _, _, _, rfl, rfl⟩) oX9_isMissing q_924 q_926 q_57 rfl (by omega) (by decide) rfl (Nat.le_of_ble_eq_true rfl) 34 rfl dX11_keep_31 rfl ?_
  refine a_if_eq 40 37 rfl dX11_keep_34 (by decide) (fun _ => ?_) (fun hc => absurd ((by rw [if_neg ht])) hc)
  refine a_aload 1 42 rfl dX11_keep_40 rfl ?_
  refine a_iload_n 4 43 rfl dX11_keep_42 rfl rfl ?_
  refine a_iconst (x := 1) 44 rfl dX11_keep_43 (by decide) ?_
  refine a_callVN (as := [.int (nI i9), .int 1]) (rest := []) (st2 := [.int 1]) (u1 := 0) (v1 := 0) (u2 := 0) (v2 := 0) (r_X9_hasPlaces_t (n9 := 1) rfl hp (by omega)) (⟨_, _, _, _, rfl, rfl⟩) oX9_hasPlaces q_928 q_930 q_58 rfl (by omega) (by decide) rfl (Nat.le_of_ble_eq_true rfl) 47 rfl dX11_keep_44 rfl ?_
  refine a_if_ne 53 50 rfl dX11_keep_47 (by decide) (fun _ => ?_) (fun hc => absurd hc ((by decide)))
  refine a_aload 1 55 rfl dX11_keep_53 rfl ?_
  refine a_iload_n 4 56 rfl dX11_keep_55 rfl rfl ?_
  refine a_aload 0 58 rfl dX11_keep_56 rfl ?_
  by_cases hm : f_may s9 T.1 = true
  · rw [if_pos hm, if_pos hm] at w
    rw [if_pos hm, if_pos hm]
    refine a_callVN (as := [.int (nI i9), .ref (g_ad G (38 + o))]) (rest := []) (st2 := [.int 1]) (u1 := 0) (v1 := 0) (u2 := 0) (v2 := 0) (w) (⟨_, _, _, _, rfl, rfl⟩) oX9_place q_932 q_934 q_59 rfl (by omega) (by decide) rfl (Nat.le_of_ble_eq_true rfl) 61 rfl dX11_keep_58 rfl ?_
    refine a_if_eq 68 64 rfl dX11_keep_61 (by decide) (fun hc => absurd hc ((by decide))) (fun _ => ?_)
    refine a_iconst (x := 1) 65 rfl dX11_keep_64 (by decide) ?_
    refine a_goto 70 dX11_keep_65 (by decide) ?_
    refine a_eq (h2 := g_hp G (f_uR C 7 (va_up (C.2.2.2.2.2 7) i9 (some (g_ad G (38 + o))))) tl) rfl rfl rfl (rfl) ?_
    exact a_ireturn .int rfl rfl (rfl) (rfl) dX11_keep_70
  · rw [if_neg hm, if_neg hm] at w
    rw [if_neg hm, if_neg hm]
    refine a_callVN (as := [.int (nI i9), .ref (g_ad G (38 + o))]) (rest := []) (st2 := [.int 0]) (u1 := 0) (v1 := 0) (u2 := 0) (v2 := 0) (w) (⟨_, _, _, _, rfl, rfl⟩) oX9_place q_932 q_934 q_59 rfl (by omega) (by decide) rfl (Nat.le_of_ble_eq_true rfl) 61 rfl dX11_keep_58 rfl ?_
    refine a_if_eq 68 64 rfl dX11_keep_61 (by decide) (fun _ => ?_) (fun hc => absurd (rfl) hc)
    refine a_bipush (x := (-12)) 70 rfl dX11_keep_68 (by decide) ?_
    exact a_ireturn .int rfl rfl (rfl) (rfl) dX11_keep_70
theorem r_X11_kept1_out (hq : f_qs G C) (hp : C.1 13 ≤ 6) (hi : ¬ vp_in y2 (C.1 13)) : g_Run G mX11_kept 4 0 0 [.ref (g_ad G 0), .int 1, .int y2] (g_hp G C tl) (some (.long (-9223372036854775808))) (g_hp G C tl) := by
  refine g_Run.of (lv := [(0, .ref (g_ad G 0)), (1, .int 1), (2, .int y2)]) (by decide) (Nat.le_of_ble_eq_true rfl) rfl ?_
  refine a_aload_n 0 1 rfl dX11_kept_0 rfl rfl ?_
  refine a_iload_n 1 2 rfl dX11_kept_1 rfl rfl ?_
  refine a_callV (as := [.int 1]) (rest := []) (st2 := [.ref (g_ad G 26)]) (u1 := 0) (v1 := 0) (u2 := 0) (v2 := 0) (r_shelfAt1 hq) (⟨_, _, _, _, rfl, rfl⟩) oX11_shelfAt q_908 q_910 q_54 rfl (by omega) (by decide) rfl (Nat.le_of_ble_eq_true rfl) 5 rfl dX11_kept_2 rfl ?_
  refine a_astore_n (lv' := [(3, .ref (g_ad G 26)), (0, .ref (g_ad G 0)), (1, .int 1), (2, .int y2)]) 6 rfl dX11_kept_5 rfl (by decide) rfl ?_
  refine a_aload_n 0 7 rfl dX11_kept_6 rfl rfl ?_
  refine a_ifnonnull 14 dX11_kept_7 (by decide) ?_
  refine a_aload_n 0 15 rfl dX11_kept_14 rfl rfl ?_
  refine a_iload_n 3 16 rfl dX11_kept_15 rfl rfl ?_
  refine a_callVN (as := [.int y2]) (rest := []) (st2 := [.null]) (u1 := 0) (v1 := 0) (u2 := 0) (v2 := 0) (r_X9_at_out rfl hp hi) (⟨_, _, _, _, rfl, rfl⟩) oX9_at q_951 q_953 q_62 rfl (by omega) (by decide) rfl (Nat.le_of_ble_eq_true rfl) 19 rfl dX11_kept_16 rfl ?_
  refine a_astoreN (lv' := [(4, .null), (3, .ref (g_ad G 26)), (0, .ref (g_ad G 0)), (1, .int 1), (2, .int y2)]) 21 rfl dX11_kept_19 (by decide) rfl ?_
  refine a_aloadN 0 23 rfl dX11_kept_21 rfl ?_
  refine a_ifnonnullN 26 rfl dX11_kept_23 ?_
  refine a_ldc2 q_466 29 rfl dX11_kept_26 ?_
  refine a_goto 41 dX11_kept_29 (by decide) ?_
  exact a_lreturn rfl (rfl) (rfl) dX11_kept_41
theorem r_X11_kept1_none (hq : f_qs G C) (hp : C.1 13 ≤ 6) (hj : j < C.1 13) (hr : C.2.2.2.2.2 7 j = none) : g_Run G mX11_kept 4 0 0 [.ref (g_ad G 0), .int 1, .int (nI j)] (g_hp G C tl) (some (.long (-9223372036854775808))) (g_hp G C tl) := by
  have w := r_X9_at_in (G := G) (h := g_hp G C tl) (a := 26) (ka := 27) rfl rfl hp hj
  rw [hr] at w
  refine g_Run.of (lv := [(0, .ref (g_ad G 0)), (1, .int 1), (2, .int (nI j))]) (by decide) (Nat.le_of_ble_eq_true rfl) rfl ?_
  refine a_aload_n 0 1 rfl dX11_kept_0 rfl rfl ?_
  refine a_iload_n 1 2 rfl dX11_kept_1 rfl rfl ?_
  refine a_callV (as := [.int 1]) (rest := []) (st2 := [.ref (g_ad G 26)]) (u1 := 0) (v1 := 0) (u2 := 0) (v2 := 0) (r_shelfAt1 hq) (⟨_, _, _, _, rfl, rfl⟩) oX11_shelfAt q_908 q_910 q_54 rfl (by omega) (by decide) rfl (Nat.le_of_ble_eq_true rfl) 5 rfl dX11_kept_2 rfl ?_
  refine a_astore_n (lv' := [(3, .ref (g_ad G 26)), (0, .ref (g_ad G 0)), (1, .int 1), (2, .int (nI j))]) 6 rfl dX11_kept_5 rfl (by decide) rfl ?_
  refine a_aload_n 0 7 rfl dX11_kept_6 rfl rfl ?_
  refine a_ifnonnull 14 dX11_kept_7 (by decide) ?_
  refine a_aload_n 0 15 rfl dX11_kept_14 rfl rfl ?_
  refine a_iload_n 3 16 rfl dX11_kept_15 rfl rfl ?_
  refine a_callVN (as := [.int (nI j)]) (rest := []) (st2 := [.null]) (u1 := 0) (v1 := 0) (u2 := 0) (v2 := 0) (w) (⟨_, _, _, _, rfl, rfl⟩) oX9_at q_951 q_953 q_62 rfl (by omega) (by decide) rfl (Nat.le_of_ble_eq_true rfl) 19 rfl dX11_kept_16 rfl ?_
  refine a_astoreN (lv' := [(4, .null), (3, .ref (g_ad G 26)), (0, .ref (g_ad G 0)), (1, .int 1), (2, .int (nI j))]) 21 rfl dX11_kept_19 (by decide) rfl ?_
  refine a_aloadN 0 23 rfl dX11_kept_21 rfl ?_
  refine a_ifnonnullN 26 rfl dX11_kept_23 ?_
  refine a_ldc2 q_466 29 rfl dX11_kept_26 ?_
  refine a_goto 41 dX11_kept_29 (by decide) ?_
  exact a_lreturn rfl (rfl) (rfl) dX11_kept_41
theorem r_X11_kept1 (hq : f_qs G C) (hn : C.1 0 ≤ 6) (hp : C.1 13 ≤ 6) (hj : j < C.1 13) (hr : C.2.2.2.2.2 7 j = some (g_ad G (38 + o))) (ht : tl[o]? = some (c_Fa T)) (hk : T.1 < 6) : g_Run G mX11_kept 4 0 0 [.ref (g_ad G 0), .int 1, .int (nI j)] (g_hp G C tl) (some (.long (f_so C T))) (g_hp G C tl) := by
  have w := r_X9_at_in (G := G) (h := g_hp G C tl) (a := 26) (ka := 27) rfl rfl hp hj
  rw [hr] at w
  have w2 := r_X3_setsOf (G := G) (h := g_hp G C tl) (a := 1) (ka := 2) (n := C.1 0) rfl (f_T_at ht) hn hk
  refine g_Run.of (lv := [(0, .ref (g_ad G 0)), (1, .int 1), (2, .int (nI j))]) (by decide) (Nat.le_of_ble_eq_true rfl) rfl ?_
  refine a_aload_n 0 1 rfl dX11_kept_0 rfl rfl ?_
  refine a_iload_n 1 2 rfl dX11_kept_1 rfl rfl ?_
  refine a_callV (as := [.int 1]) (rest := []) (st2 := [.ref (g_ad G 26)]) (u1 := 0) (v1 := 0) (u2 := 0) (v2 := 0) (r_shelfAt1 hq) (⟨_, _, _, _, rfl, rfl⟩) oX11_shelfAt q_908 q_910 q_54 rfl (by omega) (by decide) rfl (Nat.le_of_ble_eq_true rfl) 5 rfl dX11_kept_2 rfl ?_
  refine a_astore_n (lv' := [(3, .ref (g_ad G 26)), (0, .ref (g_ad G 0)), (1, .int 1), (2, .int (nI j))]) 6 rfl dX11_kept_5 rfl (by decide) rfl ?_
  refine a_aload_n 0 7 rfl dX11_kept_6 rfl rfl ?_
  refine a_ifnonnull 14 dX11_kept_7 (by decide) ?_
  refine a_aload_n 0 15 rfl dX11_kept_14 rfl rfl ?_
  refine a_iload_n 3 16 rfl dX11_kept_15 rfl rfl ?_
  refine a_callVN (as := [.int (nI j)]) (rest := []) (st2 := [.ref (g_ad G (38 + o))]) (u1 := 0) (v1 := 0) (u2 := 0) (v2 := 0) (w) (⟨_, _, _, _, rfl, rfl⟩) oX9_at q_951 q_953 q_62 rfl (by omega) (by decide) rfl (Nat.le_of_ble_eq_true rfl) 19 rfl dX11_kept_16 rfl ?_
  refine a_astore (lv' := [(4, .ref (g_ad G (38 + o))), (3, .ref (g_ad G 26)), (0, .ref (g_ad G 0)), (1, .int 1), (2, .int (nI j))]) 21 rfl dX11_kept_19 (by decide) rfl ?_
  refine a_aload 0 23 rfl dX11_kept_21 rfl ?_
  refine a_ifnonnull 32 dX11_kept_23 (by decide) ?_
  refine a_aload_n 2 33 rfl dX11_kept_32 rfl rfl ?_
  refine a_get 0 cl_10 f_RX11_12_10 (by decide) (rfl) rfl 36 rfl dX11_kept_33 ?_
  refine a_aload 0 38 rfl dX11_kept_36 rfl ?_
  refine a_callVN (as := [.ref (g_ad G (38 + o))]) (rest := []) (st2 := [.long (f_so C T)]) (u1 := 0) (v1 := 0) (u2 := 0) (v2 := 0) (w2) (⟨_, _, _, _, rfl, rfl⟩) oX3_setsOf q_467 q_469 q_13 rfl (by omega) (by decide) rfl (Nat.le_of_ble_eq_true rfl) 41 rfl dX11_kept_38 rfl ?_
  exact a_lreturn rfl (rfl) (rfl) dX11_kept_41

theorem r_X11_like_bad1_2 (hq : f_qs G C) (hi : ¬ vp_in y 3) : g_Run G mX11_like 3 0 0 [.ref (g_ad G 0), .int y, .int 2] (g_hp G C tl) (some (.int (-1))) (g_hp G C tl) := by
  refine g_Run.of (lv := [(0, .ref (g_ad G 0)), (1, .int y), (2, .int 2)]) (by decide) (Nat.le_of_ble_eq_true rfl) rfl ?_
  refine a_aload_n 0 1 rfl dX11_like_0 rfl rfl ?_
  refine a_iload_n 1 2 rfl dX11_like_1 rfl rfl ?_
  refine a_callV (as := [.int y]) (rest := []) (st2 := [.null]) (u1 := 0) (v1 := 0) (u2 := 0) (v2 := 0) (r_shelfAt_out hi) (⟨_, _, _, _, rfl, rfl⟩) oX11_shelfAt q_908 q_910 q_54 rfl (by omega) (by decide) rfl (Nat.le_of_ble_eq_true rfl) 5 rfl dX11_like_2 rfl ?_
  refine a_astore_nN (lv' := [(3, .null), (0, .ref (g_ad G 0)), (1, .int y), (2, .int 2)]) 6 rfl dX11_like_5 rfl (by decide) rfl ?_
  refine a_aload_n 1 7 rfl dX11_like_6 rfl rfl ?_
  refine a_iload_n 3 8 rfl dX11_like_7 rfl rfl ?_
  refine a_callV (as := [.int 2]) (rest := []) (st2 := [.ref (g_ad G 29)]) (u1 := 0) (v1 := 0) (u2 := 0) (v2 := 0) (r_shelfAt2 hq) (⟨_, _, _, _, rfl, rfl⟩) oX11_shelfAt q_908 q_910 q_54 rfl (by omega) (by decide) rfl (Nat.le_of_ble_eq_true rfl) 11 rfl dX11_like_8 rfl ?_
  refine a_astore (lv' := [(4, .ref (g_ad G 29)), (3, .null), (0, .ref (g_ad G 0)), (1, .int y), (2, .int 2)]) 13 rfl dX11_like_11 (by decide) rfl ?_
  refine a_aload_nN 1 14 rfl dX11_like_13 rfl rfl ?_
  refine a_ifnullN 28 dX11_like_14 (by decide) ?_
  refine a_iconst (x := (-1)) 29 rfl dX11_like_28 (by decide) ?_
  exact a_ireturn .int rfl rfl (rfl) (rfl) dX11_like_29
theorem r_X11_like_bad2_2 (hq : f_qs G C) (hi : ¬ vp_in y 3) : g_Run G mX11_like 3 0 0 [.ref (g_ad G 0), .int 2, .int y] (g_hp G C tl) (some (.int (-1))) (g_hp G C tl) := by
  refine g_Run.of (lv := [(0, .ref (g_ad G 0)), (1, .int 2), (2, .int y)]) (by decide) (Nat.le_of_ble_eq_true rfl) rfl ?_
  refine a_aload_n 0 1 rfl dX11_like_0 rfl rfl ?_
  refine a_iload_n 1 2 rfl dX11_like_1 rfl rfl ?_
  refine a_callV (as := [.int 2]) (rest := []) (st2 := [.ref (g_ad G 29)]) (u1 := 0) (v1 := 0) (u2 := 0) (v2 := 0) (r_shelfAt2 hq) (⟨_, _, _, _, rfl, rfl⟩) oX11_shelfAt q_908 q_910 q_54 rfl (by omega) (by decide) rfl (Nat.le_of_ble_eq_true rfl) 5 rfl dX11_like_2 rfl ?_
  refine a_astore_n (lv' := [(3, .ref (g_ad G 29)), (0, .ref (g_ad G 0)), (1, .int 2), (2, .int y)]) 6 rfl dX11_like_5 rfl (by decide) rfl ?_
  refine a_aload_n 1 7 rfl dX11_like_6 rfl rfl ?_
  refine a_iload_n 3 8 rfl dX11_like_7 rfl rfl ?_
  refine a_callV (as := [.int y]) (rest := []) (st2 := [.null]) (u1 := 0) (v1 := 0) (u2 := 0) (v2 := 0) (r_shelfAt_out hi) (⟨_, _, _, _, rfl, rfl⟩) oX11_shelfAt q_908 q_910 q_54 rfl (by omega) (by decide) rfl (Nat.le_of_ble_eq_true rfl) 11 rfl dX11_like_8 rfl ?_
  refine a_astoreN (lv' := [(4, .null), (3, .ref (g_ad G 29)), (0, .ref (g_ad G 0)), (1, .int 2), (2, .int y)]) 13 rfl dX11_like_11 (by decide) rfl ?_
  refine a_aload_n 1 14 rfl dX11_like_13 rfl rfl ?_
  refine a_ifnull 17 rfl dX11_like_14 ?_
  refine a_aloadN 0 19 rfl dX11_like_17 rfl ?_
  refine a_ifnullN 28 dX11_like_19 (by decide) ?_
  refine a_iconst (x := (-1)) 29 rfl dX11_like_28 (by decide) ?_
  exact a_ireturn .int rfl rfl (rfl) (rfl) dX11_like_29
theorem r_X11_like_same_2 (hq : f_qs G C) : g_Run G mX11_like 3 0 0 [.ref (g_ad G 0), .int 2, .int 2] (g_hp G C tl) (some (.int (-1))) (g_hp G C tl) := by
  refine g_Run.of (lv := [(0, .ref (g_ad G 0)), (1, .int 2), (2, .int 2)]) (by decide) (Nat.le_of_ble_eq_true rfl) rfl ?_
  refine a_aload_n 0 1 rfl dX11_like_0 rfl rfl ?_
  refine a_iload_n 1 2 rfl dX11_like_1 rfl rfl ?_
  refine a_callV (as := [.int 2]) (rest := []) (st2 := [.ref (g_ad G 29)]) (u1 := 0) (v1 := 0) (u2 := 0) (v2 := 0) (r_shelfAt2 hq) (⟨_, _, _, _, rfl, rfl⟩) oX11_shelfAt q_908 q_910 q_54 rfl (by omega) (by decide) rfl (Nat.le_of_ble_eq_true rfl) 5 rfl dX11_like_2 rfl ?_
  refine a_astore_n (lv' := [(3, .ref (g_ad G 29)), (0, .ref (g_ad G 0)), (1, .int 2), (2, .int 2)]) 6 rfl dX11_like_5 rfl (by decide) rfl ?_
  refine a_aload_n 1 7 rfl dX11_like_6 rfl rfl ?_
  refine a_iload_n 3 8 rfl dX11_like_7 rfl rfl ?_
  refine a_callV (as := [.int 2]) (rest := []) (st2 := [.ref (g_ad G 29)]) (u1 := 0) (v1 := 0) (u2 := 0) (v2 := 0) (r_shelfAt2 hq) (⟨_, _, _, _, rfl, rfl⟩) oX11_shelfAt q_908 q_910 q_54 rfl (by omega) (by decide) rfl (Nat.le_of_ble_eq_true rfl) 11 rfl dX11_like_8 rfl ?_
  refine a_astore (lv' := [(4, .ref (g_ad G 29)), (3, .ref (g_ad G 29)), (0, .ref (g_ad G 0)), (1, .int 2), (2, .int 2)]) 13 rfl dX11_like_11 (by decide) rfl ?_
  refine a_aload_n 1 14 rfl dX11_like_13 rfl rfl ?_
  refine a_ifnull 17 rfl dX11_like_14 ?_
  refine a_aload 0 19 rfl dX11_like_17 rfl ?_
  refine a_ifnull 22 rfl dX11_like_19 ?_
  refine a_aload_n 1 23 rfl dX11_like_22 rfl rfl ?_
  refine a_aload 0 25 rfl dX11_like_23 rfl ?_
  refine a_acmp_ne (rx := some (g_ad G 29)) (ry := some (g_ad G 29)) 30 28 rfl dX11_like_25 (by decide) (fun hc => absurd (rfl) hc) (fun _ => ?_)
  refine a_iconst (x := (-1)) 29 rfl dX11_like_28 (by decide) ?_
  exact a_ireturn .int rfl rfl (rfl) (rfl) dX11_like_29
theorem r_X11_shift_bad1_2 (hq : f_qs G C) (hi : ¬ vp_in y 3) : g_Run G mX11_shift 6 0 0 [.ref (g_ad G 0), .int y, .int y2, .int 2, .int y4, .int y5] (g_hp G C tl) (some (.int (-1))) (g_hp G C tl) := by
  refine g_Run.of (lv := [(0, .ref (g_ad G 0)), (1, .int y), (2, .int y2), (3, .int 2), (4, .int y4), (5, .int y5)]) (by decide) (Nat.le_of_ble_eq_true rfl) rfl ?_
  refine a_aload_n 0 1 rfl dX11_shift_0 rfl rfl ?_
  refine a_iload_n 1 2 rfl dX11_shift_1 rfl rfl ?_
  refine a_callV (as := [.int y]) (rest := []) (st2 := [.null]) (u1 := 0) (v1 := 0) (u2 := 0) (v2 := 0) (r_shelfAt_out hi) (⟨_, _, _, _, rfl, rfl⟩) oX11_shelfAt q_908 q_910 q_54 rfl (by omega) (by decide) rfl (Nat.le_of_ble_eq_true rfl) 5 rfl dX11_shift_2 rfl ?_
  refine a_astoreN (lv' := [(6, .null), (0, .ref (g_ad G 0)), (1, .int y), (2, .int y2), (3, .int 2), (4, .int y4), (5, .int y5)]) 7 rfl dX11_shift_5 (by decide) rfl ?_
  refine a_aload_n 1 8 rfl dX11_shift_7 rfl rfl ?_
  refine a_iload_n 4 9 rfl dX11_shift_8 rfl rfl ?_
  refine a_callV (as := [.int 2]) (rest := []) (st2 := [.ref (g_ad G 29)]) (u1 := 0) (v1 := 0) (u2 := 0) (v2 := 0) (r_shelfAt2 hq) (⟨_, _, _, _, rfl, rfl⟩) oX11_shelfAt q_908 q_910 q_54 rfl (by omega) (by decide) rfl (Nat.le_of_ble_eq_true rfl) 12 rfl dX11_shift_9 rfl ?_
  refine a_astore (lv' := [(7, .ref (g_ad G 29)), (6, .null), (0, .ref (g_ad G 0)), (1, .int y), (2, .int y2), (3, .int 2), (4, .int y4), (5, .int y5)]) 14 rfl dX11_shift_12 (by decide) rfl ?_
  refine a_aloadN 1 16 rfl dX11_shift_14 rfl ?_
  refine a_ifnullN 24 dX11_shift_16 (by decide) ?_
  refine a_iconst (x := (-1)) 25 rfl dX11_shift_24 (by decide) ?_
  exact a_ireturn .int rfl rfl (rfl) (rfl) dX11_shift_25
theorem r_X11_shift_bad2_2 (hq : f_qs G C) (hi : ¬ vp_in y 3) : g_Run G mX11_shift 6 0 0 [.ref (g_ad G 0), .int 2, .int y2, .int y, .int y4, .int y5] (g_hp G C tl) (some (.int (-1))) (g_hp G C tl) := by
  refine g_Run.of (lv := [(0, .ref (g_ad G 0)), (1, .int 2), (2, .int y2), (3, .int y), (4, .int y4), (5, .int y5)]) (by decide) (Nat.le_of_ble_eq_true rfl) rfl ?_
  refine a_aload_n 0 1 rfl dX11_shift_0 rfl rfl ?_
  refine a_iload_n 1 2 rfl dX11_shift_1 rfl rfl ?_
  refine a_callV (as := [.int 2]) (rest := []) (st2 := [.ref (g_ad G 29)]) (u1 := 0) (v1 := 0) (u2 := 0) (v2 := 0) (r_shelfAt2 hq) (⟨_, _, _, _, rfl, rfl⟩) oX11_shelfAt q_908 q_910 q_54 rfl (by omega) (by decide) rfl (Nat.le_of_ble_eq_true rfl) 5 rfl dX11_shift_2 rfl ?_
  refine a_astore (lv' := [(6, .ref (g_ad G 29)), (0, .ref (g_ad G 0)), (1, .int 2), (2, .int y2), (3, .int y), (4, .int y4), (5, .int y5)]) 7 rfl dX11_shift_5 (by decide) rfl ?_
  refine a_aload_n 1 8 rfl dX11_shift_7 rfl rfl ?_
  refine a_iload_n 4 9 rfl dX11_shift_8 rfl rfl ?_
  refine a_callV (as := [.int y]) (rest := []) (st2 := [.null]) (u1 := 0) (v1 := 0) (u2 := 0) (v2 := 0) (r_shelfAt_out hi) (⟨_, _, _, _, rfl, rfl⟩) oX11_shelfAt q_908 q_910 q_54 rfl (by omega) (by decide) rfl (Nat.le_of_ble_eq_true rfl) 12 rfl dX11_shift_9 rfl ?_
  refine a_astoreN (lv' := [(7, .null), (6, .ref (g_ad G 29)), (0, .ref (g_ad G 0)), (1, .int 2), (2, .int y2), (3, .int y), (4, .int y4), (5, .int y5)]) 14 rfl dX11_shift_12 (by decide) rfl ?_
  refine a_aload 1 16 rfl dX11_shift_14 rfl ?_
  refine a_ifnull 19 rfl dX11_shift_16 ?_
  refine a_aloadN 0 21 rfl dX11_shift_19 rfl ?_
  refine a_ifnonnullN 24 rfl dX11_shift_21 ?_
  refine a_iconst (x := (-1)) 25 rfl dX11_shift_24 (by decide) ?_
  exact a_ireturn .int rfl rfl (rfl) (rfl) dX11_shift_25
theorem r_X11_shelf2_out (hq : f_qs G C) (hy : y2 < -1 ∨ ¬ y2 < 3) : g_Run G mX11_shelf 2 0 0 [.ref (g_ad G 0), .int 2, .int y2, .int y3] (g_hp G C tl) (some (.int (-1))) (g_hp G C tl) := by
  refine g_Run.of (lv := [(0, .ref (g_ad G 0)), (1, .int 2), (2, .int y2), (3, .int y3)]) (by decide) (Nat.le_of_ble_eq_true rfl) rfl ?_
  refine a_aload_n 0 1 rfl dX11_shelf_0 rfl rfl ?_
  refine a_iload_n 1 2 rfl dX11_shelf_1 rfl rfl ?_
  refine a_callV (as := [.int 2]) (rest := []) (st2 := [.ref (g_ad G 29)]) (u1 := 0) (v1 := 0) (u2 := 0) (v2 := 0) (r_shelfAt2 hq) (⟨_, _, _, _, rfl, rfl⟩) oX11_shelfAt q_908 q_910 q_54 rfl (by omega) (by decide) rfl (Nat.le_of_ble_eq_true rfl) 5 rfl dX11_shelf_2 rfl ?_
  refine a_astore (lv' := [(4, .ref (g_ad G 29)), (0, .ref (g_ad G 0)), (1, .int 2), (2, .int y2), (3, .int y3)]) 7 rfl dX11_shelf_5 (by decide) rfl ?_
  refine a_aload 0 9 rfl dX11_shelf_7 rfl ?_
  refine a_ifnull 12 rfl dX11_shelf_9 ?_
  refine a_iload_n 3 13 rfl dX11_shelf_12 rfl rfl ?_
  refine a_iconst (x := (-1)) 14 rfl dX11_shelf_13 (by decide) ?_
  refine a_icmp_lt 22 17 rfl dX11_shelf_14 (by decide) (fun c14 => ?_) (fun c14 => ?_)
  refine a_iconst (x := (-1)) 23 rfl dX11_shelf_22 (by decide) ?_
  exact a_ireturn .int rfl rfl (rfl) (rfl) dX11_shelf_23
  refine a_iload_n 3 18 rfl dX11_shelf_17 rfl rfl ?_
  refine a_iconst (x := 3) 19 rfl dX11_shelf_18 (by decide) ?_
  refine a_icmp_lt 24 22 rfl dX11_shelf_19 (by decide) (fun hc => absurd hc ((hy.resolve_left c14))) (fun _ => ?_)
  refine a_iconst (x := (-1)) 23 rfl dX11_shelf_22 (by decide) ?_
  exact a_ireturn .int rfl rfl (rfl) (rfl) dX11_shelf_23
theorem r_X11_shelf2_rem (hq : f_qs G C) : g_Run G mX11_shelf 2 0 0 [.ref (g_ad G 0), .int 2, .int (-1), .int y3] (g_hp G C tl) (some (.int 1)) (g_hp G (f_un (f_ui C 5 0) 14 0) tl) := by
  refine g_Run.of (lv := [(0, .ref (g_ad G 0)), (1, .int 2), (2, .int ((-1))), (3, .int y3)]) (by decide) (Nat.le_of_ble_eq_true rfl) rfl ?_
  refine a_aload_n 0 1 rfl dX11_shelf_0 rfl rfl ?_
  refine a_iload_n 1 2 rfl dX11_shelf_1 rfl rfl ?_
  refine a_callV (as := [.int 2]) (rest := []) (st2 := [.ref (g_ad G 29)]) (u1 := 0) (v1 := 0) (u2 := 0) (v2 := 0) (r_shelfAt2 hq) (⟨_, _, _, _, rfl, rfl⟩) oX11_shelfAt q_908 q_910 q_54 rfl (by omega) (by decide) rfl (Nat.le_of_ble_eq_true rfl) 5 rfl dX11_shelf_2 rfl ?_
  refine a_astore (lv' := [(4, .ref (g_ad G 29)), (0, .ref (g_ad G 0)), (1, .int 2), (2, .int ((-1))), (3, .int y3)]) 7 rfl dX11_shelf_5 (by decide) rfl ?_
  refine a_aload 0 9 rfl dX11_shelf_7 rfl ?_
  refine a_ifnull 12 rfl dX11_shelf_9 ?_
  refine a_iload_n 3 13 rfl dX11_shelf_12 rfl rfl ?_
  refine a_iconst (x := (-1)) 14 rfl dX11_shelf_13 (by decide) ?_
  refine a_icmp_lt 22 17 rfl dX11_shelf_14 (by decide) (fun hc => absurd hc ((by decide))) (fun _ => ?_)
  refine a_iload_n 3 18 rfl dX11_shelf_17 rfl rfl ?_
  refine a_iconst (x := 3) 19 rfl dX11_shelf_18 (by decide) ?_
  refine a_icmp_lt 24 22 rfl dX11_shelf_19 (by decide) (fun _ => ?_) (fun hc => absurd ((by decide)) hc)
  refine a_iload_n 3 25 rfl dX11_shelf_24 rfl rfl ?_
  refine a_iconst (x := (-1)) 26 rfl dX11_shelf_25 (by decide) ?_
  refine a_icmp_ne 36 29 rfl dX11_shelf_26 (by decide) (fun hc => absurd (rfl) hc) (fun _ => ?_)
  refine a_aload 0 31 rfl dX11_shelf_29 rfl ?_
  refine a_callVN (as := []) (rest := []) (st2 := []) (u1 := 0) (v1 := 0) (u2 := 0) (v2 := 0) (r_X9_remove rfl) (⟨_, _, _, _, rfl, rfl⟩) oX9_remove q_912 q_914 q_55 rfl (by omega) (by decide) rfl (Nat.le_of_ble_eq_true rfl) 34 rfl dX11_shelf_31 rfl ?_
  refine a_eq (h2 := g_hp G (f_un (f_ui C 5 0) 14 0) tl) rfl rfl rfl (rfl) ?_
  refine a_iconst (x := 1) 35 rfl dX11_shelf_34 (by decide) ?_
  exact a_ireturn .int rfl rfl (rfl) (rfl) dX11_shelf_35
theorem r_X11_shelf2_much (hq : f_qs G C) (h1 : ¬ y2 < -1) (h2 : y2 < 3) (h3 : ¬ y2 = -1) (h4 : ¬ y3 ≤ 6) : g_Run G mX11_shelf 2 0 0 [.ref (g_ad G 0), .int 2, .int y2, .int y3] (g_hp G C tl) (some (.int (-1))) (g_hp G C tl) := by
  refine g_Run.of (lv := [(0, .ref (g_ad G 0)), (1, .int 2), (2, .int y2), (3, .int y3)]) (by decide) (Nat.le_of_ble_eq_true rfl) rfl ?_
  refine a_aload_n 0 1 rfl dX11_shelf_0 rfl rfl ?_
  refine a_iload_n 1 2 rfl dX11_shelf_1 rfl rfl ?_
  refine a_callV (as := [.int 2]) (rest := []) (st2 := [.ref (g_ad G 29)]) (u1 := 0) (v1 := 0) (u2 := 0) (v2 := 0) (r_shelfAt2 hq) (⟨_, _, _, _, rfl, rfl⟩) oX11_shelfAt q_908 q_910 q_54 rfl (by omega) (by decide) rfl (Nat.le_of_ble_eq_true rfl) 5 rfl dX11_shelf_2 rfl ?_
  refine a_astore (lv' := [(4, .ref (g_ad G 29)), (0, .ref (g_ad G 0)), (1, .int 2), (2, .int y2), (3, .int y3)]) 7 rfl dX11_shelf_5 (by decide) rfl ?_
  refine a_aload 0 9 rfl dX11_shelf_7 rfl ?_
  refine a_ifnull 12 rfl dX11_shelf_9 ?_
  refine a_iload_n 3 13 rfl dX11_shelf_12 rfl rfl ?_
  refine a_iconst (x := (-1)) 14 rfl dX11_shelf_13 (by decide) ?_
  refine a_icmp_lt 22 17 rfl dX11_shelf_14 (by decide) (fun hc => absurd hc (h1)) (fun _ => ?_)
  refine a_iload_n 3 18 rfl dX11_shelf_17 rfl rfl ?_
  refine a_iconst (x := 3) 19 rfl dX11_shelf_18 (by decide) ?_
  refine a_icmp_lt 24 22 rfl dX11_shelf_19 (by decide) (fun _ => ?_) (fun hc => absurd (h2) hc)
  refine a_iload_n 3 25 rfl dX11_shelf_24 rfl rfl ?_
  refine a_iconst (x := (-1)) 26 rfl dX11_shelf_25 (by decide) ?_
  refine a_icmp_ne 36 29 rfl dX11_shelf_26 (by decide) (fun _ => ?_) (fun hc => absurd hc (h3))
  refine a_iload_n 4 37 rfl dX11_shelf_36 rfl rfl ?_
  refine a_bipush (x := 6) 39 rfl dX11_shelf_37 (by decide) ?_
  refine a_icmp_le 44 42 rfl dX11_shelf_39 (by decide) (fun hc => absurd hc (h4)) (fun _ => ?_)
  refine a_iconst (x := (-1)) 43 rfl dX11_shelf_42 (by decide) ?_
  exact a_ireturn .int rfl rfl (rfl) (rfl) dX11_shelf_43
theorem r_X11_shelf2_few (hq : f_qs G C) (h1 : ¬ y2 < -1) (h2 : y2 < 3) (h3 : ¬ y2 = -1) (h4 : y3 ≤ 6) (h5 : ¬ 0 ≤ y3) : g_Run G mX11_shelf 2 0 0 [.ref (g_ad G 0), .int 2, .int y2, .int y3] (g_hp G C tl) (some (.int (-14))) (g_hp G C tl) := by
  refine g_Run.of (lv := [(0, .ref (g_ad G 0)), (1, .int 2), (2, .int y2), (3, .int y3)]) (by decide) (Nat.le_of_ble_eq_true rfl) rfl ?_
  refine a_aload_n 0 1 rfl dX11_shelf_0 rfl rfl ?_
  refine a_iload_n 1 2 rfl dX11_shelf_1 rfl rfl ?_
  refine a_callV (as := [.int 2]) (rest := []) (st2 := [.ref (g_ad G 29)]) (u1 := 0) (v1 := 0) (u2 := 0) (v2 := 0) (r_shelfAt2 hq) (⟨_, _, _, _, rfl, rfl⟩) oX11_shelfAt q_908 q_910 q_54 rfl (by omega) (by decide) rfl (Nat.le_of_ble_eq_true rfl) 5 rfl dX11_shelf_2 rfl ?_
  refine a_astore (lv' := [(4, .ref (g_ad G 29)), (0, .ref (g_ad G 0)), (1, .int 2), (2, .int y2), (3, .int y3)]) 7 rfl dX11_shelf_5 (by decide) rfl ?_
  refine a_aload 0 9 rfl dX11_shelf_7 rfl ?_
  refine a_ifnull 12 rfl dX11_shelf_9 ?_
  refine a_iload_n 3 13 rfl dX11_shelf_12 rfl rfl ?_
  refine a_iconst (x := (-1)) 14 rfl dX11_shelf_13 (by decide) ?_
  refine a_icmp_lt 22 17 rfl dX11_shelf_14 (by decide) (fun hc => absurd hc (h1)) (fun _ => ?_)
  refine a_iload_n 3 18 rfl dX11_shelf_17 rfl rfl ?_
  refine a_iconst (x := 3) 19 rfl dX11_shelf_18 (by decide) ?_
  refine a_icmp_lt 24 22 rfl dX11_shelf_19 (by decide) (fun _ => ?_) (fun hc => absurd (h2) hc)
  refine a_iload_n 3 25 rfl dX11_shelf_24 rfl rfl ?_
  refine a_iconst (x := (-1)) 26 rfl dX11_shelf_25 (by decide) ?_
  refine a_icmp_ne 36 29 rfl dX11_shelf_26 (by decide) (fun _ => ?_) (fun hc => absurd hc (h3))
  refine a_iload_n 4 37 rfl dX11_shelf_36 rfl rfl ?_
  refine a_bipush (x := 6) 39 rfl dX11_shelf_37 (by decide) ?_
  refine a_icmp_le 44 42 rfl dX11_shelf_39 (by decide) (fun _ => ?_) (fun hc => absurd (h4) hc)
  refine a_iload_n 4 45 rfl dX11_shelf_44 rfl rfl ?_
  refine a_if_ge 51 48 rfl dX11_shelf_45 (by decide) (fun hc => absurd hc (h5)) (fun _ => ?_)
  refine a_bipush (x := (-14)) 50 rfl dX11_shelf_48 (by decide) ?_
  exact a_ireturn .int rfl rfl (rfl) (rfl) dX11_shelf_50
theorem r_X11_shelf2 {n9 : Nat} (hq : f_qs G C) (h1 : ¬ y2 < -1) (h2 : y2 < 3) (h3 : ¬ y2 = -1) (h4 : n9 ≤ 6) : ∃ f2 : Nat → Option Nat, (∀ j, j < 6 → f2 j = none) ∧ g_Run G mX11_shelf 2 0 0 [.ref (g_ad G 0), .int 2, .int y2, .int (nI n9)] (g_hp G C tl) (some (.int 1)) (g_hp G (f_uR (f_un (f_ui (f_ui C 5 1) 8 y2) 14 n9) 8 f2) tl) := by
  obtain ⟨f2, hz, w⟩ := r_X9_lay (G := G) (h := g_hp G C tl) (a := 29) (y3 := y2) (p8 := n9) rfl rfl (by decide)
  refine ⟨f2, hz, ?_⟩
  refine g_Run.of (lv := [(0, .ref (g_ad G 0)), (1, .int 2), (2, .int y2), (3, .int (nI n9))]) (by decide) (Nat.le_of_ble_eq_true rfl) rfl ?_
  refine a_aload_n 0 1 rfl dX11_shelf_0 rfl rfl ?_
  refine a_iload_n 1 2 rfl dX11_shelf_1 rfl rfl ?_
  refine a_callV (as := [.int 2]) (rest := []) (st2 := [.ref (g_ad G 29)]) (u1 := 0) (v1 := 0) (u2 := 0) (v2 := 0) (r_shelfAt2 hq) (⟨_, _, _, _, rfl, rfl⟩) oX11_shelfAt q_908 q_910 q_54 rfl (by omega) (by decide) rfl (Nat.le_of_ble_eq_true rfl) 5 rfl dX11_shelf_2 rfl ?_
  refine a_astore (lv' := [(4, .ref (g_ad G 29)), (0, .ref (g_ad G 0)), (1, .int 2), (2, .int y2), (3, .int (nI n9))]) 7 rfl dX11_shelf_5 (by decide) rfl ?_
  refine a_aload 0 9 rfl dX11_shelf_7 rfl ?_
  refine a_ifnull 12 rfl dX11_shelf_9 ?_
  refine a_iload_n 3 13 rfl dX11_shelf_12 rfl rfl ?_
  refine a_iconst (x := (-1)) 14 rfl dX11_shelf_13 (by decide) ?_
  refine a_icmp_lt 22 17 rfl dX11_shelf_14 (by decide) (fun hc => absurd hc (h1)) (fun _ => ?_)
  refine a_iload_n 3 18 rfl dX11_shelf_17 rfl rfl ?_
  refine a_iconst (x := 3) 19 rfl dX11_shelf_18 (by decide) ?_
  refine a_icmp_lt 24 22 rfl dX11_shelf_19 (by decide) (fun _ => ?_) (fun hc => absurd (h2) hc)
  refine a_iload_n 3 25 rfl dX11_shelf_24 rfl rfl ?_
  refine a_iconst (x := (-1)) 26 rfl dX11_shelf_25 (by decide) ?_
  refine a_icmp_ne 36 29 rfl dX11_shelf_26 (by decide) (fun _ => ?_) (fun hc => absurd hc (h3))
  refine a_iload_n 4 37 rfl dX11_shelf_36 rfl rfl ?_
  refine a_bipush (x := 6) 39 rfl dX11_shelf_37 (by decide) ?_
  refine a_icmp_le 44 42 rfl dX11_shelf_39 (by decide) (fun _ => ?_) (fun hc => absurd ((nI_le (b := 6) h4 (by omega))) hc)
  refine a_iload_n 4 45 rfl dX11_shelf_44 rfl rfl ?_
  refine a_if_ge 51 48 rfl dX11_shelf_45 (by decide) (fun _ => ?_) (fun hc => absurd (nI_pos' (by omega)) hc)
  refine a_aload 0 53 rfl dX11_shelf_51 rfl ?_
  refine a_iload_n 3 54 rfl dX11_shelf_53 rfl rfl ?_
  refine a_iload_n 4 55 rfl dX11_shelf_54 rfl rfl ?_
  refine a_callVN (as := [.int y2, .int (nI n9)]) (rest := []) (st2 := []) (u1 := 0) (v1 := 0) (u2 := 0) (v2 := 0) (w) (⟨_, _, _, _, rfl, rfl⟩) oX9_lay q_916 q_918 q_56 rfl (by omega) (by decide) rfl (Nat.le_of_ble_eq_true rfl) 58 rfl dX11_shelf_55 rfl ?_
  refine a_eq (h2 := g_hp G (f_uR (f_un (f_ui (f_ui C 5 1) 8 y2) 14 n9) 8 f2) tl) rfl rfl rfl (rfl) ?_
  refine a_iconst (x := 1) 59 rfl dX11_shelf_58 (by decide) ?_
  exact a_ireturn .int rfl rfl (rfl) (rfl) dX11_shelf_59
theorem r_X11_keep2_bad (hq : f_qs G C) (hm : C.1 3 ≤ 8) (hi3 : ¬ vp_in y3 (C.1 3)) : g_Run G mX11_keep 5 0 0 [.ref (g_ad G 0), .int 2, .int y2, .int y3] (g_hp G C tl) (some (.int (-1))) (g_hp G C tl) := by
  refine g_Run.of (lv := [(0, .ref (g_ad G 0)), (1, .int 2), (2, .int y2), (3, .int y3)]) (by decide) (Nat.le_of_ble_eq_true rfl) rfl ?_
  refine a_aload_n 0 1 rfl dX11_keep_0 rfl rfl ?_
  refine a_iload_n 1 2 rfl dX11_keep_1 rfl rfl ?_
  refine a_callV (as := [.int 2]) (rest := []) (st2 := [.ref (g_ad G 29)]) (u1 := 0) (v1 := 0) (u2 := 0) (v2 := 0) (r_shelfAt2 hq) (⟨_, _, _, _, rfl, rfl⟩) oX11_shelfAt q_908 q_910 q_54 rfl (by omega) (by decide) rfl (Nat.le_of_ble_eq_true rfl) 5 rfl dX11_keep_2 rfl ?_
  refine a_astore (lv' := [(4, .ref (g_ad G 29)), (0, .ref (g_ad G 0)), (1, .int 2), (2, .int y2), (3, .int y3)]) 7 rfl dX11_keep_5 (by decide) rfl ?_
  refine a_aload_n 1 8 rfl dX11_keep_7 rfl rfl ?_
  refine a_get 2 cl_10 f_RX11_28_10 (by decide) (rfl) rfl 11 rfl dX11_keep_8 ?_
  refine a_iload_n 4 12 rfl dX11_keep_11 rfl rfl ?_
  refine a_callVN (as := [.int y3]) (rest := []) (st2 := [.null]) (u1 := 0) (v1 := 0) (u2 := 0) (v2 := 0) (r_at_out hm hi3) (⟨_, _, _, _, rfl, rfl⟩) oX4_at q_446 q_448 q_9 rfl (by omega) (by decide) rfl (Nat.le_of_ble_eq_true rfl) 15 rfl dX11_keep_12 rfl ?_
  refine a_astoreN (lv' := [(5, .null), (4, .ref (g_ad G 29)), (0, .ref (g_ad G 0)), (1, .int 2), (2, .int y2), (3, .int y3)]) 17 rfl dX11_keep_15 (by decide) rfl ?_
  refine a_aload 1 19 rfl dX11_keep_17 rfl ?_
  refine a_ifnull 22 rfl dX11_keep_19 ?_
  refine a_aloadN 0 24 rfl dX11_keep_22 rfl ?_
  refine a_ifnonnullN 27 rfl dX11_keep_24 ?_
  refine a_iconst (x := (-1)) 28 rfl dX11_keep_27 (by decide) ?_
  exact a_ireturn .int rfl rfl (rfl) (rfl) dX11_keep_28
theorem r_X11_keep2_miss (hq : f_qs G C) (hf : f_is G C tl j o T) (ht : C.2.1 5 = 0) : g_Run G mX11_keep 5 0 0 [.ref (g_ad G 0), .int 2, .int y2, .int (nI j)] (g_hp G C tl) (some (.int (-11))) (g_hp G C tl) := by
  refine g_Run.of (lv := [(0, .ref (g_ad G 0)), (1, .int 2), (2, .int y2), (3, .int (nI j))]) (by decide) (Nat.le_of_ble_eq_true rfl) rfl ?_
  refine a_aload_n 0 1 rfl dX11_keep_0 rfl rfl ?_
  refine a_iload_n 1 2 rfl dX11_keep_1 rfl rfl ?_
  refine a_callV (as := [.int 2]) (rest := []) (st2 := [.ref (g_ad G 29)]) (u1 := 0) (v1 := 0) (u2 := 0) (v2 := 0) (r_shelfAt2 hq) (⟨_, _, _, _, rfl, rfl⟩) oX11_shelfAt q_908 q_910 q_54 rfl (by omega) (by decide) rfl (Nat.le_of_ble_eq_true rfl) 5 rfl dX11_keep_2 rfl ?_
  refine a_astore (lv' := [(4, .ref (g_ad G 29)), (0, .ref (g_ad G 0)), (1, .int 2), (2, .int y2), (3, .int (nI j))]) 7 rfl dX11_keep_5 (by decide) rfl ?_
  refine a_aload_n 1 8 rfl dX11_keep_7 rfl rfl ?_
  refine a_get 2 cl_10 f_RX11_28_10 (by decide) (rfl) rfl 11 rfl dX11_keep_8 ?_
  refine a_iload_n 4 12 rfl dX11_keep_11 rfl rfl ?_
  refine a_callVN (as := [.int (nI j)]) (rest := []) (st2 := [.ref (g_ad G (38 + o))]) (u1 := 0) (v1 := 0) (u2 := 0) (v2 := 0) (r_at_in hf) (⟨_, _, _, _, rfl, rfl⟩) oX4_at q_446 q_448 q_9 rfl (by omega) (by decide) rfl (Nat.le_of_ble_eq_true rfl) 15 rfl dX11_keep_12 rfl ?_
  refine a_astore (lv' := [(5, .ref (g_ad G (38 + o))), (4, .ref (g_ad G 29)), (0, .ref (g_ad G 0)), (1, .int 2), (2, .int y2), (3, .int (nI j))]) 17 rfl dX11_keep_15 (by decide) rfl ?_
  refine a_aload 1 19 rfl dX11_keep_17 rfl ?_
  refine a_ifnull 22 rfl dX11_keep_19 ?_
  refine a_aload 0 24 rfl dX11_keep_22 rfl ?_
  refine a_ifnonnull 29 dX11_keep_24 (by decide) ?_
  refine a_aload 1 31 rfl dX11_keep_29 rfl ?_
  refine a_callVN (as := []) (rest := []) (st2 := [.int (if C.2.1 5 = 0 then 1 else 0)]) (u1 := 0) (v1 := 0) (u2 := 0) (v2 := 0) (r_X9_isMissing rfl) (⟨_, _, _, _, rfl, rfl⟩) oX9_isMissing q_924 q_926 q_57 rfl (by omega) (by decide) rfl (Nat.le_of_ble_eq_true rfl) 34 rfl dX11_keep_31 rfl ?_
  refine a_if_eq 40 37 rfl dX11_keep_34 (by decide) (fun hc => absurd hc ((by rw [if_pos ht]; decide))) (fun _ => ?_)
  refine a_bipush (x := (-11)) 39 rfl dX11_keep_37 (by decide) ?_
  exact a_ireturn .int rfl rfl (rfl) (rfl) dX11_keep_39
theorem r_X11_keep2_out (hq : f_qs G C) (hf : f_is G C tl j o T) (ht : ¬ C.2.1 5 = 0) (hp : C.1 14 ≤ 6) (hno : ∀ i9 n9 : Nat, y2 = nI i9 → (1 : Int32) = nI n9 → ¬ i9 + n9 ≤ C.1 14) : g_Run G mX11_keep 5 0 0 [.ref (g_ad G 0), .int 2, .int y2, .int (nI j)] (g_hp G C tl) (some (.int (-13))) (g_hp G C tl) := by
  refine g_Run.of (lv := [(0, .ref (g_ad G 0)), (1, .int 2), (2, .int y2), (3, .int (nI j))]) (by decide) (Nat.le_of_ble_eq_true rfl) rfl ?_
  refine a_aload_n 0 1 rfl dX11_keep_0 rfl rfl ?_
  refine a_iload_n 1 2 rfl dX11_keep_1 rfl rfl ?_
  refine a_callV (as := [.int 2]) (rest := []) (st2 := [.ref (g_ad G 29)]) (u1 := 0) (v1 := 0) (u2 := 0) (v2 := 0) (r_shelfAt2 hq) (⟨_, _, _, _, rfl, rfl⟩) oX11_shelfAt q_908 q_910 q_54 rfl (by omega) (by decide) rfl (Nat.le_of_ble_eq_true rfl) 5 rfl dX11_keep_2 rfl ?_
  refine a_astore (lv' := [(4, .ref (g_ad G 29)), (0, .ref (g_ad G 0)), (1, .int 2), (2, .int y2), (3, .int (nI j))]) 7 rfl dX11_keep_5 (by decide) rfl ?_
  refine a_aload_n 1 8 rfl dX11_keep_7 rfl rfl ?_
  refine a_get 2 cl_10 f_RX11_28_10 (by decide) (rfl) rfl 11 rfl dX11_keep_8 ?_
  refine a_iload_n 4 12 rfl dX11_keep_11 rfl rfl ?_
  refine a_callVN (as := [.int (nI j)]) (rest := []) (st2 := [.ref (g_ad G (38 + o))]) (u1 := 0) (v1 := 0) (u2 := 0) (v2 := 0) (r_at_in hf) (⟨_, _, _, _, rfl, rfl⟩) oX4_at q_446 q_448 q_9 rfl (by omega) (by decide) rfl (Nat.le_of_ble_eq_true rfl) 15 rfl dX11_keep_12 rfl ?_
  refine a_astore (lv' := [(5, .ref (g_ad G (38 + o))), (4, .ref (g_ad G 29)), (0, .ref (g_ad G 0)), (1, .int 2), (2, .int y2), (3, .int (nI j))]) 17 rfl dX11_keep_15 (by decide) rfl ?_
  refine a_aload 1 19 rfl dX11_keep_17 rfl ?_
  refine a_ifnull 22 rfl dX11_keep_19 ?_
  refine a_aload 0 24 rfl dX11_keep_22 rfl ?_
  refine a_ifnonnull 29 dX11_keep_24 (by decide) ?_
  refine a_aload 1 31 rfl dX11_keep_29 rfl ?_
  refine a_callVN (as := []) (rest := []) (st2 := [.int (if C.2.1 5 = 0 then 1 else 0)]) (u1 := 0) (v1 := 0) (u2 := 0) (v2 := 0) (r_X9_isMissing rfl) (⟨_, _, _, _, rfl, rfl⟩) oX9_isMissing q_924 q_926 q_57 rfl (by omega) (by decide) rfl (Nat.le_of_ble_eq_true rfl) 34 rfl dX11_keep_31 rfl ?_
  refine a_if_eq 40 37 rfl dX11_keep_34 (by decide) (fun _ => ?_) (fun hc => absurd ((by rw [if_neg ht])) hc)
  refine a_aload 1 42 rfl dX11_keep_40 rfl ?_
  refine a_iload_n 4 43 rfl dX11_keep_42 rfl rfl ?_
  refine a_iconst (x := 1) 44 rfl dX11_keep_43 (by decide) ?_
  refine a_callVN (as := [.int y2, .int 1]) (rest := []) (st2 := [.int 0]) (u1 := 0) (v1 := 0) (u2 := 0) (v2 := 0) (r_X9_hasPlaces_f rfl hp hno) (⟨_, _, _, _, rfl, rfl⟩) oX9_hasPlaces q_928 q_930 q_58 rfl (by omega) (by decide) rfl (Nat.le_of_ble_eq_true rfl) 47 rfl dX11_keep_44 rfl ?_
  refine a_if_ne 53 50 rfl dX11_keep_47 (by decide) (fun hc => absurd (rfl) hc) (fun _ => ?_)
  refine a_bipush (x := (-13)) 52 rfl dX11_keep_50 (by decide) ?_
  exact a_ireturn .int rfl rfl (rfl) (rfl) dX11_keep_52
theorem r_X11_keep2 {s9 i9 : Nat} (hq : f_qs G C) (hf : f_is G C tl j o T) (ht : ¬ C.2.1 5 = 0) (hp : C.1 14 ≤ 6) (hi : i9 < C.1 14) (hs : C.2.1 8 = nI s9) (hs3 : s9 < 3) : g_Run G mX11_keep 5 0 0 [.ref (g_ad G 0), .int 2, .int (nI i9), .int (nI j)] (g_hp G C tl) (some (.int (if f_may s9 T.1 then 1 else -12))) (g_hp G (if f_may s9 T.1 then f_uR C 8 (va_up (C.2.2.2.2.2 8) i9 (some (g_ad G (38 + o)))) else C) tl) := by
  have hS : (g_hp G C tl)[29]? = some (c_Sh G 30 31 (C.2.1 5) (nI s9) (C.1 14)) := by rw [← hs]; rfl
  have w := r_X9_place (G := G) (h := g_hp G C tl) (a := 29) (ka := 30) (r := some (g_ad G (38 + o))) (k := some T.1) hS rfl hs3 hp hi ⟨_, _, _, rfl, f_T_at hf.2.2.2.1, hf.2.2.2.2.1⟩
  have em : f_mayo s9 (some T.1) = f_may s9 T.1 := rfl
  rw [em] at w
  refine g_Run.of (lv := [(0, .ref (g_ad G 0)), (1, .int 2), (2, .int (nI i9)), (3, .int (nI j))]) (by decide) (Nat.le_of_ble_eq_true rfl) rfl ?_
  refine a_aload_n 0 1 rfl dX11_keep_0 rfl rfl ?_
  refine a_iload_n 1 2 rfl dX11_keep_1 rfl rfl ?_
  refine a_callV (as := [.int 2]) (rest := []) (st2 := [.ref (g_ad G 29)]) (u1 := 0) (v1 := 0) (u2 := 0) (v2 := 0) (r_shelfAt2 hq) (⟨_, _, _, _, rfl, rfl⟩) oX11_shelfAt q_908 q_910 q_54 rfl (by omega) (by decide) rfl (Nat.le_of_ble_eq_true rfl) 5 rfl dX11_keep_2 rfl ?_
  refine a_astore (lv' := [(4, .ref (g_ad G 29)), (0, .ref (g_ad G 0)), (1, .int 2), (2, .int (nI i9)), (3, .int (nI j))]) 7 rfl dX11_keep_5 (by decide) rfl ?_
  refine a_aload_n 1 8 rfl dX11_keep_7 rfl rfl ?_
  refine a_get 2 cl_10 f_RX11_28_10 (by decide) (rfl) rfl 11 rfl dX11_keep_8 ?_
  refine a_iload_n 4 12 rfl dX11_keep_11 rfl rfl ?_
  refine a_callVN (as := [.int (nI j)]) (rest := []) (st2 := [.ref (g_ad G (38 + o))]) (u1 := 0) (v1 := 0) (u2 := 0) (v2 := 0) (r_at_in hf) (⟨_, _, _, _, rfl, rfl⟩) oX4_at q_446 q_448 q_9 rfl (by omega) (by decide) rfl (Nat.le_of_ble_eq_true rfl) 15 rfl dX11_keep_12 rfl ?_
  refine a_astore (lv' := [(5, .ref (g_ad G (38 + o))), (4, .ref (g_ad G 29)), (0, .ref (g_ad G 0)), (1, .int 2), (2, .int (nI i9)), (3, .int (nI j))]) 17 rfl dX11_keep_15 (by decide) rfl ?_
  refine a_aload 1 19 rfl dX11_keep_17 rfl ?_
  refine a_ifnull 22 rfl dX11_keep_19 ?_
  refine a_aload 0 24 rfl dX11_keep_22 rfl ?_
  refine a_ifnonnull 29 dX11_keep_24 (by decide) ?_
  refine a_aload 1 31 rfl dX11_keep_29 rfl ?_
  refine a_callVN (as := []) (rest := []) (st2 := [.int (if C.2.1 5 = 0 then 1 else 0)]) (u1 := 0) (v1 := 0) (u2 := 0) (v2 := 0) (r_X9_isMissing rfl) (⟨_, _, _, _, rfl, rfl⟩) oX9_isMissing q_924 q_926 q_57 rfl (by omega) (by decide) rfl (Nat.le_of_ble_eq_true rfl) 34 rfl dX11_keep_31 rfl ?_
  refine a_if_eq 40 37 rfl dX11_keep_34 (by decide) (fun _ => ?_) (fun hc => absurd ((by rw [if_neg ht])) hc)
  refine a_aload 1 42 rfl dX11_keep_40 rfl ?_
  refine a_iload_n 4 43 rfl dX11_keep_42 rfl rfl ?_
  refine a_iconst (x := 1) 44 rfl dX11_keep_43 (by decide) ?_
  refine a_callVN (as := [.int (nI i9), .int 1]) (rest := []) (st2 := [.int 1]) (u1 := 0) (v1 := 0) (u2 := 0) (v2 := 0) (r_X9_hasPlaces_t (n9 := 1) rfl hp (by omega)) (⟨_, _, _, _, rfl, rfl⟩) oX9_hasPlaces q_928 q_930 q_58 rfl (by omega) (by decide) rfl (Nat.le_of_ble_eq_true rfl) 47 rfl dX11_keep_44 rfl ?_
  refine a_if_ne 53 50 rfl dX11_keep_47 (by decide) (fun _ => ?_) (fun hc => absurd hc ((by decide)))
  refine a_aload 1 55 rfl dX11_keep_53 rfl ?_
  refine a_iload_n 4 56 rfl dX11_keep_55 rfl rfl ?_
  refine a_aload 0 58 rfl dX11_keep_56 rfl ?_
  by_cases hm : f_may s9 T.1 = true
  · rw [if_pos hm, if_pos hm] at w
    rw [if_pos hm, if_pos hm]
    refine a_callVN (as := [.int (nI i9), .ref (g_ad G (38 + o))]) (rest := []) (st2 := [.int 1]) (u1 := 0) (v1 := 0) (u2 := 0) (v2 := 0) (w) (⟨_, _, _, _, rfl, rfl⟩) oX9_place q_932 q_934 q_59 rfl (by omega) (by decide) rfl (Nat.le_of_ble_eq_true rfl) 61 rfl dX11_keep_58 rfl ?_
    refine a_if_eq 68 64 rfl dX11_keep_61 (by decide) (fun hc => absurd hc ((by decide))) (fun _ => ?_)
    refine a_iconst (x := 1) 65 rfl dX11_keep_64 (by decide) ?_
    refine a_goto 70 dX11_keep_65 (by decide) ?_
    refine a_eq (h2 := g_hp G (f_uR C 8 (va_up (C.2.2.2.2.2 8) i9 (some (g_ad G (38 + o))))) tl) rfl rfl rfl (rfl) ?_
    exact a_ireturn .int rfl rfl (rfl) (rfl) dX11_keep_70
  · rw [if_neg hm, if_neg hm] at w
    rw [if_neg hm, if_neg hm]
    refine a_callVN (as := [.int (nI i9), .ref (g_ad G (38 + o))]) (rest := []) (st2 := [.int 0]) (u1 := 0) (v1 := 0) (u2 := 0) (v2 := 0) (w) (⟨_, _, _, _, rfl, rfl⟩) oX9_place q_932 q_934 q_59 rfl (by omega) (by decide) rfl (Nat.le_of_ble_eq_true rfl) 61 rfl dX11_keep_58 rfl ?_
    refine a_if_eq 68 64 rfl dX11_keep_61 (by decide) (fun _ => ?_) (fun hc => absurd (rfl) hc)
    refine a_bipush (x := (-12)) 70 rfl dX11_keep_68 (by decide) ?_
    exact a_ireturn .int rfl rfl (rfl) (rfl) dX11_keep_70
theorem r_X11_kept2_out (hq : f_qs G C) (hp : C.1 14 ≤ 6) (hi : ¬ vp_in y2 (C.1 14)) : g_Run G mX11_kept 4 0 0 [.ref (g_ad G 0), .int 2, .int y2] (g_hp G C tl) (some (.long (-9223372036854775808))) (g_hp G C tl) := by
  refine g_Run.of (lv := [(0, .ref (g_ad G 0)), (1, .int 2), (2, .int y2)]) (by decide) (Nat.le_of_ble_eq_true rfl) rfl ?_
  refine a_aload_n 0 1 rfl dX11_kept_0 rfl rfl ?_
  refine a_iload_n 1 2 rfl dX11_kept_1 rfl rfl ?_
  refine a_callV (as := [.int 2]) (rest := []) (st2 := [.ref (g_ad G 29)]) (u1 := 0) (v1 := 0) (u2 := 0) (v2 := 0) (r_shelfAt2 hq) (⟨_, _, _, _, rfl, rfl⟩) oX11_shelfAt q_908 q_910 q_54 rfl (by omega) (by decide) rfl (Nat.le_of_ble_eq_true rfl) 5 rfl dX11_kept_2 rfl ?_
  refine a_astore_n (lv' := [(3, .ref (g_ad G 29)), (0, .ref (g_ad G 0)), (1, .int 2), (2, .int y2)]) 6 rfl dX11_kept_5 rfl (by decide) rfl ?_
  refine a_aload_n 0 7 rfl dX11_kept_6 rfl rfl ?_
  refine a_ifnonnull 14 dX11_kept_7 (by decide) ?_
  refine a_aload_n 0 15 rfl dX11_kept_14 rfl rfl ?_
  refine a_iload_n 3 16 rfl dX11_kept_15 rfl rfl ?_
  refine a_callVN (as := [.int y2]) (rest := []) (st2 := [.null]) (u1 := 0) (v1 := 0) (u2 := 0) (v2 := 0) (r_X9_at_out rfl hp hi) (⟨_, _, _, _, rfl, rfl⟩) oX9_at q_951 q_953 q_62 rfl (by omega) (by decide) rfl (Nat.le_of_ble_eq_true rfl) 19 rfl dX11_kept_16 rfl ?_
  refine a_astoreN (lv' := [(4, .null), (3, .ref (g_ad G 29)), (0, .ref (g_ad G 0)), (1, .int 2), (2, .int y2)]) 21 rfl dX11_kept_19 (by decide) rfl ?_
  refine a_aloadN 0 23 rfl dX11_kept_21 rfl ?_
  refine a_ifnonnullN 26 rfl dX11_kept_23 ?_
  refine a_ldc2 q_466 29 rfl dX11_kept_26 ?_
  refine a_goto 41 dX11_kept_29 (by decide) ?_
  exact a_lreturn rfl (rfl) (rfl) dX11_kept_41
theorem r_X11_kept2_none (hq : f_qs G C) (hp : C.1 14 ≤ 6) (hj : j < C.1 14) (hr : C.2.2.2.2.2 8 j = none) : g_Run G mX11_kept 4 0 0 [.ref (g_ad G 0), .int 2, .int (nI j)] (g_hp G C tl) (some (.long (-9223372036854775808))) (g_hp G C tl) := by
  have w := r_X9_at_in (G := G) (h := g_hp G C tl) (a := 29) (ka := 30) rfl rfl hp hj
  rw [hr] at w
  refine g_Run.of (lv := [(0, .ref (g_ad G 0)), (1, .int 2), (2, .int (nI j))]) (by decide) (Nat.le_of_ble_eq_true rfl) rfl ?_
  refine a_aload_n 0 1 rfl dX11_kept_0 rfl rfl ?_
  refine a_iload_n 1 2 rfl dX11_kept_1 rfl rfl ?_
  refine a_callV (as := [.int 2]) (rest := []) (st2 := [.ref (g_ad G 29)]) (u1 := 0) (v1 := 0) (u2 := 0) (v2 := 0) (r_shelfAt2 hq) (⟨_, _, _, _, rfl, rfl⟩) oX11_shelfAt q_908 q_910 q_54 rfl (by omega) (by decide) rfl (Nat.le_of_ble_eq_true rfl) 5 rfl dX11_kept_2 rfl ?_
  refine a_astore_n (lv' := [(3, .ref (g_ad G 29)), (0, .ref (g_ad G 0)), (1, .int 2), (2, .int (nI j))]) 6 rfl dX11_kept_5 rfl (by decide) rfl ?_
  refine a_aload_n 0 7 rfl dX11_kept_6 rfl rfl ?_
  refine a_ifnonnull 14 dX11_kept_7 (by decide) ?_
  refine a_aload_n 0 15 rfl dX11_kept_14 rfl rfl ?_
  refine a_iload_n 3 16 rfl dX11_kept_15 rfl rfl ?_
  refine a_callVN (as := [.int (nI j)]) (rest := []) (st2 := [.null]) (u1 := 0) (v1 := 0) (u2 := 0) (v2 := 0) (w) (⟨_, _, _, _, rfl, rfl⟩) oX9_at q_951 q_953 q_62 rfl (by omega) (by decide) rfl (Nat.le_of_ble_eq_true rfl) 19 rfl dX11_kept_16 rfl ?_
  refine a_astoreN (lv' := [(4, .null), (3, .ref (g_ad G 29)), (0, .ref (g_ad G 0)), (1, .int 2), (2, .int (nI j))]) 21 rfl dX11_kept_19 (by decide) rfl ?_
  refine a_aloadN 0 23 rfl dX11_kept_21 rfl ?_
  refine a_ifnonnullN 26 rfl dX11_kept_23 ?_
  refine a_ldc2 q_466 29 rfl dX11_kept_26 ?_
  refine a_goto 41 dX11_kept_29 (by decide) ?_
  exact a_lreturn rfl (rfl) (rfl) dX11_kept_41
theorem r_X11_kept2 (hq : f_qs G C) (hn : C.1 0 ≤ 6) (hp : C.1 14 ≤ 6) (hj : j < C.1 14) (hr : C.2.2.2.2.2 8 j = some (g_ad G (38 + o))) (ht : tl[o]? = some (c_Fa T)) (hk : T.1 < 6) : g_Run G mX11_kept 4 0 0 [.ref (g_ad G 0), .int 2, .int (nI j)] (g_hp G C tl) (some (.long (f_so C T))) (g_hp G C tl) := by
  have w := r_X9_at_in (G := G) (h := g_hp G C tl) (a := 29) (ka := 30) rfl rfl hp hj
  rw [hr] at w
  have w2 := r_X3_setsOf (G := G) (h := g_hp G C tl) (a := 1) (ka := 2) (n := C.1 0) rfl (f_T_at ht) hn hk
  refine g_Run.of (lv := [(0, .ref (g_ad G 0)), (1, .int 2), (2, .int (nI j))]) (by decide) (Nat.le_of_ble_eq_true rfl) rfl ?_
  refine a_aload_n 0 1 rfl dX11_kept_0 rfl rfl ?_
  refine a_iload_n 1 2 rfl dX11_kept_1 rfl rfl ?_
  refine a_callV (as := [.int 2]) (rest := []) (st2 := [.ref (g_ad G 29)]) (u1 := 0) (v1 := 0) (u2 := 0) (v2 := 0) (r_shelfAt2 hq) (⟨_, _, _, _, rfl, rfl⟩) oX11_shelfAt q_908 q_910 q_54 rfl (by omega) (by decide) rfl (Nat.le_of_ble_eq_true rfl) 5 rfl dX11_kept_2 rfl ?_
  refine a_astore_n (lv' := [(3, .ref (g_ad G 29)), (0, .ref (g_ad G 0)), (1, .int 2), (2, .int (nI j))]) 6 rfl dX11_kept_5 rfl (by decide) rfl ?_
  refine a_aload_n 0 7 rfl dX11_kept_6 rfl rfl ?_
  refine a_ifnonnull 14 dX11_kept_7 (by decide) ?_
  refine a_aload_n 0 15 rfl dX11_kept_14 rfl rfl ?_
  refine a_iload_n 3 16 rfl dX11_kept_15 rfl rfl ?_
  refine a_callVN (as := [.int (nI j)]) (rest := []) (st2 := [.ref (g_ad G (38 + o))]) (u1 := 0) (v1 := 0) (u2 := 0) (v2 := 0) (w) (⟨_, _, _, _, rfl, rfl⟩) oX9_at q_951 q_953 q_62 rfl (by omega) (by decide) rfl (Nat.le_of_ble_eq_true rfl) 19 rfl dX11_kept_16 rfl ?_
  refine a_astore (lv' := [(4, .ref (g_ad G (38 + o))), (3, .ref (g_ad G 29)), (0, .ref (g_ad G 0)), (1, .int 2), (2, .int (nI j))]) 21 rfl dX11_kept_19 (by decide) rfl ?_
  refine a_aload 0 23 rfl dX11_kept_21 rfl ?_
  refine a_ifnonnull 32 dX11_kept_23 (by decide) ?_
  refine a_aload_n 2 33 rfl dX11_kept_32 rfl rfl ?_
  refine a_get 0 cl_10 f_RX11_12_10 (by decide) (rfl) rfl 36 rfl dX11_kept_33 ?_
  refine a_aload 0 38 rfl dX11_kept_36 rfl ?_
  refine a_callVN (as := [.ref (g_ad G (38 + o))]) (rest := []) (st2 := [.long (f_so C T)]) (u1 := 0) (v1 := 0) (u2 := 0) (v2 := 0) (w2) (⟨_, _, _, _, rfl, rfl⟩) oX3_setsOf q_467 q_469 q_13 rfl (by omega) (by decide) rfl (Nat.le_of_ble_eq_true rfl) 41 rfl dX11_kept_38 rfl ?_
  exact a_lreturn rfl (rfl) (rfl) dX11_kept_41

theorem r_X11_like01_miss (hq : f_qs G C) (ht : C.2.1 4 = 0) : g_Run G mX11_like 3 0 0 [.ref (g_ad G 0), .int 0, .int 1] (g_hp G C tl) (some (.int (-11))) (g_hp G C tl) := by
  refine g_Run.of (lv := [(0, .ref (g_ad G 0)), (1, .int 0), (2, .int 1)]) (by decide) (Nat.le_of_ble_eq_true rfl) rfl ?_
  refine a_aload_n 0 1 rfl dX11_like_0 rfl rfl ?_
  refine a_iload_n 1 2 rfl dX11_like_1 rfl rfl ?_
  refine a_callV (as := [.int 0]) (rest := []) (st2 := [.ref (g_ad G 23)]) (u1 := 0) (v1 := 0) (u2 := 0) (v2 := 0) (r_shelfAt0 hq) (⟨_, _, _, _, rfl, rfl⟩) oX11_shelfAt q_908 q_910 q_54 rfl (by omega) (by decide) rfl (Nat.le_of_ble_eq_true rfl) 5 rfl dX11_like_2 rfl ?_
  refine a_astore_n (lv' := [(3, .ref (g_ad G 23)), (0, .ref (g_ad G 0)), (1, .int 0), (2, .int 1)]) 6 rfl dX11_like_5 rfl (by decide) rfl ?_
  refine a_aload_n 1 7 rfl dX11_like_6 rfl rfl ?_
  refine a_iload_n 3 8 rfl dX11_like_7 rfl rfl ?_
  refine a_callV (as := [.int 1]) (rest := []) (st2 := [.ref (g_ad G 26)]) (u1 := 0) (v1 := 0) (u2 := 0) (v2 := 0) (r_shelfAt1 hq) (⟨_, _, _, _, rfl, rfl⟩) oX11_shelfAt q_908 q_910 q_54 rfl (by omega) (by decide) rfl (Nat.le_of_ble_eq_true rfl) 11 rfl dX11_like_8 rfl ?_
  refine a_astore (lv' := [(4, .ref (g_ad G 26)), (3, .ref (g_ad G 23)), (0, .ref (g_ad G 0)), (1, .int 0), (2, .int 1)]) 13 rfl dX11_like_11 (by decide) rfl ?_
  refine a_aload_n 1 14 rfl dX11_like_13 rfl rfl ?_
  refine a_ifnull 17 rfl dX11_like_14 ?_
  refine a_aload 0 19 rfl dX11_like_17 rfl ?_
  refine a_ifnull 22 rfl dX11_like_19 ?_
  refine a_aload_n 1 23 rfl dX11_like_22 rfl rfl ?_
  refine a_aload 0 25 rfl dX11_like_23 rfl ?_
  refine a_acmp_ne (rx := some (g_ad G 23)) (ry := some (g_ad G 26)) 30 28 rfl dX11_like_25 (by decide) (fun _ => ?_) (fun hc => absurd hc ((fun z => by injection z with z; unfold g_ad at z; omega)))
  refine a_aload 0 32 rfl dX11_like_30 rfl ?_
  refine a_callVN (as := []) (rest := []) (st2 := [.int (if C.2.1 4 = 0 then 1 else 0)]) (u1 := 0) (v1 := 0) (u2 := 0) (v2 := 0) (r_X9_isMissing rfl) (⟨_, _, _, _, rfl, rfl⟩) oX9_isMissing q_924 q_926 q_57 rfl (by omega) (by decide) rfl (Nat.le_of_ble_eq_true rfl) 35 rfl dX11_like_32 rfl ?_
  refine a_if_eq 41 38 rfl dX11_like_35 (by decide) (fun hc => absurd hc ((by rw [if_pos ht]; decide))) (fun _ => ?_)
  refine a_bipush (x := (-11)) 40 rfl dX11_like_38 (by decide) ?_
  exact a_ireturn .int rfl rfl (rfl) (rfl) dX11_like_40
theorem r_X11_like01 (hq : f_qs G C) (ht : ¬ C.2.1 4 = 0) (hp : C.1 13 ≤ 6) (hr : ∀ j, j < C.1 13 → f_fo G tl (C.2.2.2.2.2 7 j)) : ∃ f2 : Nat → Option Nat, (∀ j, j < 6 → f2 j = if j < C.1 13 then C.2.2.2.2.2 7 j else none) ∧ g_Run G mX11_like 3 0 0 [.ref (g_ad G 0), .int 0, .int 1] (g_hp G C tl) (some (.int (nI (C.1 13)))) (g_hp G (f_uR (f_un (f_ui (f_ui C 3 1) 6 (C.2.1 7)) 12 (C.1 13)) 6 f2) tl) := by
  obtain ⟨f2, e2, w⟩ := r_X9_becomeLike (G := G) (h := g_hp G C tl) (a := 23) (ka := 24) (kc := 25) (b := 26) (kb := 27) (kd := 28) (y5 := C.2.1 4) (s8 := C.2.1 7) (p8 := C.1 13) (f8 := C.2.2.2.2.2 7) rfl rfl rfl rfl hp (fun j hj => (hr j hj).fam) (by decide) (by decide) (by decide) (by decide) (by decide)
  refine ⟨f2, e2, ?_⟩
  refine g_Run.of (lv := [(0, .ref (g_ad G 0)), (1, .int 0), (2, .int 1)]) (by decide) (Nat.le_of_ble_eq_true rfl) rfl ?_
  refine a_aload_n 0 1 rfl dX11_like_0 rfl rfl ?_
  refine a_iload_n 1 2 rfl dX11_like_1 rfl rfl ?_
  refine a_callV (as := [.int 0]) (rest := []) (st2 := [.ref (g_ad G 23)]) (u1 := 0) (v1 := 0) (u2 := 0) (v2 := 0) (r_shelfAt0 hq) (⟨_, _, _, _, rfl, rfl⟩) oX11_shelfAt q_908 q_910 q_54 rfl (by omega) (by decide) rfl (Nat.le_of_ble_eq_true rfl) 5 rfl dX11_like_2 rfl ?_
  refine a_astore_n (lv' := [(3, .ref (g_ad G 23)), (0, .ref (g_ad G 0)), (1, .int 0), (2, .int 1)]) 6 rfl dX11_like_5 rfl (by decide) rfl ?_
  refine a_aload_n 1 7 rfl dX11_like_6 rfl rfl ?_
  refine a_iload_n 3 8 rfl dX11_like_7 rfl rfl ?_
  refine a_callV (as := [.int 1]) (rest := []) (st2 := [.ref (g_ad G 26)]) (u1 := 0) (v1 := 0) (u2 := 0) (v2 := 0) (r_shelfAt1 hq) (⟨_, _, _, _, rfl, rfl⟩) oX11_shelfAt q_908 q_910 q_54 rfl (by omega) (by decide) rfl (Nat.le_of_ble_eq_true rfl) 11 rfl dX11_like_8 rfl ?_
  refine a_astore (lv' := [(4, .ref (g_ad G 26)), (3, .ref (g_ad G 23)), (0, .ref (g_ad G 0)), (1, .int 0), (2, .int 1)]) 13 rfl dX11_like_11 (by decide) rfl ?_
  refine a_aload_n 1 14 rfl dX11_like_13 rfl rfl ?_
  refine a_ifnull 17 rfl dX11_like_14 ?_
  refine a_aload 0 19 rfl dX11_like_17 rfl ?_
  refine a_ifnull 22 rfl dX11_like_19 ?_
  refine a_aload_n 1 23 rfl dX11_like_22 rfl rfl ?_
  refine a_aload 0 25 rfl dX11_like_23 rfl ?_
  refine a_acmp_ne (rx := some (g_ad G 23)) (ry := some (g_ad G 26)) 30 28 rfl dX11_like_25 (by decide) (fun _ => ?_) (fun hc => absurd hc ((fun z => by injection z with z; unfold g_ad at z; omega)))
  refine a_aload 0 32 rfl dX11_like_30 rfl ?_
  refine a_callVN (as := []) (rest := []) (st2 := [.int (if C.2.1 4 = 0 then 1 else 0)]) (u1 := 0) (v1 := 0) (u2 := 0) (v2 := 0) (r_X9_isMissing rfl) (⟨_, _, _, _, rfl, rfl⟩) oX9_isMissing q_924 q_926 q_57 rfl (by omega) (by decide) rfl (Nat.le_of_ble_eq_true rfl) 35 rfl dX11_like_32 rfl ?_
  refine a_if_eq 41 38 rfl dX11_like_35 (by decide) (fun _ => ?_) (fun hc => absurd ((by rw [if_neg ht])) hc)
  refine a_aload_n 1 42 rfl dX11_like_41 rfl rfl ?_
  refine a_aload 0 44 rfl dX11_like_42 rfl ?_
  refine a_callVN (as := [.ref (g_ad G 26)]) (rest := []) (st2 := []) (u1 := 0) (v1 := 0) (u2 := 0) (v2 := 0) (w) (⟨_, _, _, _, rfl, rfl⟩) oX9_becomeLike q_959 q_961 q_63 rfl (by omega) (by decide) rfl (Nat.le_of_ble_eq_true rfl) 47 rfl dX11_like_44 rfl ?_
  refine a_eq (h2 := g_hp G (f_uR (f_un (f_ui (f_ui C 3 1) 6 (C.2.1 7)) 12 (C.1 13)) 6 f2) tl) rfl rfl rfl (rfl) ?_
  refine a_aload_n 1 48 rfl dX11_like_47 rfl rfl ?_
  refine a_callVN (as := []) (rest := []) (st2 := [.int (nI (C.1 13))]) (u1 := 0) (v1 := 0) (u2 := 0) (v2 := 0) (r_X9_places rfl) (⟨_, _, _, _, rfl, rfl⟩) oX9_places q_965 q_967 q_64 rfl (by omega) (by decide) rfl (Nat.le_of_ble_eq_true rfl) 51 rfl dX11_like_48 rfl ?_
  exact a_ireturn .int rfl rfl (rfl) (rfl) dX11_like_51

theorem r_X11_like02_miss (hq : f_qs G C) (ht : C.2.1 5 = 0) : g_Run G mX11_like 3 0 0 [.ref (g_ad G 0), .int 0, .int 2] (g_hp G C tl) (some (.int (-11))) (g_hp G C tl) := by
  refine g_Run.of (lv := [(0, .ref (g_ad G 0)), (1, .int 0), (2, .int 2)]) (by decide) (Nat.le_of_ble_eq_true rfl) rfl ?_
  refine a_aload_n 0 1 rfl dX11_like_0 rfl rfl ?_
  refine a_iload_n 1 2 rfl dX11_like_1 rfl rfl ?_
  refine a_callV (as := [.int 0]) (rest := []) (st2 := [.ref (g_ad G 23)]) (u1 := 0) (v1 := 0) (u2 := 0) (v2 := 0) (r_shelfAt0 hq) (⟨_, _, _, _, rfl, rfl⟩) oX11_shelfAt q_908 q_910 q_54 rfl (by omega) (by decide) rfl (Nat.le_of_ble_eq_true rfl) 5 rfl dX11_like_2 rfl ?_
  refine a_astore_n (lv' := [(3, .ref (g_ad G 23)), (0, .ref (g_ad G 0)), (1, .int 0), (2, .int 2)]) 6 rfl dX11_like_5 rfl (by decide) rfl ?_
  refine a_aload_n 1 7 rfl dX11_like_6 rfl rfl ?_
  refine a_iload_n 3 8 rfl dX11_like_7 rfl rfl ?_
  refine a_callV (as := [.int 2]) (rest := []) (st2 := [.ref (g_ad G 29)]) (u1 := 0) (v1 := 0) (u2 := 0) (v2 := 0) (r_shelfAt2 hq) (⟨_, _, _, _, rfl, rfl⟩) oX11_shelfAt q_908 q_910 q_54 rfl (by omega) (by decide) rfl (Nat.le_of_ble_eq_true rfl) 11 rfl dX11_like_8 rfl ?_
  refine a_astore (lv' := [(4, .ref (g_ad G 29)), (3, .ref (g_ad G 23)), (0, .ref (g_ad G 0)), (1, .int 0), (2, .int 2)]) 13 rfl dX11_like_11 (by decide) rfl ?_
  refine a_aload_n 1 14 rfl dX11_like_13 rfl rfl ?_
  refine a_ifnull 17 rfl dX11_like_14 ?_
  refine a_aload 0 19 rfl dX11_like_17 rfl ?_
  refine a_ifnull 22 rfl dX11_like_19 ?_
  refine a_aload_n 1 23 rfl dX11_like_22 rfl rfl ?_
  refine a_aload 0 25 rfl dX11_like_23 rfl ?_
  refine a_acmp_ne (rx := some (g_ad G 23)) (ry := some (g_ad G 29)) 30 28 rfl dX11_like_25 (by decide) (fun _ => ?_) (fun hc => absurd hc ((fun z => by injection z with z; unfold g_ad at z; omega)))
  refine a_aload 0 32 rfl dX11_like_30 rfl ?_
  refine a_callVN (as := []) (rest := []) (st2 := [.int (if C.2.1 5 = 0 then 1 else 0)]) (u1 := 0) (v1 := 0) (u2 := 0) (v2 := 0) (r_X9_isMissing rfl) (⟨_, _, _, _, rfl, rfl⟩) oX9_isMissing q_924 q_926 q_57 rfl (by omega) (by decide) rfl (Nat.le_of_ble_eq_true rfl) 35 rfl dX11_like_32 rfl ?_
  refine a_if_eq 41 38 rfl dX11_like_35 (by decide) (fun hc => absurd hc ((by rw [if_pos ht]; decide))) (fun _ => ?_)
  refine a_bipush (x := (-11)) 40 rfl dX11_like_38 (by decide) ?_
  exact a_ireturn .int rfl rfl (rfl) (rfl) dX11_like_40
theorem r_X11_like02 (hq : f_qs G C) (ht : ¬ C.2.1 5 = 0) (hp : C.1 14 ≤ 6) (hr : ∀ j, j < C.1 14 → f_fo G tl (C.2.2.2.2.2 8 j)) : ∃ f2 : Nat → Option Nat, (∀ j, j < 6 → f2 j = if j < C.1 14 then C.2.2.2.2.2 8 j else none) ∧ g_Run G mX11_like 3 0 0 [.ref (g_ad G 0), .int 0, .int 2] (g_hp G C tl) (some (.int (nI (C.1 14)))) (g_hp G (f_uR (f_un (f_ui (f_ui C 3 1) 6 (C.2.1 8)) 12 (C.1 14)) 6 f2) tl) := by
  obtain ⟨f2, e2, w⟩ := r_X9_becomeLike (G := G) (h := g_hp G C tl) (a := 23) (ka := 24) (kc := 25) (b := 29) (kb := 30) (kd := 31) (y5 := C.2.1 5) (s8 := C.2.1 8) (p8 := C.1 14) (f8 := C.2.2.2.2.2 8) rfl rfl rfl rfl hp (fun j hj => (hr j hj).fam) (by decide) (by decide) (by decide) (by decide) (by decide)
  refine ⟨f2, e2, ?_⟩
  refine g_Run.of (lv := [(0, .ref (g_ad G 0)), (1, .int 0), (2, .int 2)]) (by decide) (Nat.le_of_ble_eq_true rfl) rfl ?_
  refine a_aload_n 0 1 rfl dX11_like_0 rfl rfl ?_
  refine a_iload_n 1 2 rfl dX11_like_1 rfl rfl ?_
  refine a_callV (as := [.int 0]) (rest := []) (st2 := [.ref (g_ad G 23)]) (u1 := 0) (v1 := 0) (u2 := 0) (v2 := 0) (r_shelfAt0 hq) (⟨_, _, _, _, rfl, rfl⟩) oX11_shelfAt q_908 q_910 q_54 rfl (by omega) (by decide) rfl (Nat.le_of_ble_eq_true rfl) 5 rfl dX11_like_2 rfl ?_
  refine a_astore_n (lv' := [(3, .ref (g_ad G 23)), (0, .ref (g_ad G 0)), (1, .int 0), (2, .int 2)]) 6 rfl dX11_like_5 rfl (by decide) rfl ?_
  refine a_aload_n 1 7 rfl dX11_like_6 rfl rfl ?_
  refine a_iload_n 3 8 rfl dX11_like_7 rfl rfl ?_
  refine a_callV (as := [.int 2]) (rest := []) (st2 := [.ref (g_ad G 29)]) (u1 := 0) (v1 := 0) (u2 := 0) (v2 := 0) (r_shelfAt2 hq) (⟨_, _, _, _, rfl, rfl⟩) oX11_shelfAt q_908 q_910 q_54 rfl (by omega) (by decide) rfl (Nat.le_of_ble_eq_true rfl) 11 rfl dX11_like_8 rfl ?_
  refine a_astore (lv' := [(4, .ref (g_ad G 29)), (3, .ref (g_ad G 23)), (0, .ref (g_ad G 0)), (1, .int 0), (2, .int 2)]) 13 rfl dX11_like_11 (by decide) rfl ?_
  refine a_aload_n 1 14 rfl dX11_like_13 rfl rfl ?_
  refine a_ifnull 17 rfl dX11_like_14 ?_
  refine a_aload 0 19 rfl dX11_like_17 rfl ?_
  refine a_ifnull 22 rfl dX11_like_19 ?_
  refine a_aload_n 1 23 rfl dX11_like_22 rfl rfl ?_
  refine a_aload 0 25 rfl dX11_like_23 rfl ?_
  refine a_acmp_ne (rx := some (g_ad G 23)) (ry := some (g_ad G 29)) 30 28 rfl dX11_like_25 (by decide) (fun _ => ?_) (fun hc => absurd hc ((fun z => by injection z with z; unfold g_ad at z; omega)))
  refine a_aload 0 32 rfl dX11_like_30 rfl ?_
  refine a_callVN (as := []) (rest := []) (st2 := [.int (if C.2.1 5 = 0 then 1 else 0)]) (u1 := 0) (v1 := 0) (u2 := 0) (v2 := 0) (r_X9_isMissing rfl) (⟨_, _, _, _, rfl, rfl⟩) oX9_isMissing q_924 q_926 q_57 rfl (by omega) (by decide) rfl (Nat.le_of_ble_eq_true rfl) 35 rfl dX11_like_32 rfl ?_
  refine a_if_eq 41 38 rfl dX11_like_35 (by decide) (fun _ => ?_) (fun hc => absurd ((by rw [if_neg ht])) hc)
  refine a_aload_n 1 42 rfl dX11_like_41 rfl rfl ?_
  refine a_aload 0 44 rfl dX11_like_42 rfl ?_
  refine a_callVN (as := [.ref (g_ad G 29)]) (rest := []) (st2 := []) (u1 := 0) (v1 := 0) (u2 := 0) (v2 := 0) (w) (⟨_, _, _, _, rfl, rfl⟩) oX9_becomeLike q_959 q_961 q_63 rfl (by omega) (by decide) rfl (Nat.le_of_ble_eq_true rfl) 47 rfl dX11_like_44 rfl ?_
  refine a_eq (h2 := g_hp G (f_uR (f_un (f_ui (f_ui C 3 1) 6 (C.2.1 8)) 12 (C.1 14)) 6 f2) tl) rfl rfl rfl (rfl) ?_
  refine a_aload_n 1 48 rfl dX11_like_47 rfl rfl ?_
  refine a_callVN (as := []) (rest := []) (st2 := [.int (nI (C.1 14))]) (u1 := 0) (v1 := 0) (u2 := 0) (v2 := 0) (r_X9_places rfl) (⟨_, _, _, _, rfl, rfl⟩) oX9_places q_965 q_967 q_64 rfl (by omega) (by decide) rfl (Nat.le_of_ble_eq_true rfl) 51 rfl dX11_like_48 rfl ?_
  exact a_ireturn .int rfl rfl (rfl) (rfl) dX11_like_51

theorem r_X11_like10_miss (hq : f_qs G C) (ht : C.2.1 3 = 0) : g_Run G mX11_like 3 0 0 [.ref (g_ad G 0), .int 1, .int 0] (g_hp G C tl) (some (.int (-11))) (g_hp G C tl) := by
  refine g_Run.of (lv := [(0, .ref (g_ad G 0)), (1, .int 1), (2, .int 0)]) (by decide) (Nat.le_of_ble_eq_true rfl) rfl ?_
  refine a_aload_n 0 1 rfl dX11_like_0 rfl rfl ?_
  refine a_iload_n 1 2 rfl dX11_like_1 rfl rfl ?_
  refine a_callV (as := [.int 1]) (rest := []) (st2 := [.ref (g_ad G 26)]) (u1 := 0) (v1 := 0) (u2 := 0) (v2 := 0) (r_shelfAt1 hq) (⟨_, _, _, _, rfl, rfl⟩) oX11_shelfAt q_908 q_910 q_54 rfl (by omega) (by decide) rfl (Nat.le_of_ble_eq_true rfl) 5 rfl dX11_like_2 rfl ?_
  refine a_astore_n (lv' := [(3, .ref (g_ad G 26)), (0, .ref (g_ad G 0)), (1, .int 1), (2, .int 0)]) 6 rfl dX11_like_5 rfl (by decide) rfl ?_
  refine a_aload_n 1 7 rfl dX11_like_6 rfl rfl ?_
  refine a_iload_n 3 8 rfl dX11_like_7 rfl rfl ?_
  refine a_callV (as := [.int 0]) (rest := []) (st2 := [.ref (g_ad G 23)]) (u1 := 0) (v1 := 0) (u2 := 0) (v2 := 0) (r_shelfAt0 hq) (⟨_, _, _, _, rfl, rfl⟩) oX11_shelfAt q_908 q_910 q_54 rfl (by omega) (by decide) rfl (Nat.le_of_ble_eq_true rfl) 11 rfl dX11_like_8 rfl ?_
  refine a_astore (lv' := [(4, .ref (g_ad G 23)), (3, .ref (g_ad G 26)), (0, .ref (g_ad G 0)), (1, .int 1), (2, .int 0)]) 13 rfl dX11_like_11 (by decide) rfl ?_
  refine a_aload_n 1 14 rfl dX11_like_13 rfl rfl ?_
  refine a_ifnull 17 rfl dX11_like_14 ?_
  refine a_aload 0 19 rfl dX11_like_17 rfl ?_
  refine a_ifnull 22 rfl dX11_like_19 ?_
  refine a_aload_n 1 23 rfl dX11_like_22 rfl rfl ?_
  refine a_aload 0 25 rfl dX11_like_23 rfl ?_
  refine a_acmp_ne (rx := some (g_ad G 26)) (ry := some (g_ad G 23)) 30 28 rfl dX11_like_25 (by decide) (fun _ => ?_) (fun hc => absurd hc ((fun z => by injection z with z; unfold g_ad at z; omega)))
  refine a_aload 0 32 rfl dX11_like_30 rfl ?_
  refine a_callVN (as := []) (rest := []) (st2 := [.int (if C.2.1 3 = 0 then 1 else 0)]) (u1 := 0) (v1 := 0) (u2 := 0) (v2 := 0) (r_X9_isMissing rfl) (⟨_, _, _, _, rfl, rfl⟩) oX9_isMissing q_924 q_926 q_57 rfl (by omega) (by decide) rfl (Nat.le_of_ble_eq_true rfl) 35 rfl dX11_like_32 rfl ?_
  refine a_if_eq 41 38 rfl dX11_like_35 (by decide) (fun hc => absurd hc ((by rw [if_pos ht]; decide))) (fun _ => ?_)
  refine a_bipush (x := (-11)) 40 rfl dX11_like_38 (by decide) ?_
  exact a_ireturn .int rfl rfl (rfl) (rfl) dX11_like_40
theorem r_X11_like10 (hq : f_qs G C) (ht : ¬ C.2.1 3 = 0) (hp : C.1 12 ≤ 6) (hr : ∀ j, j < C.1 12 → f_fo G tl (C.2.2.2.2.2 6 j)) : ∃ f2 : Nat → Option Nat, (∀ j, j < 6 → f2 j = if j < C.1 12 then C.2.2.2.2.2 6 j else none) ∧ g_Run G mX11_like 3 0 0 [.ref (g_ad G 0), .int 1, .int 0] (g_hp G C tl) (some (.int (nI (C.1 12)))) (g_hp G (f_uR (f_un (f_ui (f_ui C 4 1) 7 (C.2.1 6)) 13 (C.1 12)) 7 f2) tl) := by
  obtain ⟨f2, e2, w⟩ := r_X9_becomeLike (G := G) (h := g_hp G C tl) (a := 26) (ka := 27) (kc := 28) (b := 23) (kb := 24) (kd := 25) (y5 := C.2.1 3) (s8 := C.2.1 6) (p8 := C.1 12) (f8 := C.2.2.2.2.2 6) rfl rfl rfl rfl hp (fun j hj => (hr j hj).fam) (by decide) (by decide) (by decide) (by decide) (by decide)
  refine ⟨f2, e2, ?_⟩
  refine g_Run.of (lv := [(0, .ref (g_ad G 0)), (1, .int 1), (2, .int 0)]) (by decide) (Nat.le_of_ble_eq_true rfl) rfl ?_
  refine a_aload_n 0 1 rfl dX11_like_0 rfl rfl ?_
  refine a_iload_n 1 2 rfl dX11_like_1 rfl rfl ?_
  refine a_callV (as := [.int 1]) (rest := []) (st2 := [.ref (g_ad G 26)]) (u1 := 0) (v1 := 0) (u2 := 0) (v2 := 0) (r_shelfAt1 hq) (⟨_, _, _, _, rfl, rfl⟩) oX11_shelfAt q_908 q_910 q_54 rfl (by omega) (by decide) rfl (Nat.le_of_ble_eq_true rfl) 5 rfl dX11_like_2 rfl ?_
  refine a_astore_n (lv' := [(3, .ref (g_ad G 26)), (0, .ref (g_ad G 0)), (1, .int 1), (2, .int 0)]) 6 rfl dX11_like_5 rfl (by decide) rfl ?_
  refine a_aload_n 1 7 rfl dX11_like_6 rfl rfl ?_
  refine a_iload_n 3 8 rfl dX11_like_7 rfl rfl ?_
  refine a_callV (as := [.int 0]) (rest := []) (st2 := [.ref (g_ad G 23)]) (u1 := 0) (v1 := 0) (u2 := 0) (v2 := 0) (r_shelfAt0 hq) (⟨_, _, _, _, rfl, rfl⟩) oX11_shelfAt q_908 q_910 q_54 rfl (by omega) (by decide) rfl (Nat.le_of_ble_eq_true rfl) 11 rfl dX11_like_8 rfl ?_
  refine a_astore (lv' := [(4, .ref (g_ad G 23)), (3, .ref (g_ad G 26)), (0, .ref (g_ad G 0)), (1, .int 1), (2, .int 0)]) 13 rfl dX11_like_11 (by decide) rfl ?_
  refine a_aload_n 1 14 rfl dX11_like_13 rfl rfl ?_
  refine a_ifnull 17 rfl dX11_like_14 ?_
  refine a_aload 0 19 rfl dX11_like_17 rfl ?_
  refine a_ifnull 22 rfl dX11_like_19 ?_
  refine a_aload_n 1 23 rfl dX11_like_22 rfl rfl ?_
  refine a_aload 0 25 rfl dX11_like_23 rfl ?_
  refine a_acmp_ne (rx := some (g_ad G 26)) (ry := some (g_ad G 23)) 30 28 rfl dX11_like_25 (by decide) (fun _ => ?_) (fun hc => absurd hc ((fun z => by injection z with z; unfold g_ad at z; omega)))
  refine a_aload 0 32 rfl dX11_like_30 rfl ?_
  refine a_callVN (as := []) (rest := []) (st2 := [.int (if C.2.1 3 = 0 then 1 else 0)]) (u1 := 0) (v1 := 0) (u2 := 0) (v2 := 0) (r_X9_isMissing rfl) (⟨_, _, _, _, rfl, rfl⟩) oX9_isMissing q_924 q_926 q_57 rfl (by omega) (by decide) rfl (Nat.le_of_ble_eq_true rfl) 35 rfl dX11_like_32 rfl ?_
  refine a_if_eq 41 38 rfl dX11_like_35 (by decide) (fun _ => ?_) (fun hc => absurd ((by rw [if_neg ht])) hc)
  refine a_aload_n 1 42 rfl dX11_like_41 rfl rfl ?_
  refine a_aload 0 44 rfl dX11_like_42 rfl ?_
  refine a_callVN (as := [.ref (g_ad G 23)]) (rest := []) (st2 := []) (u1 := 0) (v1 := 0) (u2 := 0) (v2 := 0) (w) (⟨_, _, _, _, rfl, rfl⟩) oX9_becomeLike q_959 q_961 q_63 rfl (by omega) (by decide) rfl (Nat.le_of_ble_eq_true rfl) 47 rfl dX11_like_44 rfl ?_
  refine a_eq (h2 := g_hp G (f_uR (f_un (f_ui (f_ui C 4 1) 7 (C.2.1 6)) 13 (C.1 12)) 7 f2) tl) rfl rfl rfl (rfl) ?_
  refine a_aload_n 1 48 rfl dX11_like_47 rfl rfl ?_
  refine a_callVN (as := []) (rest := []) (st2 := [.int (nI (C.1 12))]) (u1 := 0) (v1 := 0) (u2 := 0) (v2 := 0) (r_X9_places rfl) (⟨_, _, _, _, rfl, rfl⟩) oX9_places q_965 q_967 q_64 rfl (by omega) (by decide) rfl (Nat.le_of_ble_eq_true rfl) 51 rfl dX11_like_48 rfl ?_
  exact a_ireturn .int rfl rfl (rfl) (rfl) dX11_like_51

theorem r_X11_like12_miss (hq : f_qs G C) (ht : C.2.1 5 = 0) : g_Run G mX11_like 3 0 0 [.ref (g_ad G 0), .int 1, .int 2] (g_hp G C tl) (some (.int (-11))) (g_hp G C tl) := by
  refine g_Run.of (lv := [(0, .ref (g_ad G 0)), (1, .int 1), (2, .int 2)]) (by decide) (Nat.le_of_ble_eq_true rfl) rfl ?_
  refine a_aload_n 0 1 rfl dX11_like_0 rfl rfl ?_
  refine a_iload_n 1 2 rfl dX11_like_1 rfl rfl ?_
  refine a_callV (as := [.int 1]) (rest := []) (st2 := [.ref (g_ad G 26)]) (u1 := 0) (v1 := 0) (u2 := 0) (v2 := 0) (r_shelfAt1 hq) (⟨_, _, _, _, rfl, rfl⟩) oX11_shelfAt q_908 q_910 q_54 rfl (by omega) (by decide) rfl (Nat.le_of_ble_eq_true rfl) 5 rfl dX11_like_2 rfl ?_
  refine a_astore_n (lv' := [(3, .ref (g_ad G 26)), (0, .ref (g_ad G 0)), (1, .int 1), (2, .int 2)]) 6 rfl dX11_like_5 rfl (by decide) rfl ?_
  refine a_aload_n 1 7 rfl dX11_like_6 rfl rfl ?_
  refine a_iload_n 3 8 rfl dX11_like_7 rfl rfl ?_
  refine a_callV (as := [.int 2]) (rest := []) (st2 := [.ref (g_ad G 29)]) (u1 := 0) (v1 := 0) (u2 := 0) (v2 := 0) (r_shelfAt2 hq) (⟨_, _, _, _, rfl, rfl⟩) oX11_shelfAt q_908 q_910 q_54 rfl (by omega) (by decide) rfl (Nat.le_of_ble_eq_true rfl) 11 rfl dX11_like_8 rfl ?_
  refine a_astore (lv' := [(4, .ref (g_ad G 29)), (3, .ref (g_ad G 26)), (0, .ref (g_ad G 0)), (1, .int 1), (2, .int 2)]) 13 rfl dX11_like_11 (by decide) rfl ?_
  refine a_aload_n 1 14 rfl dX11_like_13 rfl rfl ?_
  refine a_ifnull 17 rfl dX11_like_14 ?_
  refine a_aload 0 19 rfl dX11_like_17 rfl ?_
  refine a_ifnull 22 rfl dX11_like_19 ?_
  refine a_aload_n 1 23 rfl dX11_like_22 rfl rfl ?_
  refine a_aload 0 25 rfl dX11_like_23 rfl ?_
  refine a_acmp_ne (rx := some (g_ad G 26)) (ry := some (g_ad G 29)) 30 28 rfl dX11_like_25 (by decide) (fun _ => ?_) (fun hc => absurd hc ((fun z => by injection z with z; unfold g_ad at z; omega)))
  refine a_aload 0 32 rfl dX11_like_30 rfl ?_
  refine a_callVN (as := []) (rest := []) (st2 := [.int (if C.2.1 5 = 0 then 1 else 0)]) (u1 := 0) (v1 := 0) (u2 := 0) (v2 := 0) (r_X9_isMissing rfl) (⟨_, _, _, _, rfl, rfl⟩) oX9_isMissing q_924 q_926 q_57 rfl (by omega) (by decide) rfl (Nat.le_of_ble_eq_true rfl) 35 rfl dX11_like_32 rfl ?_
  refine a_if_eq 41 38 rfl dX11_like_35 (by decide) (fun hc => absurd hc ((by rw [if_pos ht]; decide))) (fun _ => ?_)
  refine a_bipush (x := (-11)) 40 rfl dX11_like_38 (by decide) ?_
  exact a_ireturn .int rfl rfl (rfl) (rfl) dX11_like_40
theorem r_X11_like12 (hq : f_qs G C) (ht : ¬ C.2.1 5 = 0) (hp : C.1 14 ≤ 6) (hr : ∀ j, j < C.1 14 → f_fo G tl (C.2.2.2.2.2 8 j)) : ∃ f2 : Nat → Option Nat, (∀ j, j < 6 → f2 j = if j < C.1 14 then C.2.2.2.2.2 8 j else none) ∧ g_Run G mX11_like 3 0 0 [.ref (g_ad G 0), .int 1, .int 2] (g_hp G C tl) (some (.int (nI (C.1 14)))) (g_hp G (f_uR (f_un (f_ui (f_ui C 4 1) 7 (C.2.1 8)) 13 (C.1 14)) 7 f2) tl) := by
  obtain ⟨f2, e2, w⟩ := r_X9_becomeLike (G := G) (h := g_hp G C tl) (a := 26) (ka := 27) (kc := 28) (b := 29) (kb := 30) (kd := 31) (y5 := C.2.1 5) (s8 := C.2.1 8) (p8 := C.1 14) (f8 := C.2.2.2.2.2 8) rfl rfl rfl rfl hp (fun j hj => (hr j hj).fam) (by decide) (by decide) (by decide) (by decide) (by decide)
  refine ⟨f2, e2, ?_⟩
  refine g_Run.of (lv := [(0, .ref (g_ad G 0)), (1, .int 1), (2, .int 2)]) (by decide) (Nat.le_of_ble_eq_true rfl) rfl ?_
  refine a_aload_n 0 1 rfl dX11_like_0 rfl rfl ?_
  refine a_iload_n 1 2 rfl dX11_like_1 rfl rfl ?_
  refine a_callV (as := [.int 1]) (rest := []) (st2 := [.ref (g_ad G 26)]) (u1 := 0) (v1 := 0) (u2 := 0) (v2 := 0) (r_shelfAt1 hq) (⟨_, _, _, _, rfl, rfl⟩) oX11_shelfAt q_908 q_910 q_54 rfl (by omega) (by decide) rfl (Nat.le_of_ble_eq_true rfl) 5 rfl dX11_like_2 rfl ?_
  refine a_astore_n (lv' := [(3, .ref (g_ad G 26)), (0, .ref (g_ad G 0)), (1, .int 1), (2, .int 2)]) 6 rfl dX11_like_5 rfl (by decide) rfl ?_
  refine a_aload_n 1 7 rfl dX11_like_6 rfl rfl ?_
  refine a_iload_n 3 8 rfl dX11_like_7 rfl rfl ?_
  refine a_callV (as := [.int 2]) (rest := []) (st2 := [.ref (g_ad G 29)]) (u1 := 0) (v1 := 0) (u2 := 0) (v2 := 0) (r_shelfAt2 hq) (⟨_, _, _, _, rfl, rfl⟩) oX11_shelfAt q_908 q_910 q_54 rfl (by omega) (by decide) rfl (Nat.le_of_ble_eq_true rfl) 11 rfl dX11_like_8 rfl ?_
  refine a_astore (lv' := [(4, .ref (g_ad G 29)), (3, .ref (g_ad G 26)), (0, .ref (g_ad G 0)), (1, .int 1), (2, .int 2)]) 13 rfl dX11_like_11 (by decide) rfl ?_
  refine a_aload_n 1 14 rfl dX11_like_13 rfl rfl ?_
  refine a_ifnull 17 rfl dX11_like_14 ?_
  refine a_aload 0 19 rfl dX11_like_17 rfl ?_
  refine a_ifnull 22 rfl dX11_like_19 ?_
  refine a_aload_n 1 23 rfl dX11_like_22 rfl rfl ?_
  refine a_aload 0 25 rfl dX11_like_23 rfl ?_
  refine a_acmp_ne (rx := some (g_ad G 26)) (ry := some (g_ad G 29)) 30 28 rfl dX11_like_25 (by decide) (fun _ => ?_) (fun hc => absurd hc ((fun z => by injection z with z; unfold g_ad at z; omega)))
  refine a_aload 0 32 rfl dX11_like_30 rfl ?_
  refine a_callVN (as := []) (rest := []) (st2 := [.int (if C.2.1 5 = 0 then 1 else 0)]) (u1 := 0) (v1 := 0) (u2 := 0) (v2 := 0) (r_X9_isMissing rfl) (⟨_, _, _, _, rfl, rfl⟩) oX9_isMissing q_924 q_926 q_57 rfl (by omega) (by decide) rfl (Nat.le_of_ble_eq_true rfl) 35 rfl dX11_like_32 rfl ?_
  refine a_if_eq 41 38 rfl dX11_like_35 (by decide) (fun _ => ?_) (fun hc => absurd ((by rw [if_neg ht])) hc)
  refine a_aload_n 1 42 rfl dX11_like_41 rfl rfl ?_
  refine a_aload 0 44 rfl dX11_like_42 rfl ?_
  refine a_callVN (as := [.ref (g_ad G 29)]) (rest := []) (st2 := []) (u1 := 0) (v1 := 0) (u2 := 0) (v2 := 0) (w) (⟨_, _, _, _, rfl, rfl⟩) oX9_becomeLike q_959 q_961 q_63 rfl (by omega) (by decide) rfl (Nat.le_of_ble_eq_true rfl) 47 rfl dX11_like_44 rfl ?_
  refine a_eq (h2 := g_hp G (f_uR (f_un (f_ui (f_ui C 4 1) 7 (C.2.1 8)) 13 (C.1 14)) 7 f2) tl) rfl rfl rfl (rfl) ?_
  refine a_aload_n 1 48 rfl dX11_like_47 rfl rfl ?_
  refine a_callVN (as := []) (rest := []) (st2 := [.int (nI (C.1 14))]) (u1 := 0) (v1 := 0) (u2 := 0) (v2 := 0) (r_X9_places rfl) (⟨_, _, _, _, rfl, rfl⟩) oX9_places q_965 q_967 q_64 rfl (by omega) (by decide) rfl (Nat.le_of_ble_eq_true rfl) 51 rfl dX11_like_48 rfl ?_
  exact a_ireturn .int rfl rfl (rfl) (rfl) dX11_like_51

theorem r_X11_like20_miss (hq : f_qs G C) (ht : C.2.1 3 = 0) : g_Run G mX11_like 3 0 0 [.ref (g_ad G 0), .int 2, .int 0] (g_hp G C tl) (some (.int (-11))) (g_hp G C tl) := by
  refine g_Run.of (lv := [(0, .ref (g_ad G 0)), (1, .int 2), (2, .int 0)]) (by decide) (Nat.le_of_ble_eq_true rfl) rfl ?_
  refine a_aload_n 0 1 rfl dX11_like_0 rfl rfl ?_
  refine a_iload_n 1 2 rfl dX11_like_1 rfl rfl ?_
  refine a_callV (as := [.int 2]) (rest := []) (st2 := [.ref (g_ad G 29)]) (u1 := 0) (v1 := 0) (u2 := 0) (v2 := 0) (r_shelfAt2 hq) (⟨_, _, _, _, rfl, rfl⟩) oX11_shelfAt q_908 q_910 q_54 rfl (by omega) (by decide) rfl (Nat.le_of_ble_eq_true rfl) 5 rfl dX11_like_2 rfl ?_
  refine a_astore_n (lv' := [(3, .ref (g_ad G 29)), (0, .ref (g_ad G 0)), (1, .int 2), (2, .int 0)]) 6 rfl dX11_like_5 rfl (by decide) rfl ?_
  refine a_aload_n 1 7 rfl dX11_like_6 rfl rfl ?_
  refine a_iload_n 3 8 rfl dX11_like_7 rfl rfl ?_
  refine a_callV (as := [.int 0]) (rest := []) (st2 := [.ref (g_ad G 23)]) (u1 := 0) (v1 := 0) (u2 := 0) (v2 := 0) (r_shelfAt0 hq) (⟨_, _, _, _, rfl, rfl⟩) oX11_shelfAt q_908 q_910 q_54 rfl (by omega) (by decide) rfl (Nat.le_of_ble_eq_true rfl) 11 rfl dX11_like_8 rfl ?_
  refine a_astore (lv' := [(4, .ref (g_ad G 23)), (3, .ref (g_ad G 29)), (0, .ref (g_ad G 0)), (1, .int 2), (2, .int 0)]) 13 rfl dX11_like_11 (by decide) rfl ?_
  refine a_aload_n 1 14 rfl dX11_like_13 rfl rfl ?_
  refine a_ifnull 17 rfl dX11_like_14 ?_
  refine a_aload 0 19 rfl dX11_like_17 rfl ?_
  refine a_ifnull 22 rfl dX11_like_19 ?_
  refine a_aload_n 1 23 rfl dX11_like_22 rfl rfl ?_
  refine a_aload 0 25 rfl dX11_like_23 rfl ?_
  refine a_acmp_ne (rx := some (g_ad G 29)) (ry := some (g_ad G 23)) 30 28 rfl dX11_like_25 (by decide) (fun _ => ?_) (fun hc => absurd hc ((fun z => by injection z with z; unfold g_ad at z; omega)))
  refine a_aload 0 32 rfl dX11_like_30 rfl ?_
  refine a_callVN (as := []) (rest := []) (st2 := [.int (if C.2.1 3 = 0 then 1 else 0)]) (u1 := 0) (v1 := 0) (u2 := 0) (v2 := 0) (r_X9_isMissing rfl) (⟨_, _, _, _, rfl, rfl⟩) oX9_isMissing q_924 q_926 q_57 rfl (by omega) (by decide) rfl (Nat.le_of_ble_eq_true rfl) 35 rfl dX11_like_32 rfl ?_
  refine a_if_eq 41 38 rfl dX11_like_35 (by decide) (fun hc => absurd hc ((by rw [if_pos ht]; decide))) (fun _ => ?_)
  refine a_bipush (x := (-11)) 40 rfl dX11_like_38 (by decide) ?_
  exact a_ireturn .int rfl rfl (rfl) (rfl) dX11_like_40
theorem r_X11_like20 (hq : f_qs G C) (ht : ¬ C.2.1 3 = 0) (hp : C.1 12 ≤ 6) (hr : ∀ j, j < C.1 12 → f_fo G tl (C.2.2.2.2.2 6 j)) : ∃ f2 : Nat → Option Nat, (∀ j, j < 6 → f2 j = if j < C.1 12 then C.2.2.2.2.2 6 j else none) ∧ g_Run G mX11_like 3 0 0 [.ref (g_ad G 0), .int 2, .int 0] (g_hp G C tl) (some (.int (nI (C.1 12)))) (g_hp G (f_uR (f_un (f_ui (f_ui C 5 1) 8 (C.2.1 6)) 14 (C.1 12)) 8 f2) tl) := by
  obtain ⟨f2, e2, w⟩ := r_X9_becomeLike (G := G) (h := g_hp G C tl) (a := 29) (ka := 30) (kc := 31) (b := 23) (kb := 24) (kd := 25) (y5 := C.2.1 3) (s8 := C.2.1 6) (p8 := C.1 12) (f8 := C.2.2.2.2.2 6) rfl rfl rfl rfl hp (fun j hj => (hr j hj).fam) (by decide) (by decide) (by decide) (by decide) (by decide)
  refine ⟨f2, e2, ?_⟩
  refine g_Run.of (lv := [(0, .ref (g_ad G 0)), (1, .int 2), (2, .int 0)]) (by decide) (Nat.le_of_ble_eq_true rfl) rfl ?_
  refine a_aload_n 0 1 rfl dX11_like_0 rfl rfl ?_
  refine a_iload_n 1 2 rfl dX11_like_1 rfl rfl ?_
  refine a_callV (as := [.int 2]) (rest := []) (st2 := [.ref (g_ad G 29)]) (u1 := 0) (v1 := 0) (u2 := 0) (v2 := 0) (r_shelfAt2 hq) (⟨_, _, _, _, rfl, rfl⟩) oX11_shelfAt q_908 q_910 q_54 rfl (by omega) (by decide) rfl (Nat.le_of_ble_eq_true rfl) 5 rfl dX11_like_2 rfl ?_
  refine a_astore_n (lv' := [(3, .ref (g_ad G 29)), (0, .ref (g_ad G 0)), (1, .int 2), (2, .int 0)]) 6 rfl dX11_like_5 rfl (by decide) rfl ?_
  refine a_aload_n 1 7 rfl dX11_like_6 rfl rfl ?_
  refine a_iload_n 3 8 rfl dX11_like_7 rfl rfl ?_
  refine a_callV (as := [.int 0]) (rest := []) (st2 := [.ref (g_ad G 23)]) (u1 := 0) (v1 := 0) (u2 := 0) (v2 := 0) (r_shelfAt0 hq) (⟨_, _, _, _, rfl, rfl⟩) oX11_shelfAt q_908 q_910 q_54 rfl (by omega) (by decide) rfl (Nat.le_of_ble_eq_true rfl) 11 rfl dX11_like_8 rfl ?_
  refine a_astore (lv' := [(4, .ref (g_ad G 23)), (3, .ref (g_ad G 29)), (0, .ref (g_ad G 0)), (1, .int 2), (2, .int 0)]) 13 rfl dX11_like_11 (by decide) rfl ?_
  refine a_aload_n 1 14 rfl dX11_like_13 rfl rfl ?_
  refine a_ifnull 17 rfl dX11_like_14 ?_
  refine a_aload 0 19 rfl dX11_like_17 rfl ?_
  refine a_ifnull 22 rfl dX11_like_19 ?_
  refine a_aload_n 1 23 rfl dX11_like_22 rfl rfl ?_
  refine a_aload 0 25 rfl dX11_like_23 rfl ?_
  refine a_acmp_ne (rx := some (g_ad G 29)) (ry := some (g_ad G 23)) 30 28 rfl dX11_like_25 (by decide) (fun _ => ?_) (fun hc => absurd hc ((fun z => by injection z with z; unfold g_ad at z; omega)))
  refine a_aload 0 32 rfl dX11_like_30 rfl ?_
  refine a_callVN (as := []) (rest := []) (st2 := [.int (if C.2.1 3 = 0 then 1 else 0)]) (u1 := 0) (v1 := 0) (u2 := 0) (v2 := 0) (r_X9_isMissing rfl) (⟨_, _, _, _, rfl, rfl⟩) oX9_isMissing q_924 q_926 q_57 rfl (by omega) (by decide) rfl (Nat.le_of_ble_eq_true rfl) 35 rfl dX11_like_32 rfl ?_
  refine a_if_eq 41 38 rfl dX11_like_35 (by decide) (fun _ => ?_) (fun hc => absurd ((by rw [if_neg ht])) hc)
  refine a_aload_n 1 42 rfl dX11_like_41 rfl rfl ?_
  refine a_aload 0 44 rfl dX11_like_42 rfl ?_
  refine a_callVN (as := [.ref (g_ad G 23)]) (rest := []) (st2 := []) (u1 := 0) (v1 := 0) (u2 := 0) (v2 := 0) (w) (⟨_, _, _, _, rfl, rfl⟩) oX9_becomeLike q_959 q_961 q_63 rfl (by omega) (by decide) rfl (Nat.le_of_ble_eq_true rfl) 47 rfl dX11_like_44 rfl ?_
  refine a_eq (h2 := g_hp G (f_uR (f_un (f_ui (f_ui C 5 1) 8 (C.2.1 6)) 14 (C.1 12)) 8 f2) tl) rfl rfl rfl (rfl) ?_
  refine a_aload_n 1 48 rfl dX11_like_47 rfl rfl ?_
  refine a_callVN (as := []) (rest := []) (st2 := [.int (nI (C.1 12))]) (u1 := 0) (v1 := 0) (u2 := 0) (v2 := 0) (r_X9_places rfl) (⟨_, _, _, _, rfl, rfl⟩) oX9_places q_965 q_967 q_64 rfl (by omega) (by decide) rfl (Nat.le_of_ble_eq_true rfl) 51 rfl dX11_like_48 rfl ?_
  exact a_ireturn .int rfl rfl (rfl) (rfl) dX11_like_51

theorem r_X11_like21_miss (hq : f_qs G C) (ht : C.2.1 4 = 0) : g_Run G mX11_like 3 0 0 [.ref (g_ad G 0), .int 2, .int 1] (g_hp G C tl) (some (.int (-11))) (g_hp G C tl) := by
  refine g_Run.of (lv := [(0, .ref (g_ad G 0)), (1, .int 2), (2, .int 1)]) (by decide) (Nat.le_of_ble_eq_true rfl) rfl ?_
  refine a_aload_n 0 1 rfl dX11_like_0 rfl rfl ?_
  refine a_iload_n 1 2 rfl dX11_like_1 rfl rfl ?_
  refine a_callV (as := [.int 2]) (rest := []) (st2 := [.ref (g_ad G 29)]) (u1 := 0) (v1 := 0) (u2 := 0) (v2 := 0) (r_shelfAt2 hq) (⟨_, _, _, _, rfl, rfl⟩) oX11_shelfAt q_908 q_910 q_54 rfl (by omega) (by decide) rfl (Nat.le_of_ble_eq_true rfl) 5 rfl dX11_like_2 rfl ?_
  refine a_astore_n (lv' := [(3, .ref (g_ad G 29)), (0, .ref (g_ad G 0)), (1, .int 2), (2, .int 1)]) 6 rfl dX11_like_5 rfl (by decide) rfl ?_
  refine a_aload_n 1 7 rfl dX11_like_6 rfl rfl ?_
  refine a_iload_n 3 8 rfl dX11_like_7 rfl rfl ?_
  refine a_callV (as := [.int 1]) (rest := []) (st2 := [.ref (g_ad G 26)]) (u1 := 0) (v1 := 0) (u2 := 0) (v2 := 0) (r_shelfAt1 hq) (⟨_, _, _, _, rfl, rfl⟩) oX11_shelfAt q_908 q_910 q_54 rfl (by omega) (by decide) rfl (Nat.le_of_ble_eq_true rfl) 11 rfl dX11_like_8 rfl ?_
  refine a_astore (lv' := [(4, .ref (g_ad G 26)), (3, .ref (g_ad G 29)), (0, .ref (g_ad G 0)), (1, .int 2), (2, .int 1)]) 13 rfl dX11_like_11 (by decide) rfl ?_
  refine a_aload_n 1 14 rfl dX11_like_13 rfl rfl ?_
  refine a_ifnull 17 rfl dX11_like_14 ?_
  refine a_aload 0 19 rfl dX11_like_17 rfl ?_
  refine a_ifnull 22 rfl dX11_like_19 ?_
  refine a_aload_n 1 23 rfl dX11_like_22 rfl rfl ?_
  refine a_aload 0 25 rfl dX11_like_23 rfl ?_
  refine a_acmp_ne (rx := some (g_ad G 29)) (ry := some (g_ad G 26)) 30 28 rfl dX11_like_25 (by decide) (fun _ => ?_) (fun hc => absurd hc ((fun z => by injection z with z; unfold g_ad at z; omega)))
  refine a_aload 0 32 rfl dX11_like_30 rfl ?_
  refine a_callVN (as := []) (rest := []) (st2 := [.int (if C.2.1 4 = 0 then 1 else 0)]) (u1 := 0) (v1 := 0) (u2 := 0) (v2 := 0) (r_X9_isMissing rfl) (⟨_, _, _, _, rfl, rfl⟩) oX9_isMissing q_924 q_926 q_57 rfl (by omega) (by decide) rfl (Nat.le_of_ble_eq_true rfl) 35 rfl dX11_like_32 rfl ?_
  refine a_if_eq 41 38 rfl dX11_like_35 (by decide) (fun hc => absurd hc ((by rw [if_pos ht]; decide))) (fun _ => ?_)
  refine a_bipush (x := (-11)) 40 rfl dX11_like_38 (by decide) ?_
  exact a_ireturn .int rfl rfl (rfl) (rfl) dX11_like_40
theorem r_X11_like21 (hq : f_qs G C) (ht : ¬ C.2.1 4 = 0) (hp : C.1 13 ≤ 6) (hr : ∀ j, j < C.1 13 → f_fo G tl (C.2.2.2.2.2 7 j)) : ∃ f2 : Nat → Option Nat, (∀ j, j < 6 → f2 j = if j < C.1 13 then C.2.2.2.2.2 7 j else none) ∧ g_Run G mX11_like 3 0 0 [.ref (g_ad G 0), .int 2, .int 1] (g_hp G C tl) (some (.int (nI (C.1 13)))) (g_hp G (f_uR (f_un (f_ui (f_ui C 5 1) 8 (C.2.1 7)) 14 (C.1 13)) 8 f2) tl) := by
  obtain ⟨f2, e2, w⟩ := r_X9_becomeLike (G := G) (h := g_hp G C tl) (a := 29) (ka := 30) (kc := 31) (b := 26) (kb := 27) (kd := 28) (y5 := C.2.1 4) (s8 := C.2.1 7) (p8 := C.1 13) (f8 := C.2.2.2.2.2 7) rfl rfl rfl rfl hp (fun j hj => (hr j hj).fam) (by decide) (by decide) (by decide) (by decide) (by decide)
  refine ⟨f2, e2, ?_⟩
  refine g_Run.of (lv := [(0, .ref (g_ad G 0)), (1, .int 2), (2, .int 1)]) (by decide) (Nat.le_of_ble_eq_true rfl) rfl ?_
  refine a_aload_n 0 1 rfl dX11_like_0 rfl rfl ?_
  refine a_iload_n 1 2 rfl dX11_like_1 rfl rfl ?_
  refine a_callV (as := [.int 2]) (rest := []) (st2 := [.ref (g_ad G 29)]) (u1 := 0) (v1 := 0) (u2 := 0) (v2 := 0) (r_shelfAt2 hq) (⟨_, _, _, _, rfl, rfl⟩) oX11_shelfAt q_908 q_910 q_54 rfl (by omega) (by decide) rfl (Nat.le_of_ble_eq_true rfl) 5 rfl dX11_like_2 rfl ?_
  refine a_astore_n (lv' := [(3, .ref (g_ad G 29)), (0, .ref (g_ad G 0)), (1, .int 2), (2, .int 1)]) 6 rfl dX11_like_5 rfl (by decide) rfl ?_
  refine a_aload_n 1 7 rfl dX11_like_6 rfl rfl ?_
  refine a_iload_n 3 8 rfl dX11_like_7 rfl rfl ?_
  refine a_callV (as := [.int 1]) (rest := []) (st2 := [.ref (g_ad G 26)]) (u1 := 0) (v1 := 0) (u2 := 0) (v2 := 0) (r_shelfAt1 hq) (⟨_, _, _, _, rfl, rfl⟩) oX11_shelfAt q_908 q_910 q_54 rfl (by omega) (by decide) rfl (Nat.le_of_ble_eq_true rfl) 11 rfl dX11_like_8 rfl ?_
  refine a_astore (lv' := [(4, .ref (g_ad G 26)), (3, .ref (g_ad G 29)), (0, .ref (g_ad G 0)), (1, .int 2), (2, .int 1)]) 13 rfl dX11_like_11 (by decide) rfl ?_
  refine a_aload_n 1 14 rfl dX11_like_13 rfl rfl ?_
  refine a_ifnull 17 rfl dX11_like_14 ?_
  refine a_aload 0 19 rfl dX11_like_17 rfl ?_
  refine a_ifnull 22 rfl dX11_like_19 ?_
  refine a_aload_n 1 23 rfl dX11_like_22 rfl rfl ?_
  refine a_aload 0 25 rfl dX11_like_23 rfl ?_
  refine a_acmp_ne (rx := some (g_ad G 29)) (ry := some (g_ad G 26)) 30 28 rfl dX11_like_25 (by decide) (fun _ => ?_) (fun hc => absurd hc ((fun z => by injection z with z; unfold g_ad at z; omega)))
  refine a_aload 0 32 rfl dX11_like_30 rfl ?_
  refine a_callVN (as := []) (rest := []) (st2 := [.int (if C.2.1 4 = 0 then 1 else 0)]) (u1 := 0) (v1 := 0) (u2 := 0) (v2 := 0) (r_X9_isMissing rfl) (⟨_, _, _, _, rfl, rfl⟩) oX9_isMissing q_924 q_926 q_57 rfl (by omega) (by decide) rfl (Nat.le_of_ble_eq_true rfl) 35 rfl dX11_like_32 rfl ?_
  refine a_if_eq 41 38 rfl dX11_like_35 (by decide) (fun _ => ?_) (fun hc => absurd ((by rw [if_neg ht])) hc)
  refine a_aload_n 1 42 rfl dX11_like_41 rfl rfl ?_
  refine a_aload 0 44 rfl dX11_like_42 rfl ?_
  refine a_callVN (as := [.ref (g_ad G 26)]) (rest := []) (st2 := []) (u1 := 0) (v1 := 0) (u2 := 0) (v2 := 0) (w) (⟨_, _, _, _, rfl, rfl⟩) oX9_becomeLike q_959 q_961 q_63 rfl (by omega) (by decide) rfl (Nat.le_of_ble_eq_true rfl) 47 rfl dX11_like_44 rfl ?_
  refine a_eq (h2 := g_hp G (f_uR (f_un (f_ui (f_ui C 5 1) 8 (C.2.1 7)) 14 (C.1 13)) 8 f2) tl) rfl rfl rfl (rfl) ?_
  refine a_aload_n 1 48 rfl dX11_like_47 rfl rfl ?_
  refine a_callVN (as := []) (rest := []) (st2 := [.int (nI (C.1 13))]) (u1 := 0) (v1 := 0) (u2 := 0) (v2 := 0) (r_X9_places rfl) (⟨_, _, _, _, rfl, rfl⟩) oX9_places q_965 q_967 q_64 rfl (by omega) (by decide) rfl (Nat.le_of_ble_eq_true rfl) 51 rfl dX11_like_48 rfl ?_
  exact a_ireturn .int rfl rfl (rfl) (rfl) dX11_like_51

theorem r_X11_shift00_miss (hq : f_qs G C) (ht : C.2.1 3 = 0 ∨ C.2.1 3 = 0) : g_Run G mX11_shift 6 0 0 [.ref (g_ad G 0), .int 0, .int y2, .int 0, .int y4, .int y5] (g_hp G C tl) (some (.int (-11))) (g_hp G C tl) := by
  refine g_Run.of (lv := [(0, .ref (g_ad G 0)), (1, .int 0), (2, .int y2), (3, .int 0), (4, .int y4), (5, .int y5)]) (by decide) (Nat.le_of_ble_eq_true rfl) rfl ?_
  refine a_aload_n 0 1 rfl dX11_shift_0 rfl rfl ?_
  refine a_iload_n 1 2 rfl dX11_shift_1 rfl rfl ?_
  refine a_callV (as := [.int 0]) (rest := []) (st2 := [.ref (g_ad G 23)]) (u1 := 0) (v1 := 0) (u2 := 0) (v2 := 0) (r_shelfAt0 hq) (⟨_, _, _, _, rfl, rfl⟩) oX11_shelfAt q_908 q_910 q_54 rfl (by omega) (by decide) rfl (Nat.le_of_ble_eq_true rfl) 5 rfl dX11_shift_2 rfl ?_
  refine a_astore (lv' := [(6, .ref (g_ad G 23)), (0, .ref (g_ad G 0)), (1, .int 0), (2, .int y2), (3, .int 0), (4, .int y4), (5, .int y5)]) 7 rfl dX11_shift_5 (by decide) rfl ?_
  refine a_aload_n 1 8 rfl dX11_shift_7 rfl rfl ?_
  refine a_iload_n 4 9 rfl dX11_shift_8 rfl rfl ?_
  refine a_callV (as := [.int 0]) (rest := []) (st2 := [.ref (g_ad G 23)]) (u1 := 0) (v1 := 0) (u2 := 0) (v2 := 0) (r_shelfAt0 hq) (⟨_, _, _, _, rfl, rfl⟩) oX11_shelfAt q_908 q_910 q_54 rfl (by omega) (by decide) rfl (Nat.le_of_ble_eq_true rfl) 12 rfl dX11_shift_9 rfl ?_
  refine a_astore (lv' := [(7, .ref (g_ad G 23)), (6, .ref (g_ad G 23)), (0, .ref (g_ad G 0)), (1, .int 0), (2, .int y2), (3, .int 0), (4, .int y4), (5, .int y5)]) 14 rfl dX11_shift_12 (by decide) rfl ?_
  refine a_aload 1 16 rfl dX11_shift_14 rfl ?_
  refine a_ifnull 19 rfl dX11_shift_16 ?_
  refine a_aload 0 21 rfl dX11_shift_19 rfl ?_
  refine a_ifnonnull 26 dX11_shift_21 (by decide) ?_
  refine a_aload 1 28 rfl dX11_shift_26 rfl ?_
  refine a_callVN (as := []) (rest := []) (st2 := [.int (if C.2.1 3 = 0 then 1 else 0)]) (u1 := 0) (v1 := 0) (u2 := 0) (v2 := 0) (r_X9_isMissing rfl) (⟨_, _, _, _, rfl, rfl⟩) oX9_isMissing q_924 q_926 q_57 rfl (by omega) (by decide) rfl (Nat.le_of_ble_eq_true rfl) 31 rfl dX11_shift_28 rfl ?_
  by_cases h1 : C.2.1 3 = 0
  · skip
    refine a_if_ne 42 34 rfl dX11_shift_31 (by decide) (fun _ => ?_) (fun hc => absurd hc ((by rw [if_pos h1]; decide)))
    refine a_bipush (x := (-11)) 44 rfl dX11_shift_42 (by decide) ?_
    exact a_ireturn .int rfl rfl (rfl) (rfl) dX11_shift_44
  · skip
    refine a_if_ne 42 34 rfl dX11_shift_31 (by decide) (fun hc => absurd ((by rw [if_neg h1])) hc) (fun _ => ?_)
    refine a_aload 0 36 rfl dX11_shift_34 rfl ?_
    refine a_callVN (as := []) (rest := []) (st2 := [.int (if C.2.1 3 = 0 then 1 else 0)]) (u1 := 0) (v1 := 0) (u2 := 0) (v2 := 0) (r_X9_isMissing rfl) (⟨_, _, _, _, rfl, rfl⟩) oX9_isMissing q_924 q_926 q_57 rfl (by omega) (by decide) rfl (Nat.le_of_ble_eq_true rfl) 39 rfl dX11_shift_36 rfl ?_
    refine a_if_eq 45 42 rfl dX11_shift_39 (by decide) (fun hc => absurd hc ((by rw [if_pos (ht.resolve_left h1)]; decide))) (fun _ => ?_)
    refine a_bipush (x := (-11)) 44 rfl dX11_shift_42 (by decide) ?_
    exact a_ireturn .int rfl rfl (rfl) (rfl) dX11_shift_44
theorem r_X11_shift00_out1 (hq : f_qs G C) (h1 : ¬ C.2.1 3 = 0) (h2 : ¬ C.2.1 3 = 0) (hp : C.1 12 ≤ 6) (hno : ∀ i9 n9 : Nat, y2 = nI i9 → y5 = nI n9 → ¬ i9 + n9 ≤ C.1 12) : g_Run G mX11_shift 6 0 0 [.ref (g_ad G 0), .int 0, .int y2, .int 0, .int y4, .int y5] (g_hp G C tl) (some (.int (-13))) (g_hp G C tl) := by
  refine g_Run.of (lv := [(0, .ref (g_ad G 0)), (1, .int 0), (2, .int y2), (3, .int 0), (4, .int y4), (5, .int y5)]) (by decide) (Nat.le_of_ble_eq_true rfl) rfl ?_
  refine a_aload_n 0 1 rfl dX11_shift_0 rfl rfl ?_
  refine a_iload_n 1 2 rfl dX11_shift_1 rfl rfl ?_
  refine a_callV (as := [.int 0]) (rest := []) (st2 := [.ref (g_ad G 23)]) (u1 := 0) (v1 := 0) (u2 := 0) (v2 := 0) (r_shelfAt0 hq) (⟨_, _, _, _, rfl, rfl⟩) oX11_shelfAt q_908 q_910 q_54 rfl (by omega) (by decide) rfl (Nat.le_of_ble_eq_true rfl) 5 rfl dX11_shift_2 rfl ?_
  refine a_astore (lv' := [(6, .ref (g_ad G 23)), (0, .ref (g_ad G 0)), (1, .int 0), (2, .int y2), (3, .int 0), (4, .int y4), (5, .int y5)]) 7 rfl dX11_shift_5 (by decide) rfl ?_
  refine a_aload_n 1 8 rfl dX11_shift_7 rfl rfl ?_
  refine a_iload_n 4 9 rfl dX11_shift_8 rfl rfl ?_
  refine a_callV (as := [.int 0]) (rest := []) (st2 := [.ref (g_ad G 23)]) (u1 := 0) (v1 := 0) (u2 := 0) (v2 := 0) (r_shelfAt0 hq) (⟨_, _, _, _, rfl, rfl⟩) oX11_shelfAt q_908 q_910 q_54 rfl (by omega) (by decide) rfl (Nat.le_of_ble_eq_true rfl) 12 rfl dX11_shift_9 rfl ?_
  refine a_astore (lv' := [(7, .ref (g_ad G 23)), (6, .ref (g_ad G 23)), (0, .ref (g_ad G 0)), (1, .int 0), (2, .int y2), (3, .int 0), (4, .int y4), (5, .int y5)]) 14 rfl dX11_shift_12 (by decide) rfl ?_
  refine a_aload 1 16 rfl dX11_shift_14 rfl ?_
  refine a_ifnull 19 rfl dX11_shift_16 ?_
  refine a_aload 0 21 rfl dX11_shift_19 rfl ?_
  refine a_ifnonnull 26 dX11_shift_21 (by decide) ?_
  refine a_aload 1 28 rfl dX11_shift_26 rfl ?_
  refine a_callVN (as := []) (rest := []) (st2 := [.int (if C.2.1 3 = 0 then 1 else 0)]) (u1 := 0) (v1 := 0) (u2 := 0) (v2 := 0) (r_X9_isMissing rfl) (⟨_, _, _, _, rfl, rfl⟩) oX9_isMissing q_924 q_926 q_57 rfl (by omega) (by decide) rfl (Nat.le_of_ble_eq_true rfl) 31 rfl dX11_shift_28 rfl ?_
  refine a_if_ne 42 34 rfl dX11_shift_31 (by decide) (fun hc => absurd ((by rw [if_neg h1])) hc) (fun _ => ?_)
  refine a_aload 0 36 rfl dX11_shift_34 rfl ?_
  refine a_callVN (as := []) (rest := []) (st2 := [.int (if C.2.1 3 = 0 then 1 else 0)]) (u1 := 0) (v1 := 0) (u2 := 0) (v2 := 0) (r_X9_isMissing rfl) (⟨_, _, _, _, rfl, rfl⟩) oX9_isMissing q_924 q_926 q_57 rfl (by omega) (by decide) rfl (Nat.le_of_ble_eq_true rfl) 39 rfl dX11_shift_36 rfl ?_
  refine a_if_eq 45 42 rfl dX11_shift_39 (by decide) (fun _ => ?_) (fun hc => absurd ((by rw [if_neg h2])) hc)
  refine a_aload 1 47 rfl dX11_shift_45 rfl ?_
  refine a_iload_n 4 48 rfl dX11_shift_47 rfl rfl ?_
  refine a_iload 7 50 rfl dX11_shift_48 rfl ?_
  refine a_callVN (as := [.int y2, .int y5]) (rest := []) (st2 := [.int 0]) (u1 := 0) (v1 := 0) (u2 := 0) (v2 := 0) (r_X9_hasPlaces_f rfl hp hno) (⟨_, _, _, _, rfl, rfl⟩) oX9_hasPlaces q_928 q_930 q_58 rfl (by omega) (by decide) rfl (Nat.le_of_ble_eq_true rfl) 53 rfl dX11_shift_50 rfl ?_
  refine a_if_eq 68 56 rfl dX11_shift_53 (by decide) (fun _ => ?_) (fun hc => absurd (rfl) hc)
  refine a_bipush (x := (-13)) 70 rfl dX11_shift_68 (by decide) ?_
  exact a_ireturn .int rfl rfl (rfl) (rfl) dX11_shift_70
theorem r_X11_shift00_out2 {i9 n9 : Nat} (hq : f_qs G C) (h1 : ¬ C.2.1 3 = 0) (h2 : ¬ C.2.1 3 = 0) (hp : C.1 12 ≤ 6) (hp2 : C.1 12 ≤ 6) (hin : i9 + n9 ≤ C.1 12) (hno : ∀ i7 n7 : Nat, y4 = nI i7 → nI n9 = nI n7 → ¬ i7 + n7 ≤ C.1 12) : g_Run G mX11_shift 6 0 0 [.ref (g_ad G 0), .int 0, .int (nI i9), .int 0, .int y4, .int (nI n9)] (g_hp G C tl) (some (.int (-13))) (g_hp G C tl) := by
  refine g_Run.of (lv := [(0, .ref (g_ad G 0)), (1, .int 0), (2, .int (nI i9)), (3, .int 0), (4, .int y4), (5, .int (nI n9))]) (by decide) (Nat.le_of_ble_eq_true rfl) rfl ?_
  refine a_aload_n 0 1 rfl dX11_shift_0 rfl rfl ?_
  refine a_iload_n 1 2 rfl dX11_shift_1 rfl rfl ?_
  refine a_callV (as := [.int 0]) (rest := []) (st2 := [.ref (g_ad G 23)]) (u1 := 0) (v1 := 0) (u2 := 0) (v2 := 0) (r_shelfAt0 hq) (⟨_, _, _, _, rfl, rfl⟩) oX11_shelfAt q_908 q_910 q_54 rfl (by omega) (by decide) rfl (Nat.le_of_ble_eq_true rfl) 5 rfl dX11_shift_2 rfl ?_
  refine a_astore (lv' := [(6, .ref (g_ad G 23)), (0, .ref (g_ad G 0)), (1, .int 0), (2, .int (nI i9)), (3, .int 0), (4, .int y4), (5, .int (nI n9))]) 7 rfl dX11_shift_5 (by decide) rfl ?_
  refine a_aload_n 1 8 rfl dX11_shift_7 rfl rfl ?_
  refine a_iload_n 4 9 rfl dX11_shift_8 rfl rfl ?_
  refine a_callV (as := [.int 0]) (rest := []) (st2 := [.ref (g_ad G 23)]) (u1 := 0) (v1 := 0) (u2 := 0) (v2 := 0) (r_shelfAt0 hq) (⟨_, _, _, _, rfl, rfl⟩) oX11_shelfAt q_908 q_910 q_54 rfl (by omega) (by decide) rfl (Nat.le_of_ble_eq_true rfl) 12 rfl dX11_shift_9 rfl ?_
  refine a_astore (lv' := [(7, .ref (g_ad G 23)), (6, .ref (g_ad G 23)), (0, .ref (g_ad G 0)), (1, .int 0), (2, .int (nI i9)), (3, .int 0), (4, .int y4), (5, .int (nI n9))]) 14 rfl dX11_shift_12 (by decide) rfl ?_
  refine a_aload 1 16 rfl dX11_shift_14 rfl ?_
  refine a_ifnull 19 rfl dX11_shift_16 ?_
  refine a_aload 0 21 rfl dX11_shift_19 rfl ?_
  refine a_ifnonnull 26 dX11_shift_21 (by decide) ?_
  refine a_aload 1 28 rfl dX11_shift_26 rfl ?_
  refine a_callVN (as := []) (rest := []) (st2 := [.int (if C.2.1 3 = 0 then 1 else 0)]) (u1 := 0) (v1 := 0) (u2 := 0) (v2 := 0) (r_X9_isMissing rfl) (⟨_, _, _, _, rfl, rfl⟩) oX9_isMissing q_924 q_926 q_57 rfl (by omega) (by decide) rfl (Nat.le_of_ble_eq_true rfl) 31 rfl dX11_shift_28 rfl ?_
  refine a_if_ne 42 34 rfl dX11_shift_31 (by decide) (fun hc => absurd ((by rw [if_neg h1])) hc) (fun _ => ?_)
  refine a_aload 0 36 rfl dX11_shift_34 rfl ?_
  refine a_callVN (as := []) (rest := []) (st2 := [.int (if C.2.1 3 = 0 then 1 else 0)]) (u1 := 0) (v1 := 0) (u2 := 0) (v2 := 0) (r_X9_isMissing rfl) (⟨_, _, _, _, rfl, rfl⟩) oX9_isMissing q_924 q_926 q_57 rfl (by omega) (by decide) rfl (Nat.le_of_ble_eq_true rfl) 39 rfl dX11_shift_36 rfl ?_
  refine a_if_eq 45 42 rfl dX11_shift_39 (by decide) (fun _ => ?_) (fun hc => absurd ((by rw [if_neg h2])) hc)
  refine a_aload 1 47 rfl dX11_shift_45 rfl ?_
  refine a_iload_n 4 48 rfl dX11_shift_47 rfl rfl ?_
  refine a_iload 7 50 rfl dX11_shift_48 rfl ?_
  refine a_callVN (as := [.int (nI i9), .int (nI n9)]) (rest := []) (st2 := [.int 1]) (u1 := 0) (v1 := 0) (u2 := 0) (v2 := 0) (r_X9_hasPlaces_t rfl hp hin) (⟨_, _, _, _, rfl, rfl⟩) oX9_hasPlaces q_928 q_930 q_58 rfl (by omega) (by decide) rfl (Nat.le_of_ble_eq_true rfl) 53 rfl dX11_shift_50 rfl ?_
  refine a_if_eq 68 56 rfl dX11_shift_53 (by decide) (fun hc => absurd hc ((by decide))) (fun _ => ?_)
  refine a_aload 0 58 rfl dX11_shift_56 rfl ?_
  refine a_iload 6 60 rfl dX11_shift_58 rfl ?_
  refine a_iload 7 62 rfl dX11_shift_60 rfl ?_
  refine a_callVN (as := [.int y4, .int (nI n9)]) (rest := []) (st2 := [.int 0]) (u1 := 0) (v1 := 0) (u2 := 0) (v2 := 0) (r_X9_hasPlaces_f rfl hp2 hno) (⟨_, _, _, _, rfl, rfl⟩) oX9_hasPlaces q_928 q_930 q_58 rfl (by omega) (by decide) rfl (Nat.le_of_ble_eq_true rfl) 65 rfl dX11_shift_62 rfl ?_
  refine a_if_ne 71 68 rfl dX11_shift_65 (by decide) (fun hc => absurd (rfl) hc) (fun _ => ?_)
  refine a_bipush (x := (-13)) 70 rfl dX11_shift_68 (by decide) ?_
  exact a_ireturn .int rfl rfl (rfl) (rfl) dX11_shift_70
theorem r_X11_shift00 {i9 j9 n9 s9 : Nat} {kk : Nat → Option Nat} (hq : f_qs G C) (h1 : ¬ C.2.1 3 = 0) (h2 : ¬ C.2.1 3 = 0) (hp : C.1 12 ≤ 6) (hp2 : C.1 12 ≤ 6) (hin : i9 + n9 ≤ C.1 12) (hjn : j9 + n9 ≤ C.1 12) (hs : C.2.1 6 = nI s9) (hs3 : s9 < 3) (hk : ∀ q7, q7 < C.1 12 → g_at G (g_hp G C tl) (C.2.2.2.2.2 6 q7) (kk q7)) : ∃ c2 f2 : Nat → Option Nat, (∀ q7, f2 q7 = if j9 ≤ q7 ∧ q7 < j9 + f_lead s9 kk n9 i9 then C.2.2.2.2.2 6 (i9 + (q7 - j9)) else C.2.2.2.2.2 6 q7) ∧ g_Run G mX11_shift 6 0 0 [.ref (g_ad G 0), .int 0, .int (nI i9), .int 0, .int (nI j9), .int (nI n9)] (g_hp G C tl) (some (.int (if f_lead s9 kk n9 i9 = n9 then nI n9 else -12))) (g_hp G (f_uR (f_uR C 9 c2) 6 f2) tl) := by
  have hS : (g_hp G C tl)[23]? = some (c_Sh G 24 25 (C.2.1 3) (nI s9) (C.1 12)) := by rw [← hs]; rfl
  obtain ⟨c2, f2, e2, w⟩ := r_X9_placeAll (G := G) (h := g_hp G C tl) (a := 23) (ka := 24) (kc := 25) (b := 23) (kb := 24) (kd := 25) (y5 := C.2.1 3) (y6 := C.2.1 6) (p8 := C.1 12) (f8 := C.2.2.2.2.2 6) (f := C.2.2.2.2.2 6) (c9 := C.2.2.2.2.2 9) (i9 := i9) (j9 := j9) (n9 := n9) hS rfl rfl rfl rfl hs3 hp2 hp hin hjn (by decide) (by decide) (by decide) (by decide) (by decide) hk
  refine ⟨c2, f2, e2, ?_⟩
  refine g_Run.of (lv := [(0, .ref (g_ad G 0)), (1, .int 0), (2, .int (nI i9)), (3, .int 0), (4, .int (nI j9)), (5, .int (nI n9))]) (by decide) (Nat.le_of_ble_eq_true rfl) rfl ?_
  refine a_aload_n 0 1 rfl dX11_shift_0 rfl rfl ?_
  refine a_iload_n 1 2 rfl dX11_shift_1 rfl rfl ?_
  refine a_callV (as := [.int 0]) (rest := []) (st2 := [.ref (g_ad G 23)]) (u1 := 0) (v1 := 0) (u2 := 0) (v2 := 0) (r_shelfAt0 hq) (⟨_, _, _, _, rfl, rfl⟩) oX11_shelfAt q_908 q_910 q_54 rfl (by omega) (by decide) rfl (Nat.le_of_ble_eq_true rfl) 5 rfl dX11_shift_2 rfl ?_
  refine a_astore (lv' := [(6, .ref (g_ad G 23)), (0, .ref (g_ad G 0)), (1, .int 0), (2, .int (nI i9)), (3, .int 0), (4, .int (nI j9)), (5, .int (nI n9))]) 7 rfl dX11_shift_5 (by decide) rfl ?_
  refine a_aload_n 1 8 rfl dX11_shift_7 rfl rfl ?_
  refine a_iload_n 4 9 rfl dX11_shift_8 rfl rfl ?_
  refine a_callV (as := [.int 0]) (rest := []) (st2 := [.ref (g_ad G 23)]) (u1 := 0) (v1 := 0) (u2 := 0) (v2 := 0) (r_shelfAt0 hq) (⟨_, _, _, _, rfl, rfl⟩) oX11_shelfAt q_908 q_910 q_54 rfl (by omega) (by decide) rfl (Nat.le_of_ble_eq_true rfl) 12 rfl dX11_shift_9 rfl ?_
  refine a_astore (lv' := [(7, .ref (g_ad G 23)), (6, .ref (g_ad G 23)), (0, .ref (g_ad G 0)), (1, .int 0), (2, .int (nI i9)), (3, .int 0), (4, .int (nI j9)), (5, .int (nI n9))]) 14 rfl dX11_shift_12 (by decide) rfl ?_
  refine a_aload 1 16 rfl dX11_shift_14 rfl ?_
  refine a_ifnull 19 rfl dX11_shift_16 ?_
  refine a_aload 0 21 rfl dX11_shift_19 rfl ?_
  refine a_ifnonnull 26 dX11_shift_21 (by decide) ?_
  refine a_aload 1 28 rfl dX11_shift_26 rfl ?_
  refine a_callVN (as := []) (rest := []) (st2 := [.int (if C.2.1 3 = 0 then 1 else 0)]) (u1 := 0) (v1 := 0) (u2 := 0) (v2 := 0) (r_X9_isMissing rfl) (⟨_, _, _, _, rfl, rfl⟩) oX9_isMissing q_924 q_926 q_57 rfl (by omega) (by decide) rfl (Nat.le_of_ble_eq_true rfl) 31 rfl dX11_shift_28 rfl ?_
  refine a_if_ne 42 34 rfl dX11_shift_31 (by decide) (fun hc => absurd ((by rw [if_neg h1])) hc) (fun _ => ?_)
  refine a_aload 0 36 rfl dX11_shift_34 rfl ?_
  refine a_callVN (as := []) (rest := []) (st2 := [.int (if C.2.1 3 = 0 then 1 else 0)]) (u1 := 0) (v1 := 0) (u2 := 0) (v2 := 0) (r_X9_isMissing rfl) (⟨_, _, _, _, rfl, rfl⟩) oX9_isMissing q_924 q_926 q_57 rfl (by omega) (by decide) rfl (Nat.le_of_ble_eq_true rfl) 39 rfl dX11_shift_36 rfl ?_
  refine a_if_eq 45 42 rfl dX11_shift_39 (by decide) (fun _ => ?_) (fun hc => absurd ((by rw [if_neg h2])) hc)
  refine a_aload 1 47 rfl dX11_shift_45 rfl ?_
  refine a_iload_n 4 48 rfl dX11_shift_47 rfl rfl ?_
  refine a_iload 7 50 rfl dX11_shift_48 rfl ?_
  refine a_callVN (as := [.int (nI i9), .int (nI n9)]) (rest := []) (st2 := [.int 1]) (u1 := 0) (v1 := 0) (u2 := 0) (v2 := 0) (r_X9_hasPlaces_t rfl hp hin) (⟨_, _, _, _, rfl, rfl⟩) oX9_hasPlaces q_928 q_930 q_58 rfl (by omega) (by decide) rfl (Nat.le_of_ble_eq_true rfl) 53 rfl dX11_shift_50 rfl ?_
  refine a_if_eq 68 56 rfl dX11_shift_53 (by decide) (fun hc => absurd hc ((by decide))) (fun _ => ?_)
  refine a_aload 0 58 rfl dX11_shift_56 rfl ?_
  refine a_iload 6 60 rfl dX11_shift_58 rfl ?_
  refine a_iload 7 62 rfl dX11_shift_60 rfl ?_
  refine a_callVN (as := [.int (nI j9), .int (nI n9)]) (rest := []) (st2 := [.int 1]) (u1 := 0) (v1 := 0) (u2 := 0) (v2 := 0) (r_X9_hasPlaces_t rfl hp2 hjn) (⟨_, _, _, _, rfl, rfl⟩) oX9_hasPlaces q_928 q_930 q_58 rfl (by omega) (by decide) rfl (Nat.le_of_ble_eq_true rfl) 65 rfl dX11_shift_62 rfl ?_
  refine a_if_ne 71 68 rfl dX11_shift_65 (by decide) (fun _ => ?_) (fun hc => absurd hc ((by decide)))
  refine a_aload 0 73 rfl dX11_shift_71 rfl ?_
  refine a_aload 1 75 rfl dX11_shift_73 rfl ?_
  refine a_iload_n 4 76 rfl dX11_shift_75 rfl rfl ?_
  refine a_iload 6 78 rfl dX11_shift_76 rfl ?_
  refine a_iload 7 80 rfl dX11_shift_78 rfl ?_
  refine a_callVN (as := [.ref (g_ad G 23), .int (nI i9), .int (nI j9), .int (nI n9)]) (rest := []) (st2 := [.int (if f_lead s9 kk n9 i9 = n9 then 1 else 0)]) (u1 := 0) (v1 := 0) (u2 := 0) (v2 := 0) (w) (⟨_, _, _, _, rfl, rfl⟩) oX9_placeAll q_973 q_975 q_65 rfl (by omega) (by decide) rfl (Nat.le_of_ble_eq_true rfl) 83 rfl dX11_shift_80 rfl ?_
  refine a_eq (h2 := g_hp G (f_uR (f_uR C 9 c2) 6 f2) tl) rfl rfl rfl (rfl) ?_
  by_cases e9 : f_lead s9 kk n9 i9 = n9
  · skip
    refine a_if_eq 91 86 rfl dX11_shift_83 (by decide) (fun hc => absurd hc ((by rw [if_pos e9]; decide))) (fun _ => ?_)
    refine a_iload 7 88 rfl dX11_shift_86 rfl ?_
    refine a_goto 93 dX11_shift_88 (by decide) ?_
    exact a_ireturn .int rfl rfl ((by rw [if_pos e9])) (rfl) dX11_shift_93
  · skip
    refine a_if_eq 91 86 rfl dX11_shift_83 (by decide) (fun _ => ?_) (fun hc => absurd ((by rw [if_neg e9])) hc)
    refine a_bipush (x := (-12)) 93 rfl dX11_shift_91 (by decide) ?_
    exact a_ireturn .int rfl rfl ((by rw [if_neg e9])) (rfl) dX11_shift_93

theorem r_X11_shift01_miss (hq : f_qs G C) (ht : C.2.1 3 = 0 ∨ C.2.1 4 = 0) : g_Run G mX11_shift 6 0 0 [.ref (g_ad G 0), .int 0, .int y2, .int 1, .int y4, .int y5] (g_hp G C tl) (some (.int (-11))) (g_hp G C tl) := by
  refine g_Run.of (lv := [(0, .ref (g_ad G 0)), (1, .int 0), (2, .int y2), (3, .int 1), (4, .int y4), (5, .int y5)]) (by decide) (Nat.le_of_ble_eq_true rfl) rfl ?_
  refine a_aload_n 0 1 rfl dX11_shift_0 rfl rfl ?_
  refine a_iload_n 1 2 rfl dX11_shift_1 rfl rfl ?_
  refine a_callV (as := [.int 0]) (rest := []) (st2 := [.ref (g_ad G 23)]) (u1 := 0) (v1 := 0) (u2 := 0) (v2 := 0) (r_shelfAt0 hq) (⟨_, _, _, _, rfl, rfl⟩) oX11_shelfAt q_908 q_910 q_54 rfl (by omega) (by decide) rfl (Nat.le_of_ble_eq_true rfl) 5 rfl dX11_shift_2 rfl ?_
  refine a_astore (lv' := [(6, .ref (g_ad G 23)), (0, .ref (g_ad G 0)), (1, .int 0), (2, .int y2), (3, .int 1), (4, .int y4), (5, .int y5)]) 7 rfl dX11_shift_5 (by decide) rfl ?_
  refine a_aload_n 1 8 rfl dX11_shift_7 rfl rfl ?_
  refine a_iload_n 4 9 rfl dX11_shift_8 rfl rfl ?_
  refine a_callV (as := [.int 1]) (rest := []) (st2 := [.ref (g_ad G 26)]) (u1 := 0) (v1 := 0) (u2 := 0) (v2 := 0) (r_shelfAt1 hq) (⟨_, _, _, _, rfl, rfl⟩) oX11_shelfAt q_908 q_910 q_54 rfl (by omega) (by decide) rfl (Nat.le_of_ble_eq_true rfl) 12 rfl dX11_shift_9 rfl ?_
  refine a_astore (lv' := [(7, .ref (g_ad G 26)), (6, .ref (g_ad G 23)), (0, .ref (g_ad G 0)), (1, .int 0), (2, .int y2), (3, .int 1), (4, .int y4), (5, .int y5)]) 14 rfl dX11_shift_12 (by decide) rfl ?_
  refine a_aload 1 16 rfl dX11_shift_14 rfl ?_
  refine a_ifnull 19 rfl dX11_shift_16 ?_
  refine a_aload 0 21 rfl dX11_shift_19 rfl ?_
  refine a_ifnonnull 26 dX11_shift_21 (by decide) ?_
  refine a_aload 1 28 rfl dX11_shift_26 rfl ?_
  refine a_callVN (as := []) (rest := []) (st2 := [.int (if C.2.1 3 = 0 then 1 else 0)]) (u1 := 0) (v1 := 0) (u2 := 0) (v2 := 0) (r_X9_isMissing rfl) (⟨_, _, _, _, rfl, rfl⟩) oX9_isMissing q_924 q_926 q_57 rfl (by omega) (by decide) rfl (Nat.le_of_ble_eq_true rfl) 31 rfl dX11_shift_28 rfl ?_
  by_cases h1 : C.2.1 3 = 0
  · skip
    refine a_if_ne 42 34 rfl dX11_shift_31 (by decide) (fun _ => ?_) (fun hc => absurd hc ((by rw [if_pos h1]; decide)))
    refine a_bipush (x := (-11)) 44 rfl dX11_shift_42 (by decide) ?_
    exact a_ireturn .int rfl rfl (rfl) (rfl) dX11_shift_44
  · skip
    refine a_if_ne 42 34 rfl dX11_shift_31 (by decide) (fun hc => absurd ((by rw [if_neg h1])) hc) (fun _ => ?_)
    refine a_aload 0 36 rfl dX11_shift_34 rfl ?_
    refine a_callVN (as := []) (rest := []) (st2 := [.int (if C.2.1 4 = 0 then 1 else 0)]) (u1 := 0) (v1 := 0) (u2 := 0) (v2 := 0) (r_X9_isMissing rfl) (⟨_, _, _, _, rfl, rfl⟩) oX9_isMissing q_924 q_926 q_57 rfl (by omega) (by decide) rfl (Nat.le_of_ble_eq_true rfl) 39 rfl dX11_shift_36 rfl ?_
    refine a_if_eq 45 42 rfl dX11_shift_39 (by decide) (fun hc => absurd hc ((by rw [if_pos (ht.resolve_left h1)]; decide))) (fun _ => ?_)
    refine a_bipush (x := (-11)) 44 rfl dX11_shift_42 (by decide) ?_
    exact a_ireturn .int rfl rfl (rfl) (rfl) dX11_shift_44
theorem r_X11_shift01_out1 (hq : f_qs G C) (h1 : ¬ C.2.1 3 = 0) (h2 : ¬ C.2.1 4 = 0) (hp : C.1 12 ≤ 6) (hno : ∀ i9 n9 : Nat, y2 = nI i9 → y5 = nI n9 → ¬ i9 + n9 ≤ C.1 12) : g_Run G mX11_shift 6 0 0 [.ref (g_ad G 0), .int 0, .int y2, .int 1, .int y4, .int y5] (g_hp G C tl) (some (.int (-13))) (g_hp G C tl) := by
  refine g_Run.of (lv := [(0, .ref (g_ad G 0)), (1, .int 0), (2, .int y2), (3, .int 1), (4, .int y4), (5, .int y5)]) (by decide) (Nat.le_of_ble_eq_true rfl) rfl ?_
  refine a_aload_n 0 1 rfl dX11_shift_0 rfl rfl ?_
  refine a_iload_n 1 2 rfl dX11_shift_1 rfl rfl ?_
  refine a_callV (as := [.int 0]) (rest := []) (st2 := [.ref (g_ad G 23)]) (u1 := 0) (v1 := 0) (u2 := 0) (v2 := 0) (r_shelfAt0 hq) (⟨_, _, _, _, rfl, rfl⟩) oX11_shelfAt q_908 q_910 q_54 rfl (by omega) (by decide) rfl (Nat.le_of_ble_eq_true rfl) 5 rfl dX11_shift_2 rfl ?_
  refine a_astore (lv' := [(6, .ref (g_ad G 23)), (0, .ref (g_ad G 0)), (1, .int 0), (2, .int y2), (3, .int 1), (4, .int y4), (5, .int y5)]) 7 rfl dX11_shift_5 (by decide) rfl ?_
  refine a_aload_n 1 8 rfl dX11_shift_7 rfl rfl ?_
  refine a_iload_n 4 9 rfl dX11_shift_8 rfl rfl ?_
  refine a_callV (as := [.int 1]) (rest := []) (st2 := [.ref (g_ad G 26)]) (u1 := 0) (v1 := 0) (u2 := 0) (v2 := 0) (r_shelfAt1 hq) (⟨_, _, _, _, rfl, rfl⟩) oX11_shelfAt q_908 q_910 q_54 rfl (by omega) (by decide) rfl (Nat.le_of_ble_eq_true rfl) 12 rfl dX11_shift_9 rfl ?_
  refine a_astore (lv' := [(7, .ref (g_ad G 26)), (6, .ref (g_ad G 23)), (0, .ref (g_ad G 0)), (1, .int 0), (2, .int y2), (3, .int 1), (4, .int y4), (5, .int y5)]) 14 rfl dX11_shift_12 (by decide) rfl ?_
  refine a_aload 1 16 rfl dX11_shift_14 rfl ?_
  refine a_ifnull 19 rfl dX11_shift_16 ?_
  refine a_aload 0 21 rfl dX11_shift_19 rfl ?_
  refine a_ifnonnull 26 dX11_shift_21 (by decide) ?_
  refine a_aload 1 28 rfl dX11_shift_26 rfl ?_
  refine a_callVN (as := []) (rest := []) (st2 := [.int (if C.2.1 3 = 0 then 1 else 0)]) (u1 := 0) (v1 := 0) (u2 := 0) (v2 := 0) (r_X9_isMissing rfl) (⟨_, _, _, _, rfl, rfl⟩) oX9_isMissing q_924 q_926 q_57 rfl (by omega) (by decide) rfl (Nat.le_of_ble_eq_true rfl) 31 rfl dX11_shift_28 rfl ?_
  refine a_if_ne 42 34 rfl dX11_shift_31 (by decide) (fun hc => absurd ((by rw [if_neg h1])) hc) (fun _ => ?_)
  refine a_aload 0 36 rfl dX11_shift_34 rfl ?_
  refine a_callVN (as := []) (rest := []) (st2 := [.int (if C.2.1 4 = 0 then 1 else 0)]) (u1 := 0) (v1 := 0) (u2 := 0) (v2 := 0) (r_X9_isMissing rfl) (⟨_, _, _, _, rfl, rfl⟩) oX9_isMissing q_924 q_926 q_57 rfl (by omega) (by decide) rfl (Nat.le_of_ble_eq_true rfl) 39 rfl dX11_shift_36 rfl ?_
  refine a_if_eq 45 42 rfl dX11_shift_39 (by decide) (fun _ => ?_) (fun hc => absurd ((by rw [if_neg h2])) hc)
  refine a_aload 1 47 rfl dX11_shift_45 rfl ?_
  refine a_iload_n 4 48 rfl dX11_shift_47 rfl rfl ?_
  refine a_iload 7 50 rfl dX11_shift_48 rfl ?_
  refine a_callVN (as := [.int y2, .int y5]) (rest := []) (st2 := [.int 0]) (u1 := 0) (v1 := 0) (u2 := 0) (v2 := 0) (r_X9_hasPlaces_f rfl hp hno) (⟨_, _, _, _, rfl, rfl⟩) oX9_hasPlaces q_928 q_930 q_58 rfl (by omega) (by decide) rfl (Nat.le_of_ble_eq_true rfl) 53 rfl dX11_shift_50 rfl ?_
  refine a_if_eq 68 56 rfl dX11_shift_53 (by decide) (fun _ => ?_) (fun hc => absurd (rfl) hc)
  refine a_bipush (x := (-13)) 70 rfl dX11_shift_68 (by decide) ?_
  exact a_ireturn .int rfl rfl (rfl) (rfl) dX11_shift_70
theorem r_X11_shift01_out2 {i9 n9 : Nat} (hq : f_qs G C) (h1 : ¬ C.2.1 3 = 0) (h2 : ¬ C.2.1 4 = 0) (hp : C.1 12 ≤ 6) (hp2 : C.1 13 ≤ 6) (hin : i9 + n9 ≤ C.1 12) (hno : ∀ i7 n7 : Nat, y4 = nI i7 → nI n9 = nI n7 → ¬ i7 + n7 ≤ C.1 13) : g_Run G mX11_shift 6 0 0 [.ref (g_ad G 0), .int 0, .int (nI i9), .int 1, .int y4, .int (nI n9)] (g_hp G C tl) (some (.int (-13))) (g_hp G C tl) := by
  refine g_Run.of (lv := [(0, .ref (g_ad G 0)), (1, .int 0), (2, .int (nI i9)), (3, .int 1), (4, .int y4), (5, .int (nI n9))]) (by decide) (Nat.le_of_ble_eq_true rfl) rfl ?_
  refine a_aload_n 0 1 rfl dX11_shift_0 rfl rfl ?_
  refine a_iload_n 1 2 rfl dX11_shift_1 rfl rfl ?_
  refine a_callV (as := [.int 0]) (rest := []) (st2 := [.ref (g_ad G 23)]) (u1 := 0) (v1 := 0) (u2 := 0) (v2 := 0) (r_shelfAt0 hq) (⟨_, _, _, _, rfl, rfl⟩) oX11_shelfAt q_908 q_910 q_54 rfl (by omega) (by decide) rfl (Nat.le_of_ble_eq_true rfl) 5 rfl dX11_shift_2 rfl ?_
  refine a_astore (lv' := [(6, .ref (g_ad G 23)), (0, .ref (g_ad G 0)), (1, .int 0), (2, .int (nI i9)), (3, .int 1), (4, .int y4), (5, .int (nI n9))]) 7 rfl dX11_shift_5 (by decide) rfl ?_
  refine a_aload_n 1 8 rfl dX11_shift_7 rfl rfl ?_
  refine a_iload_n 4 9 rfl dX11_shift_8 rfl rfl ?_
  refine a_callV (as := [.int 1]) (rest := []) (st2 := [.ref (g_ad G 26)]) (u1 := 0) (v1 := 0) (u2 := 0) (v2 := 0) (r_shelfAt1 hq) (⟨_, _, _, _, rfl, rfl⟩) oX11_shelfAt q_908 q_910 q_54 rfl (by omega) (by decide) rfl (Nat.le_of_ble_eq_true rfl) 12 rfl dX11_shift_9 rfl ?_
  refine a_astore (lv' := [(7, .ref (g_ad G 26)), (6, .ref (g_ad G 23)), (0, .ref (g_ad G 0)), (1, .int 0), (2, .int (nI i9)), (3, .int 1), (4, .int y4), (5, .int (nI n9))]) 14 rfl dX11_shift_12 (by decide) rfl ?_
  refine a_aload 1 16 rfl dX11_shift_14 rfl ?_
  refine a_ifnull 19 rfl dX11_shift_16 ?_
  refine a_aload 0 21 rfl dX11_shift_19 rfl ?_
  refine a_ifnonnull 26 dX11_shift_21 (by decide) ?_
  refine a_aload 1 28 rfl dX11_shift_26 rfl ?_
  refine a_callVN (as := []) (rest := []) (st2 := [.int (if C.2.1 3 = 0 then 1 else 0)]) (u1 := 0) (v1 := 0) (u2 := 0) (v2 := 0) (r_X9_isMissing rfl) (⟨_, _, _, _, rfl, rfl⟩) oX9_isMissing q_924 q_926 q_57 rfl (by omega) (by decide) rfl (Nat.le_of_ble_eq_true rfl) 31 rfl dX11_shift_28 rfl ?_
  refine a_if_ne 42 34 rfl dX11_shift_31 (by decide) (fun hc => absurd ((by rw [if_neg h1])) hc) (fun _ => ?_)
  refine a_aload 0 36 rfl dX11_shift_34 rfl ?_
  refine a_callVN (as := []) (rest := []) (st2 := [.int (if C.2.1 4 = 0 then 1 else 0)]) (u1 := 0) (v1 := 0) (u2 := 0) (v2 := 0) (r_X9_isMissing rfl) (⟨_, _, _, _, rfl, rfl⟩) oX9_isMissing q_924 q_926 q_57 rfl (by omega) (by decide) rfl (Nat.le_of_ble_eq_true rfl) 39 rfl dX11_shift_36 rfl ?_
  refine a_if_eq 45 42 rfl dX11_shift_39 (by decide) (fun _ => ?_) (fun hc => absurd ((by rw [if_neg h2])) hc)
  refine a_aload 1 47 rfl dX11_shift_45 rfl ?_
  refine a_iload_n 4 48 rfl dX11_shift_47 rfl rfl ?_
  refine a_iload 7 50 rfl dX11_shift_48 rfl ?_
  refine a_callVN (as := [.int (nI i9), .int (nI n9)]) (rest := []) (st2 := [.int 1]) (u1 := 0) (v1 := 0) (u2 := 0) (v2 := 0) (r_X9_hasPlaces_t rfl hp hin) (⟨_, _, _, _, rfl, rfl⟩) oX9_hasPlaces q_928 q_930 q_58 rfl (by omega) (by decide) rfl (Nat.le_of_ble_eq_true rfl) 53 rfl dX11_shift_50 rfl ?_
  refine a_if_eq 68 56 rfl dX11_shift_53 (by decide) (fun hc => absurd hc ((by decide))) (fun _ => ?_)
  refine a_aload 0 58 rfl dX11_shift_56 rfl ?_
  refine a_iload 6 60 rfl dX11_shift_58 rfl ?_
  refine a_iload 7 62 rfl dX11_shift_60 rfl ?_
  refine a_callVN (as := [.int y4, .int (nI n9)]) (rest := []) (st2 := [.int 0]) (u1 := 0) (v1 := 0) (u2 := 0) (v2 := 0) (r_X9_hasPlaces_f rfl hp2 hno) (⟨_, _, _, _, rfl, rfl⟩) oX9_hasPlaces q_928 q_930 q_58 rfl (by omega) (by decide) rfl (Nat.le_of_ble_eq_true rfl) 65 rfl dX11_shift_62 rfl ?_
  refine a_if_ne 71 68 rfl dX11_shift_65 (by decide) (fun hc => absurd (rfl) hc) (fun _ => ?_)
  refine a_bipush (x := (-13)) 70 rfl dX11_shift_68 (by decide) ?_
  exact a_ireturn .int rfl rfl (rfl) (rfl) dX11_shift_70
theorem r_X11_shift01 {i9 j9 n9 s9 : Nat} {kk : Nat → Option Nat} (hq : f_qs G C) (h1 : ¬ C.2.1 3 = 0) (h2 : ¬ C.2.1 4 = 0) (hp : C.1 12 ≤ 6) (hp2 : C.1 13 ≤ 6) (hin : i9 + n9 ≤ C.1 12) (hjn : j9 + n9 ≤ C.1 13) (hs : C.2.1 7 = nI s9) (hs3 : s9 < 3) (hk : ∀ q7, q7 < C.1 12 → g_at G (g_hp G C tl) (C.2.2.2.2.2 6 q7) (kk q7)) : ∃ c2 f2 : Nat → Option Nat, (∀ q7, f2 q7 = if j9 ≤ q7 ∧ q7 < j9 + f_lead s9 kk n9 i9 then C.2.2.2.2.2 6 (i9 + (q7 - j9)) else C.2.2.2.2.2 7 q7) ∧ g_Run G mX11_shift 6 0 0 [.ref (g_ad G 0), .int 0, .int (nI i9), .int 1, .int (nI j9), .int (nI n9)] (g_hp G C tl) (some (.int (if f_lead s9 kk n9 i9 = n9 then nI n9 else -12))) (g_hp G (f_uR (f_uR C 10 c2) 7 f2) tl) := by
  have hS : (g_hp G C tl)[26]? = some (c_Sh G 27 28 (C.2.1 4) (nI s9) (C.1 13)) := by rw [← hs]; rfl
  obtain ⟨c2, f2, e2, w⟩ := r_X9_placeAll (G := G) (h := g_hp G C tl) (a := 26) (ka := 27) (kc := 28) (b := 23) (kb := 24) (kd := 25) (y5 := C.2.1 3) (y6 := C.2.1 6) (p8 := C.1 12) (f8 := C.2.2.2.2.2 6) (f := C.2.2.2.2.2 7) (c9 := C.2.2.2.2.2 10) (i9 := i9) (j9 := j9) (n9 := n9) hS rfl rfl rfl rfl hs3 hp2 hp hin hjn (by decide) (by decide) (by decide) (by decide) (by decide) hk
  refine ⟨c2, f2, e2, ?_⟩
  refine g_Run.of (lv := [(0, .ref (g_ad G 0)), (1, .int 0), (2, .int (nI i9)), (3, .int 1), (4, .int (nI j9)), (5, .int (nI n9))]) (by decide) (Nat.le_of_ble_eq_true rfl) rfl ?_
  refine a_aload_n 0 1 rfl dX11_shift_0 rfl rfl ?_
  refine a_iload_n 1 2 rfl dX11_shift_1 rfl rfl ?_
  refine a_callV (as := [.int 0]) (rest := []) (st2 := [.ref (g_ad G 23)]) (u1 := 0) (v1 := 0) (u2 := 0) (v2 := 0) (r_shelfAt0 hq) (⟨_, _, _, _, rfl, rfl⟩) oX11_shelfAt q_908 q_910 q_54 rfl (by omega) (by decide) rfl (Nat.le_of_ble_eq_true rfl) 5 rfl dX11_shift_2 rfl ?_
  refine a_astore (lv' := [(6, .ref (g_ad G 23)), (0, .ref (g_ad G 0)), (1, .int 0), (2, .int (nI i9)), (3, .int 1), (4, .int (nI j9)), (5, .int (nI n9))]) 7 rfl dX11_shift_5 (by decide) rfl ?_
  refine a_aload_n 1 8 rfl dX11_shift_7 rfl rfl ?_
  refine a_iload_n 4 9 rfl dX11_shift_8 rfl rfl ?_
  refine a_callV (as := [.int 1]) (rest := []) (st2 := [.ref (g_ad G 26)]) (u1 := 0) (v1 := 0) (u2 := 0) (v2 := 0) (r_shelfAt1 hq) (⟨_, _, _, _, rfl, rfl⟩) oX11_shelfAt q_908 q_910 q_54 rfl (by omega) (by decide) rfl (Nat.le_of_ble_eq_true rfl) 12 rfl dX11_shift_9 rfl ?_
  refine a_astore (lv' := [(7, .ref (g_ad G 26)), (6, .ref (g_ad G 23)), (0, .ref (g_ad G 0)), (1, .int 0), (2, .int (nI i9)), (3, .int 1), (4, .int (nI j9)), (5, .int (nI n9))]) 14 rfl dX11_shift_12 (by decide) rfl ?_
  refine a_aload 1 16 rfl dX11_shift_14 rfl ?_
  refine a_ifnull 19 rfl dX11_shift_16 ?_
  refine a_aload 0 21 rfl dX11_shift_19 rfl ?_
  refine a_ifnonnull 26 dX11_shift_21 (by decide) ?_
  refine a_aload 1 28 rfl dX11_shift_26 rfl ?_
  refine a_callVN (as := []) (rest := []) (st2 := [.int (if C.2.1 3 = 0 then 1 else 0)]) (u1 := 0) (v1 := 0) (u2 := 0) (v2 := 0) (r_X9_isMissing rfl) (⟨_, _, _, _, rfl, rfl⟩) oX9_isMissing q_924 q_926 q_57 rfl (by omega) (by decide) rfl (Nat.le_of_ble_eq_true rfl) 31 rfl dX11_shift_28 rfl ?_
  refine a_if_ne 42 34 rfl dX11_shift_31 (by decide) (fun hc => absurd ((by rw [if_neg h1])) hc) (fun _ => ?_)
  refine a_aload 0 36 rfl dX11_shift_34 rfl ?_
  refine a_callVN (as := []) (rest := []) (st2 := [.int (if C.2.1 4 = 0 then 1 else 0)]) (u1 := 0) (v1 := 0) (u2 := 0) (v2 := 0) (r_X9_isMissing rfl) (⟨_, _, _, _, rfl, rfl⟩) oX9_isMissing q_924 q_926 q_57 rfl (by omega) (by decide) rfl (Nat.le_of_ble_eq_true rfl) 39 rfl dX11_shift_36 rfl ?_
  refine a_if_eq 45 42 rfl dX11_shift_39 (by decide) (fun _ => ?_) (fun hc => absurd ((by rw [if_neg h2])) hc)
  refine a_aload 1 47 rfl dX11_shift_45 rfl ?_
  refine a_iload_n 4 48 rfl dX11_shift_47 rfl rfl ?_
  refine a_iload 7 50 rfl dX11_shift_48 rfl ?_
  refine a_callVN (as := [.int (nI i9), .int (nI n9)]) (rest := []) (st2 := [.int 1]) (u1 := 0) (v1 := 0) (u2 := 0) (v2 := 0) (r_X9_hasPlaces_t rfl hp hin) (⟨_, _, _, _, rfl, rfl⟩) oX9_hasPlaces q_928 q_930 q_58 rfl (by omega) (by decide) rfl (Nat.le_of_ble_eq_true rfl) 53 rfl dX11_shift_50 rfl ?_
  refine a_if_eq 68 56 rfl dX11_shift_53 (by decide) (fun hc => absurd hc ((by decide))) (fun _ => ?_)
  refine a_aload 0 58 rfl dX11_shift_56 rfl ?_
  refine a_iload 6 60 rfl dX11_shift_58 rfl ?_
  refine a_iload 7 62 rfl dX11_shift_60 rfl ?_
  refine a_callVN (as := [.int (nI j9), .int (nI n9)]) (rest := []) (st2 := [.int 1]) (u1 := 0) (v1 := 0) (u2 := 0) (v2 := 0) (r_X9_hasPlaces_t rfl hp2 hjn) (⟨_, _, _, _, rfl, rfl⟩) oX9_hasPlaces q_928 q_930 q_58 rfl (by omega) (by decide) rfl (Nat.le_of_ble_eq_true rfl) 65 rfl dX11_shift_62 rfl ?_
  refine a_if_ne 71 68 rfl dX11_shift_65 (by decide) (fun _ => ?_) (fun hc => absurd hc ((by decide)))
  refine a_aload 0 73 rfl dX11_shift_71 rfl ?_
  refine a_aload 1 75 rfl dX11_shift_73 rfl ?_
  refine a_iload_n 4 76 rfl dX11_shift_75 rfl rfl ?_
  refine a_iload 6 78 rfl dX11_shift_76 rfl ?_
  refine a_iload 7 80 rfl dX11_shift_78 rfl ?_
  refine a_callVN (as := [.ref (g_ad G 23), .int (nI i9), .int (nI j9), .int (nI n9)]) (rest := []) (st2 := [.int (if f_lead s9 kk n9 i9 = n9 then 1 else 0)]) (u1 := 0) (v1 := 0) (u2 := 0) (v2 := 0) (w) (⟨_, _, _, _, rfl, rfl⟩) oX9_placeAll q_973 q_975 q_65 rfl (by omega) (by decide) rfl (Nat.le_of_ble_eq_true rfl) 83 rfl dX11_shift_80 rfl ?_
  refine a_eq (h2 := g_hp G (f_uR (f_uR C 10 c2) 7 f2) tl) rfl rfl rfl (rfl) ?_
  by_cases e9 : f_lead s9 kk n9 i9 = n9
  · skip
    refine a_if_eq 91 86 rfl dX11_shift_83 (by decide) (fun hc => absurd hc ((by rw [if_pos e9]; decide))) (fun _ => ?_)
    refine a_iload 7 88 rfl dX11_shift_86 rfl ?_
    refine a_goto 93 dX11_shift_88 (by decide) ?_
    exact a_ireturn .int rfl rfl ((by rw [if_pos e9])) (rfl) dX11_shift_93
  · skip
    refine a_if_eq 91 86 rfl dX11_shift_83 (by decide) (fun _ => ?_) (fun hc => absurd ((by rw [if_neg e9])) hc)
    refine a_bipush (x := (-12)) 93 rfl dX11_shift_91 (by decide) ?_
    exact a_ireturn .int rfl rfl ((by rw [if_neg e9])) (rfl) dX11_shift_93

theorem r_X11_shift02_miss (hq : f_qs G C) (ht : C.2.1 3 = 0 ∨ C.2.1 5 = 0) : g_Run G mX11_shift 6 0 0 [.ref (g_ad G 0), .int 0, .int y2, .int 2, .int y4, .int y5] (g_hp G C tl) (some (.int (-11))) (g_hp G C tl) := by
  refine g_Run.of (lv := [(0, .ref (g_ad G 0)), (1, .int 0), (2, .int y2), (3, .int 2), (4, .int y4), (5, .int y5)]) (by decide) (Nat.le_of_ble_eq_true rfl) rfl ?_
  refine a_aload_n 0 1 rfl dX11_shift_0 rfl rfl ?_
  refine a_iload_n 1 2 rfl dX11_shift_1 rfl rfl ?_
  refine a_callV (as := [.int 0]) (rest := []) (st2 := [.ref (g_ad G 23)]) (u1 := 0) (v1 := 0) (u2 := 0) (v2 := 0) (r_shelfAt0 hq) (⟨_, _, _, _, rfl, rfl⟩) oX11_shelfAt q_908 q_910 q_54 rfl (by omega) (by decide) rfl (Nat.le_of_ble_eq_true rfl) 5 rfl dX11_shift_2 rfl ?_
  refine a_astore (lv' := [(6, .ref (g_ad G 23)), (0, .ref (g_ad G 0)), (1, .int 0), (2, .int y2), (3, .int 2), (4, .int y4), (5, .int y5)]) 7 rfl dX11_shift_5 (by decide) rfl ?_
  refine a_aload_n 1 8 rfl dX11_shift_7 rfl rfl ?_
  refine a_iload_n 4 9 rfl dX11_shift_8 rfl rfl ?_
  refine a_callV (as := [.int 2]) (rest := []) (st2 := [.ref (g_ad G 29)]) (u1 := 0) (v1 := 0) (u2 := 0) (v2 := 0) (r_shelfAt2 hq) (⟨_, _, _, _, rfl, rfl⟩) oX11_shelfAt q_908 q_910 q_54 rfl (by omega) (by decide) rfl (Nat.le_of_ble_eq_true rfl) 12 rfl dX11_shift_9 rfl ?_
  refine a_astore (lv' := [(7, .ref (g_ad G 29)), (6, .ref (g_ad G 23)), (0, .ref (g_ad G 0)), (1, .int 0), (2, .int y2), (3, .int 2), (4, .int y4), (5, .int y5)]) 14 rfl dX11_shift_12 (by decide) rfl ?_
  refine a_aload 1 16 rfl dX11_shift_14 rfl ?_
  refine a_ifnull 19 rfl dX11_shift_16 ?_
  refine a_aload 0 21 rfl dX11_shift_19 rfl ?_
  refine a_ifnonnull 26 dX11_shift_21 (by decide) ?_
  refine a_aload 1 28 rfl dX11_shift_26 rfl ?_
  refine a_callVN (as := []) (rest := []) (st2 := [.int (if C.2.1 3 = 0 then 1 else 0)]) (u1 := 0) (v1 := 0) (u2 := 0) (v2 := 0) (r_X9_isMissing rfl) (⟨_, _, _, _, rfl, rfl⟩) oX9_isMissing q_924 q_926 q_57 rfl (by omega) (by decide) rfl (Nat.le_of_ble_eq_true rfl) 31 rfl dX11_shift_28 rfl ?_
  by_cases h1 : C.2.1 3 = 0
  · skip
    refine a_if_ne 42 34 rfl dX11_shift_31 (by decide) (fun _ => ?_) (fun hc => absurd hc ((by rw [if_pos h1]; decide)))
    refine a_bipush (x := (-11)) 44 rfl dX11_shift_42 (by decide) ?_
    exact a_ireturn .int rfl rfl (rfl) (rfl) dX11_shift_44
  · skip
    refine a_if_ne 42 34 rfl dX11_shift_31 (by decide) (fun hc => absurd ((by rw [if_neg h1])) hc) (fun _ => ?_)
    refine a_aload 0 36 rfl dX11_shift_34 rfl ?_
    refine a_callVN (as := []) (rest := []) (st2 := [.int (if C.2.1 5 = 0 then 1 else 0)]) (u1 := 0) (v1 := 0) (u2 := 0) (v2 := 0) (r_X9_isMissing rfl) (⟨_, _, _, _, rfl, rfl⟩) oX9_isMissing q_924 q_926 q_57 rfl (by omega) (by decide) rfl (Nat.le_of_ble_eq_true rfl) 39 rfl dX11_shift_36 rfl ?_
    refine a_if_eq 45 42 rfl dX11_shift_39 (by decide) (fun hc => absurd hc ((by rw [if_pos (ht.resolve_left h1)]; decide))) (fun _ => ?_)
    refine a_bipush (x := (-11)) 44 rfl dX11_shift_42 (by decide) ?_
    exact a_ireturn .int rfl rfl (rfl) (rfl) dX11_shift_44
theorem r_X11_shift02_out1 (hq : f_qs G C) (h1 : ¬ C.2.1 3 = 0) (h2 : ¬ C.2.1 5 = 0) (hp : C.1 12 ≤ 6) (hno : ∀ i9 n9 : Nat, y2 = nI i9 → y5 = nI n9 → ¬ i9 + n9 ≤ C.1 12) : g_Run G mX11_shift 6 0 0 [.ref (g_ad G 0), .int 0, .int y2, .int 2, .int y4, .int y5] (g_hp G C tl) (some (.int (-13))) (g_hp G C tl) := by
  refine g_Run.of (lv := [(0, .ref (g_ad G 0)), (1, .int 0), (2, .int y2), (3, .int 2), (4, .int y4), (5, .int y5)]) (by decide) (Nat.le_of_ble_eq_true rfl) rfl ?_
  refine a_aload_n 0 1 rfl dX11_shift_0 rfl rfl ?_
  refine a_iload_n 1 2 rfl dX11_shift_1 rfl rfl ?_
  refine a_callV (as := [.int 0]) (rest := []) (st2 := [.ref (g_ad G 23)]) (u1 := 0) (v1 := 0) (u2 := 0) (v2 := 0) (r_shelfAt0 hq) (⟨_, _, _, _, rfl, rfl⟩) oX11_shelfAt q_908 q_910 q_54 rfl (by omega) (by decide) rfl (Nat.le_of_ble_eq_true rfl) 5 rfl dX11_shift_2 rfl ?_
  refine a_astore (lv' := [(6, .ref (g_ad G 23)), (0, .ref (g_ad G 0)), (1, .int 0), (2, .int y2), (3, .int 2), (4, .int y4), (5, .int y5)]) 7 rfl dX11_shift_5 (by decide) rfl ?_
  refine a_aload_n 1 8 rfl dX11_shift_7 rfl rfl ?_
  refine a_iload_n 4 9 rfl dX11_shift_8 rfl rfl ?_
  refine a_callV (as := [.int 2]) (rest := []) (st2 := [.ref (g_ad G 29)]) (u1 := 0) (v1 := 0) (u2 := 0) (v2 := 0) (r_shelfAt2 hq) (⟨_, _, _, _, rfl, rfl⟩) oX11_shelfAt q_908 q_910 q_54 rfl (by omega) (by decide) rfl (Nat.le_of_ble_eq_true rfl) 12 rfl dX11_shift_9 rfl ?_
  refine a_astore (lv' := [(7, .ref (g_ad G 29)), (6, .ref (g_ad G 23)), (0, .ref (g_ad G 0)), (1, .int 0), (2, .int y2), (3, .int 2), (4, .int y4), (5, .int y5)]) 14 rfl dX11_shift_12 (by decide) rfl ?_
  refine a_aload 1 16 rfl dX11_shift_14 rfl ?_
  refine a_ifnull 19 rfl dX11_shift_16 ?_
  refine a_aload 0 21 rfl dX11_shift_19 rfl ?_
  refine a_ifnonnull 26 dX11_shift_21 (by decide) ?_
  refine a_aload 1 28 rfl dX11_shift_26 rfl ?_
  refine a_callVN (as := []) (rest := []) (st2 := [.int (if C.2.1 3 = 0 then 1 else 0)]) (u1 := 0) (v1 := 0) (u2 := 0) (v2 := 0) (r_X9_isMissing rfl) (⟨_, _, _, _, rfl, rfl⟩) oX9_isMissing q_924 q_926 q_57 rfl (by omega) (by decide) rfl (Nat.le_of_ble_eq_true rfl) 31 rfl dX11_shift_28 rfl ?_
  refine a_if_ne 42 34 rfl dX11_shift_31 (by decide) (fun hc => absurd ((by rw [if_neg h1])) hc) (fun _ => ?_)
  refine a_aload 0 36 rfl dX11_shift_34 rfl ?_
  refine a_callVN (as := []) (rest := []) (st2 := [.int (if C.2.1 5 = 0 then 1 else 0)]) (u1 := 0) (v1 := 0) (u2 := 0) (v2 := 0) (r_X9_isMissing rfl) (⟨_, _, _, _, rfl, rfl⟩) oX9_isMissing q_924 q_926 q_57 rfl (by omega) (by decide) rfl (Nat.le_of_ble_eq_true rfl) 39 rfl dX11_shift_36 rfl ?_
  refine a_if_eq 45 42 rfl dX11_shift_39 (by decide) (fun _ => ?_) (fun hc => absurd ((by rw [if_neg h2])) hc)
  refine a_aload 1 47 rfl dX11_shift_45 rfl ?_
  refine a_iload_n 4 48 rfl dX11_shift_47 rfl rfl ?_
  refine a_iload 7 50 rfl dX11_shift_48 rfl ?_
  refine a_callVN (as := [.int y2, .int y5]) (rest := []) (st2 := [.int 0]) (u1 := 0) (v1 := 0) (u2 := 0) (v2 := 0) (r_X9_hasPlaces_f rfl hp hno) (⟨_, _, _, _, rfl, rfl⟩) oX9_hasPlaces q_928 q_930 q_58 rfl (by omega) (by decide) rfl (Nat.le_of_ble_eq_true rfl) 53 rfl dX11_shift_50 rfl ?_
  refine a_if_eq 68 56 rfl dX11_shift_53 (by decide) (fun _ => ?_) (fun hc => absurd (rfl) hc)
  refine a_bipush (x := (-13)) 70 rfl dX11_shift_68 (by decide) ?_
  exact a_ireturn .int rfl rfl (rfl) (rfl) dX11_shift_70
theorem r_X11_shift02_out2 {i9 n9 : Nat} (hq : f_qs G C) (h1 : ¬ C.2.1 3 = 0) (h2 : ¬ C.2.1 5 = 0) (hp : C.1 12 ≤ 6) (hp2 : C.1 14 ≤ 6) (hin : i9 + n9 ≤ C.1 12) (hno : ∀ i7 n7 : Nat, y4 = nI i7 → nI n9 = nI n7 → ¬ i7 + n7 ≤ C.1 14) : g_Run G mX11_shift 6 0 0 [.ref (g_ad G 0), .int 0, .int (nI i9), .int 2, .int y4, .int (nI n9)] (g_hp G C tl) (some (.int (-13))) (g_hp G C tl) := by
  refine g_Run.of (lv := [(0, .ref (g_ad G 0)), (1, .int 0), (2, .int (nI i9)), (3, .int 2), (4, .int y4), (5, .int (nI n9))]) (by decide) (Nat.le_of_ble_eq_true rfl) rfl ?_
  refine a_aload_n 0 1 rfl dX11_shift_0 rfl rfl ?_
  refine a_iload_n 1 2 rfl dX11_shift_1 rfl rfl ?_
  refine a_callV (as := [.int 0]) (rest := []) (st2 := [.ref (g_ad G 23)]) (u1 := 0) (v1 := 0) (u2 := 0) (v2 := 0) (r_shelfAt0 hq) (⟨_, _, _, _, rfl, rfl⟩) oX11_shelfAt q_908 q_910 q_54 rfl (by omega) (by decide) rfl (Nat.le_of_ble_eq_true rfl) 5 rfl dX11_shift_2 rfl ?_
  refine a_astore (lv' := [(6, .ref (g_ad G 23)), (0, .ref (g_ad G 0)), (1, .int 0), (2, .int (nI i9)), (3, .int 2), (4, .int y4), (5, .int (nI n9))]) 7 rfl dX11_shift_5 (by decide) rfl ?_
  refine a_aload_n 1 8 rfl dX11_shift_7 rfl rfl ?_
  refine a_iload_n 4 9 rfl dX11_shift_8 rfl rfl ?_
  refine a_callV (as := [.int 2]) (rest := []) (st2 := [.ref (g_ad G 29)]) (u1 := 0) (v1 := 0) (u2 := 0) (v2 := 0) (r_shelfAt2 hq) (⟨_, _, _, _, rfl, rfl⟩) oX11_shelfAt q_908 q_910 q_54 rfl (by omega) (by decide) rfl (Nat.le_of_ble_eq_true rfl) 12 rfl dX11_shift_9 rfl ?_
  refine a_astore (lv' := [(7, .ref (g_ad G 29)), (6, .ref (g_ad G 23)), (0, .ref (g_ad G 0)), (1, .int 0), (2, .int (nI i9)), (3, .int 2), (4, .int y4), (5, .int (nI n9))]) 14 rfl dX11_shift_12 (by decide) rfl ?_
  refine a_aload 1 16 rfl dX11_shift_14 rfl ?_
  refine a_ifnull 19 rfl dX11_shift_16 ?_
  refine a_aload 0 21 rfl dX11_shift_19 rfl ?_
  refine a_ifnonnull 26 dX11_shift_21 (by decide) ?_
  refine a_aload 1 28 rfl dX11_shift_26 rfl ?_
  refine a_callVN (as := []) (rest := []) (st2 := [.int (if C.2.1 3 = 0 then 1 else 0)]) (u1 := 0) (v1 := 0) (u2 := 0) (v2 := 0) (r_X9_isMissing rfl) (⟨_, _, _, _, rfl, rfl⟩) oX9_isMissing q_924 q_926 q_57 rfl (by omega) (by decide) rfl (Nat.le_of_ble_eq_true rfl) 31 rfl dX11_shift_28 rfl ?_
  refine a_if_ne 42 34 rfl dX11_shift_31 (by decide) (fun hc => absurd ((by rw [if_neg h1])) hc) (fun _ => ?_)
  refine a_aload 0 36 rfl dX11_shift_34 rfl ?_
  refine a_callVN (as := []) (rest := []) (st2 := [.int (if C.2.1 5 = 0 then 1 else 0)]) (u1 := 0) (v1 := 0) (u2 := 0) (v2 := 0) (r_X9_isMissing rfl) (⟨_, _, _, _, rfl, rfl⟩) oX9_isMissing q_924 q_926 q_57 rfl (by omega) (by decide) rfl (Nat.le_of_ble_eq_true rfl) 39 rfl dX11_shift_36 rfl ?_
  refine a_if_eq 45 42 rfl dX11_shift_39 (by decide) (fun _ => ?_) (fun hc => absurd ((by rw [if_neg h2])) hc)
  refine a_aload 1 47 rfl dX11_shift_45 rfl ?_
  refine a_iload_n 4 48 rfl dX11_shift_47 rfl rfl ?_
  refine a_iload 7 50 rfl dX11_shift_48 rfl ?_
  refine a_callVN (as := [.int (nI i9), .int (nI n9)]) (rest := []) (st2 := [.int 1]) (u1 := 0) (v1 := 0) (u2 := 0) (v2 := 0) (r_X9_hasPlaces_t rfl hp hin) (⟨_, _, _, _, rfl, rfl⟩) oX9_hasPlaces q_928 q_930 q_58 rfl (by omega) (by decide) rfl (Nat.le_of_ble_eq_true rfl) 53 rfl dX11_shift_50 rfl ?_
  refine a_if_eq 68 56 rfl dX11_shift_53 (by decide) (fun hc => absurd hc ((by decide))) (fun _ => ?_)
  refine a_aload 0 58 rfl dX11_shift_56 rfl ?_
  refine a_iload 6 60 rfl dX11_shift_58 rfl ?_
  refine a_iload 7 62 rfl dX11_shift_60 rfl ?_
  refine a_callVN (as := [.int y4, .int (nI n9)]) (rest := []) (st2 := [.int 0]) (u1 := 0) (v1 := 0) (u2 := 0) (v2 := 0) (r_X9_hasPlaces_f rfl hp2 hno) (⟨_, _, _, _, rfl, rfl⟩) oX9_hasPlaces q_928 q_930 q_58 rfl (by omega) (by decide) rfl (Nat.le_of_ble_eq_true rfl) 65 rfl dX11_shift_62 rfl ?_
  refine a_if_ne 71 68 rfl dX11_shift_65 (by decide) (fun hc => absurd (rfl) hc) (fun _ => ?_)
  refine a_bipush (x := (-13)) 70 rfl dX11_shift_68 (by decide) ?_
  exact a_ireturn .int rfl rfl (rfl) (rfl) dX11_shift_70
theorem r_X11_shift02 {i9 j9 n9 s9 : Nat} {kk : Nat → Option Nat} (hq : f_qs G C) (h1 : ¬ C.2.1 3 = 0) (h2 : ¬ C.2.1 5 = 0) (hp : C.1 12 ≤ 6) (hp2 : C.1 14 ≤ 6) (hin : i9 + n9 ≤ C.1 12) (hjn : j9 + n9 ≤ C.1 14) (hs : C.2.1 8 = nI s9) (hs3 : s9 < 3) (hk : ∀ q7, q7 < C.1 12 → g_at G (g_hp G C tl) (C.2.2.2.2.2 6 q7) (kk q7)) : ∃ c2 f2 : Nat → Option Nat, (∀ q7, f2 q7 = if j9 ≤ q7 ∧ q7 < j9 + f_lead s9 kk n9 i9 then C.2.2.2.2.2 6 (i9 + (q7 - j9)) else C.2.2.2.2.2 8 q7) ∧ g_Run G mX11_shift 6 0 0 [.ref (g_ad G 0), .int 0, .int (nI i9), .int 2, .int (nI j9), .int (nI n9)] (g_hp G C tl) (some (.int (if f_lead s9 kk n9 i9 = n9 then nI n9 else -12))) (g_hp G (f_uR (f_uR C 11 c2) 8 f2) tl) := by
  have hS : (g_hp G C tl)[29]? = some (c_Sh G 30 31 (C.2.1 5) (nI s9) (C.1 14)) := by rw [← hs]; rfl
  obtain ⟨c2, f2, e2, w⟩ := r_X9_placeAll (G := G) (h := g_hp G C tl) (a := 29) (ka := 30) (kc := 31) (b := 23) (kb := 24) (kd := 25) (y5 := C.2.1 3) (y6 := C.2.1 6) (p8 := C.1 12) (f8 := C.2.2.2.2.2 6) (f := C.2.2.2.2.2 8) (c9 := C.2.2.2.2.2 11) (i9 := i9) (j9 := j9) (n9 := n9) hS rfl rfl rfl rfl hs3 hp2 hp hin hjn (by decide) (by decide) (by decide) (by decide) (by decide) hk
  refine ⟨c2, f2, e2, ?_⟩
  refine g_Run.of (lv := [(0, .ref (g_ad G 0)), (1, .int 0), (2, .int (nI i9)), (3, .int 2), (4, .int (nI j9)), (5, .int (nI n9))]) (by decide) (Nat.le_of_ble_eq_true rfl) rfl ?_
  refine a_aload_n 0 1 rfl dX11_shift_0 rfl rfl ?_
  refine a_iload_n 1 2 rfl dX11_shift_1 rfl rfl ?_
  refine a_callV (as := [.int 0]) (rest := []) (st2 := [.ref (g_ad G 23)]) (u1 := 0) (v1 := 0) (u2 := 0) (v2 := 0) (r_shelfAt0 hq) (⟨_, _, _, _, rfl, rfl⟩) oX11_shelfAt q_908 q_910 q_54 rfl (by omega) (by decide) rfl (Nat.le_of_ble_eq_true rfl) 5 rfl dX11_shift_2 rfl ?_
  refine a_astore (lv' := [(6, .ref (g_ad G 23)), (0, .ref (g_ad G 0)), (1, .int 0), (2, .int (nI i9)), (3, .int 2), (4, .int (nI j9)), (5, .int (nI n9))]) 7 rfl dX11_shift_5 (by decide) rfl ?_
  refine a_aload_n 1 8 rfl dX11_shift_7 rfl rfl ?_
  refine a_iload_n 4 9 rfl dX11_shift_8 rfl rfl ?_
  refine a_callV (as := [.int 2]) (rest := []) (st2 := [.ref (g_ad G 29)]) (u1 := 0) (v1 := 0) (u2 := 0) (v2 := 0) (r_shelfAt2 hq) (⟨_, _, _, _, rfl, rfl⟩) oX11_shelfAt q_908 q_910 q_54 rfl (by omega) (by decide) rfl (Nat.le_of_ble_eq_true rfl) 12 rfl dX11_shift_9 rfl ?_
  refine a_astore (lv' := [(7, .ref (g_ad G 29)), (6, .ref (g_ad G 23)), (0, .ref (g_ad G 0)), (1, .int 0), (2, .int (nI i9)), (3, .int 2), (4, .int (nI j9)), (5, .int (nI n9))]) 14 rfl dX11_shift_12 (by decide) rfl ?_
  refine a_aload 1 16 rfl dX11_shift_14 rfl ?_
  refine a_ifnull 19 rfl dX11_shift_16 ?_
  refine a_aload 0 21 rfl dX11_shift_19 rfl ?_
  refine a_ifnonnull 26 dX11_shift_21 (by decide) ?_
  refine a_aload 1 28 rfl dX11_shift_26 rfl ?_
  refine a_callVN (as := []) (rest := []) (st2 := [.int (if C.2.1 3 = 0 then 1 else 0)]) (u1 := 0) (v1 := 0) (u2 := 0) (v2 := 0) (r_X9_isMissing rfl) (⟨_, _, _, _, rfl, rfl⟩) oX9_isMissing q_924 q_926 q_57 rfl (by omega) (by decide) rfl (Nat.le_of_ble_eq_true rfl) 31 rfl dX11_shift_28 rfl ?_
  refine a_if_ne 42 34 rfl dX11_shift_31 (by decide) (fun hc => absurd ((by rw [if_neg h1])) hc) (fun _ => ?_)
  refine a_aload 0 36 rfl dX11_shift_34 rfl ?_
  refine a_callVN (as := []) (rest := []) (st2 := [.int (if C.2.1 5 = 0 then 1 else 0)]) (u1 := 0) (v1 := 0) (u2 := 0) (v2 := 0) (r_X9_isMissing rfl) (⟨_, _, _, _, rfl, rfl⟩) oX9_isMissing q_924 q_926 q_57 rfl (by omega) (by decide) rfl (Nat.le_of_ble_eq_true rfl) 39 rfl dX11_shift_36 rfl ?_
  refine a_if_eq 45 42 rfl dX11_shift_39 (by decide) (fun _ => ?_) (fun hc => absurd ((by rw [if_neg h2])) hc)
  refine a_aload 1 47 rfl dX11_shift_45 rfl ?_
  refine a_iload_n 4 48 rfl dX11_shift_47 rfl rfl ?_
  refine a_iload 7 50 rfl dX11_shift_48 rfl ?_
  refine a_callVN (as := [.int (nI i9), .int (nI n9)]) (rest := []) (st2 := [.int 1]) (u1 := 0) (v1 := 0) (u2 := 0) (v2 := 0) (r_X9_hasPlaces_t rfl hp hin) (⟨_, _, _, _, rfl, rfl⟩) oX9_hasPlaces q_928 q_930 q_58 rfl (by omega) (by decide) rfl (Nat.le_of_ble_eq_true rfl) 53 rfl dX11_shift_50 rfl ?_
  refine a_if_eq 68 56 rfl dX11_shift_53 (by decide) (fun hc => absurd hc ((by decide))) (fun _ => ?_)
  refine a_aload 0 58 rfl dX11_shift_56 rfl ?_
  refine a_iload 6 60 rfl dX11_shift_58 rfl ?_
  refine a_iload 7 62 rfl dX11_shift_60 rfl ?_
  refine a_callVN (as := [.int (nI j9), .int (nI n9)]) (rest := []) (st2 := [.int 1]) (u1 := 0) (v1 := 0) (u2 := 0) (v2 := 0) (r_X9_hasPlaces_t rfl hp2 hjn) (⟨_, _, _, _, rfl, rfl⟩) oX9_hasPlaces q_928 q_930 q_58 rfl (by omega) (by decide) rfl (Nat.le_of_ble_eq_true rfl) 65 rfl dX11_shift_62 rfl ?_
  refine a_if_ne 71 68 rfl dX11_shift_65 (by decide) (fun _ => ?_) (fun hc => absurd hc ((by decide)))
  refine a_aload 0 73 rfl dX11_shift_71 rfl ?_
  refine a_aload 1 75 rfl dX11_shift_73 rfl ?_
  refine a_iload_n 4 76 rfl dX11_shift_75 rfl rfl ?_
  refine a_iload 6 78 rfl dX11_shift_76 rfl ?_
  refine a_iload 7 80 rfl dX11_shift_78 rfl ?_
  refine a_callVN (as := [.ref (g_ad G 23), .int (nI i9), .int (nI j9), .int (nI n9)]) (rest := []) (st2 := [.int (if f_lead s9 kk n9 i9 = n9 then 1 else 0)]) (u1 := 0) (v1 := 0) (u2 := 0) (v2 := 0) (w) (⟨_, _, _, _, rfl, rfl⟩) oX9_placeAll q_973 q_975 q_65 rfl (by omega) (by decide) rfl (Nat.le_of_ble_eq_true rfl) 83 rfl dX11_shift_80 rfl ?_
  refine a_eq (h2 := g_hp G (f_uR (f_uR C 11 c2) 8 f2) tl) rfl rfl rfl (rfl) ?_
  by_cases e9 : f_lead s9 kk n9 i9 = n9
  · skip
    refine a_if_eq 91 86 rfl dX11_shift_83 (by decide) (fun hc => absurd hc ((by rw [if_pos e9]; decide))) (fun _ => ?_)
    refine a_iload 7 88 rfl dX11_shift_86 rfl ?_
    refine a_goto 93 dX11_shift_88 (by decide) ?_
    exact a_ireturn .int rfl rfl ((by rw [if_pos e9])) (rfl) dX11_shift_93
  · skip
    refine a_if_eq 91 86 rfl dX11_shift_83 (by decide) (fun _ => ?_) (fun hc => absurd ((by rw [if_neg e9])) hc)
    refine a_bipush (x := (-12)) 93 rfl dX11_shift_91 (by decide) ?_
    exact a_ireturn .int rfl rfl ((by rw [if_neg e9])) (rfl) dX11_shift_93

theorem r_X11_shift10_miss (hq : f_qs G C) (ht : C.2.1 4 = 0 ∨ C.2.1 3 = 0) : g_Run G mX11_shift 6 0 0 [.ref (g_ad G 0), .int 1, .int y2, .int 0, .int y4, .int y5] (g_hp G C tl) (some (.int (-11))) (g_hp G C tl) := by
  refine g_Run.of (lv := [(0, .ref (g_ad G 0)), (1, .int 1), (2, .int y2), (3, .int 0), (4, .int y4), (5, .int y5)]) (by decide) (Nat.le_of_ble_eq_true rfl) rfl ?_
  refine a_aload_n 0 1 rfl dX11_shift_0 rfl rfl ?_
  refine a_iload_n 1 2 rfl dX11_shift_1 rfl rfl ?_
  refine a_callV (as := [.int 1]) (rest := []) (st2 := [.ref (g_ad G 26)]) (u1 := 0) (v1 := 0) (u2 := 0) (v2 := 0) (r_shelfAt1 hq) (⟨_, _, _, _, rfl, rfl⟩) oX11_shelfAt q_908 q_910 q_54 rfl (by omega) (by decide) rfl (Nat.le_of_ble_eq_true rfl) 5 rfl dX11_shift_2 rfl ?_
  refine a_astore (lv' := [(6, .ref (g_ad G 26)), (0, .ref (g_ad G 0)), (1, .int 1), (2, .int y2), (3, .int 0), (4, .int y4), (5, .int y5)]) 7 rfl dX11_shift_5 (by decide) rfl ?_
  refine a_aload_n 1 8 rfl dX11_shift_7 rfl rfl ?_
  refine a_iload_n 4 9 rfl dX11_shift_8 rfl rfl ?_
  refine a_callV (as := [.int 0]) (rest := []) (st2 := [.ref (g_ad G 23)]) (u1 := 0) (v1 := 0) (u2 := 0) (v2 := 0) (r_shelfAt0 hq) (⟨_, _, _, _, rfl, rfl⟩) oX11_shelfAt q_908 q_910 q_54 rfl (by omega) (by decide) rfl (Nat.le_of_ble_eq_true rfl) 12 rfl dX11_shift_9 rfl ?_
  refine a_astore (lv' := [(7, .ref (g_ad G 23)), (6, .ref (g_ad G 26)), (0, .ref (g_ad G 0)), (1, .int 1), (2, .int y2), (3, .int 0), (4, .int y4), (5, .int y5)]) 14 rfl dX11_shift_12 (by decide) rfl ?_
  refine a_aload 1 16 rfl dX11_shift_14 rfl ?_
  refine a_ifnull 19 rfl dX11_shift_16 ?_
  refine a_aload 0 21 rfl dX11_shift_19 rfl ?_
  refine a_ifnonnull 26 dX11_shift_21 (by decide) ?_
  refine a_aload 1 28 rfl dX11_shift_26 rfl ?_
  refine a_callVN (as := []) (rest := []) (st2 := [.int (if C.2.1 4 = 0 then 1 else 0)]) (u1 := 0) (v1 := 0) (u2 := 0) (v2 := 0) (r_X9_isMissing rfl) (⟨_, _, _, _, rfl, rfl⟩) oX9_isMissing q_924 q_926 q_57 rfl (by omega) (by decide) rfl (Nat.le_of_ble_eq_true rfl) 31 rfl dX11_shift_28 rfl ?_
  by_cases h1 : C.2.1 4 = 0
  · skip
    refine a_if_ne 42 34 rfl dX11_shift_31 (by decide) (fun _ => ?_) (fun hc => absurd hc ((by rw [if_pos h1]; decide)))
    refine a_bipush (x := (-11)) 44 rfl dX11_shift_42 (by decide) ?_
    exact a_ireturn .int rfl rfl (rfl) (rfl) dX11_shift_44
  · skip
    refine a_if_ne 42 34 rfl dX11_shift_31 (by decide) (fun hc => absurd ((by rw [if_neg h1])) hc) (fun _ => ?_)
    refine a_aload 0 36 rfl dX11_shift_34 rfl ?_
    refine a_callVN (as := []) (rest := []) (st2 := [.int (if C.2.1 3 = 0 then 1 else 0)]) (u1 := 0) (v1 := 0) (u2 := 0) (v2 := 0) (r_X9_isMissing rfl) (⟨_, _, _, _, rfl, rfl⟩) oX9_isMissing q_924 q_926 q_57 rfl (by omega) (by decide) rfl (Nat.le_of_ble_eq_true rfl) 39 rfl dX11_shift_36 rfl ?_
    refine a_if_eq 45 42 rfl dX11_shift_39 (by decide) (fun hc => absurd hc ((by rw [if_pos (ht.resolve_left h1)]; decide))) (fun _ => ?_)
    refine a_bipush (x := (-11)) 44 rfl dX11_shift_42 (by decide) ?_
    exact a_ireturn .int rfl rfl (rfl) (rfl) dX11_shift_44
theorem r_X11_shift10_out1 (hq : f_qs G C) (h1 : ¬ C.2.1 4 = 0) (h2 : ¬ C.2.1 3 = 0) (hp : C.1 13 ≤ 6) (hno : ∀ i9 n9 : Nat, y2 = nI i9 → y5 = nI n9 → ¬ i9 + n9 ≤ C.1 13) : g_Run G mX11_shift 6 0 0 [.ref (g_ad G 0), .int 1, .int y2, .int 0, .int y4, .int y5] (g_hp G C tl) (some (.int (-13))) (g_hp G C tl) := by
  refine g_Run.of (lv := [(0, .ref (g_ad G 0)), (1, .int 1), (2, .int y2), (3, .int 0), (4, .int y4), (5, .int y5)]) (by decide) (Nat.le_of_ble_eq_true rfl) rfl ?_
  refine a_aload_n 0 1 rfl dX11_shift_0 rfl rfl ?_
  refine a_iload_n 1 2 rfl dX11_shift_1 rfl rfl ?_
  refine a_callV (as := [.int 1]) (rest := []) (st2 := [.ref (g_ad G 26)]) (u1 := 0) (v1 := 0) (u2 := 0) (v2 := 0) (r_shelfAt1 hq) (⟨_, _, _, _, rfl, rfl⟩) oX11_shelfAt q_908 q_910 q_54 rfl (by omega) (by decide) rfl (Nat.le_of_ble_eq_true rfl) 5 rfl dX11_shift_2 rfl ?_
  refine a_astore (lv' := [(6, .ref (g_ad G 26)), (0, .ref (g_ad G 0)), (1, .int 1), (2, .int y2), (3, .int 0), (4, .int y4), (5, .int y5)]) 7 rfl dX11_shift_5 (by decide) rfl ?_
  refine a_aload_n 1 8 rfl dX11_shift_7 rfl rfl ?_
  refine a_iload_n 4 9 rfl dX11_shift_8 rfl rfl ?_
  refine a_callV (as := [.int 0]) (rest := []) (st2 := [.ref (g_ad G 23)]) (u1 := 0) (v1 := 0) (u2 := 0) (v2 := 0) (r_shelfAt0 hq) (⟨_, _, _, _, rfl, rfl⟩) oX11_shelfAt q_908 q_910 q_54 rfl (by omega) (by decide) rfl (Nat.le_of_ble_eq_true rfl) 12 rfl dX11_shift_9 rfl ?_
  refine a_astore (lv' := [(7, .ref (g_ad G 23)), (6, .ref (g_ad G 26)), (0, .ref (g_ad G 0)), (1, .int 1), (2, .int y2), (3, .int 0), (4, .int y4), (5, .int y5)]) 14 rfl dX11_shift_12 (by decide) rfl ?_
  refine a_aload 1 16 rfl dX11_shift_14 rfl ?_
  refine a_ifnull 19 rfl dX11_shift_16 ?_
  refine a_aload 0 21 rfl dX11_shift_19 rfl ?_
  refine a_ifnonnull 26 dX11_shift_21 (by decide) ?_
  refine a_aload 1 28 rfl dX11_shift_26 rfl ?_
  refine a_callVN (as := []) (rest := []) (st2 := [.int (if C.2.1 4 = 0 then 1 else 0)]) (u1 := 0) (v1 := 0) (u2 := 0) (v2 := 0) (r_X9_isMissing rfl) (⟨_, _, _, _, rfl, rfl⟩) oX9_isMissing q_924 q_926 q_57 rfl (by omega) (by decide) rfl (Nat.le_of_ble_eq_true rfl) 31 rfl dX11_shift_28 rfl ?_
  refine a_if_ne 42 34 rfl dX11_shift_31 (by decide) (fun hc => absurd ((by rw [if_neg h1])) hc) (fun _ => ?_)
  refine a_aload 0 36 rfl dX11_shift_34 rfl ?_
  refine a_callVN (as := []) (rest := []) (st2 := [.int (if C.2.1 3 = 0 then 1 else 0)]) (u1 := 0) (v1 := 0) (u2 := 0) (v2 := 0) (r_X9_isMissing rfl) (⟨_, _, _, _, rfl, rfl⟩) oX9_isMissing q_924 q_926 q_57 rfl (by omega) (by decide) rfl (Nat.le_of_ble_eq_true rfl) 39 rfl dX11_shift_36 rfl ?_
  refine a_if_eq 45 42 rfl dX11_shift_39 (by decide) (fun _ => ?_) (fun hc => absurd ((by rw [if_neg h2])) hc)
  refine a_aload 1 47 rfl dX11_shift_45 rfl ?_
  refine a_iload_n 4 48 rfl dX11_shift_47 rfl rfl ?_
  refine a_iload 7 50 rfl dX11_shift_48 rfl ?_
  refine a_callVN (as := [.int y2, .int y5]) (rest := []) (st2 := [.int 0]) (u1 := 0) (v1 := 0) (u2 := 0) (v2 := 0) (r_X9_hasPlaces_f rfl hp hno) (⟨_, _, _, _, rfl, rfl⟩) oX9_hasPlaces q_928 q_930 q_58 rfl (by omega) (by decide) rfl (Nat.le_of_ble_eq_true rfl) 53 rfl dX11_shift_50 rfl ?_
  refine a_if_eq 68 56 rfl dX11_shift_53 (by decide) (fun _ => ?_) (fun hc => absurd (rfl) hc)
  refine a_bipush (x := (-13)) 70 rfl dX11_shift_68 (by decide) ?_
  exact a_ireturn .int rfl rfl (rfl) (rfl) dX11_shift_70
theorem r_X11_shift10_out2 {i9 n9 : Nat} (hq : f_qs G C) (h1 : ¬ C.2.1 4 = 0) (h2 : ¬ C.2.1 3 = 0) (hp : C.1 13 ≤ 6) (hp2 : C.1 12 ≤ 6) (hin : i9 + n9 ≤ C.1 13) (hno : ∀ i7 n7 : Nat, y4 = nI i7 → nI n9 = nI n7 → ¬ i7 + n7 ≤ C.1 12) : g_Run G mX11_shift 6 0 0 [.ref (g_ad G 0), .int 1, .int (nI i9), .int 0, .int y4, .int (nI n9)] (g_hp G C tl) (some (.int (-13))) (g_hp G C tl) := by
  refine g_Run.of (lv := [(0, .ref (g_ad G 0)), (1, .int 1), (2, .int (nI i9)), (3, .int 0), (4, .int y4), (5, .int (nI n9))]) (by decide) (Nat.le_of_ble_eq_true rfl) rfl ?_
  refine a_aload_n 0 1 rfl dX11_shift_0 rfl rfl ?_
  refine a_iload_n 1 2 rfl dX11_shift_1 rfl rfl ?_
  refine a_callV (as := [.int 1]) (rest := []) (st2 := [.ref (g_ad G 26)]) (u1 := 0) (v1 := 0) (u2 := 0) (v2 := 0) (r_shelfAt1 hq) (⟨_, _, _, _, rfl, rfl⟩) oX11_shelfAt q_908 q_910 q_54 rfl (by omega) (by decide) rfl (Nat.le_of_ble_eq_true rfl) 5 rfl dX11_shift_2 rfl ?_
  refine a_astore (lv' := [(6, .ref (g_ad G 26)), (0, .ref (g_ad G 0)), (1, .int 1), (2, .int (nI i9)), (3, .int 0), (4, .int y4), (5, .int (nI n9))]) 7 rfl dX11_shift_5 (by decide) rfl ?_
  refine a_aload_n 1 8 rfl dX11_shift_7 rfl rfl ?_
  refine a_iload_n 4 9 rfl dX11_shift_8 rfl rfl ?_
  refine a_callV (as := [.int 0]) (rest := []) (st2 := [.ref (g_ad G 23)]) (u1 := 0) (v1 := 0) (u2 := 0) (v2 := 0) (r_shelfAt0 hq) (⟨_, _, _, _, rfl, rfl⟩) oX11_shelfAt q_908 q_910 q_54 rfl (by omega) (by decide) rfl (Nat.le_of_ble_eq_true rfl) 12 rfl dX11_shift_9 rfl ?_
  refine a_astore (lv' := [(7, .ref (g_ad G 23)), (6, .ref (g_ad G 26)), (0, .ref (g_ad G 0)), (1, .int 1), (2, .int (nI i9)), (3, .int 0), (4, .int y4), (5, .int (nI n9))]) 14 rfl dX11_shift_12 (by decide) rfl ?_
  refine a_aload 1 16 rfl dX11_shift_14 rfl ?_
  refine a_ifnull 19 rfl dX11_shift_16 ?_
  refine a_aload 0 21 rfl dX11_shift_19 rfl ?_
  refine a_ifnonnull 26 dX11_shift_21 (by decide) ?_
  refine a_aload 1 28 rfl dX11_shift_26 rfl ?_
  refine a_callVN (as := []) (rest := []) (st2 := [.int (if C.2.1 4 = 0 then 1 else 0)]) (u1 := 0) (v1 := 0) (u2 := 0) (v2 := 0) (r_X9_isMissing rfl) (⟨_, _, _, _, rfl, rfl⟩) oX9_isMissing q_924 q_926 q_57 rfl (by omega) (by decide) rfl (Nat.le_of_ble_eq_true rfl) 31 rfl dX11_shift_28 rfl ?_
  refine a_if_ne 42 34 rfl dX11_shift_31 (by decide) (fun hc => absurd ((by rw [if_neg h1])) hc) (fun _ => ?_)
  refine a_aload 0 36 rfl dX11_shift_34 rfl ?_
  refine a_callVN (as := []) (rest := []) (st2 := [.int (if C.2.1 3 = 0 then 1 else 0)]) (u1 := 0) (v1 := 0) (u2 := 0) (v2 := 0) (r_X9_isMissing rfl) (⟨_, _, _, _, rfl, rfl⟩) oX9_isMissing q_924 q_926 q_57 rfl (by omega) (by decide) rfl (Nat.le_of_ble_eq_true rfl) 39 rfl dX11_shift_36 rfl ?_
  refine a_if_eq 45 42 rfl dX11_shift_39 (by decide) (fun _ => ?_) (fun hc => absurd ((by rw [if_neg h2])) hc)
  refine a_aload 1 47 rfl dX11_shift_45 rfl ?_
  refine a_iload_n 4 48 rfl dX11_shift_47 rfl rfl ?_
  refine a_iload 7 50 rfl dX11_shift_48 rfl ?_
  refine a_callVN (as := [.int (nI i9), .int (nI n9)]) (rest := []) (st2 := [.int 1]) (u1 := 0) (v1 := 0) (u2 := 0) (v2 := 0) (r_X9_hasPlaces_t rfl hp hin) (⟨_, _, _, _, rfl, rfl⟩) oX9_hasPlaces q_928 q_930 q_58 rfl (by omega) (by decide) rfl (Nat.le_of_ble_eq_true rfl) 53 rfl dX11_shift_50 rfl ?_
  refine a_if_eq 68 56 rfl dX11_shift_53 (by decide) (fun hc => absurd hc ((by decide))) (fun _ => ?_)
  refine a_aload 0 58 rfl dX11_shift_56 rfl ?_
  refine a_iload 6 60 rfl dX11_shift_58 rfl ?_
  refine a_iload 7 62 rfl dX11_shift_60 rfl ?_
  refine a_callVN (as := [.int y4, .int (nI n9)]) (rest := []) (st2 := [.int 0]) (u1 := 0) (v1 := 0) (u2 := 0) (v2 := 0) (r_X9_hasPlaces_f rfl hp2 hno) (⟨_, _, _, _, rfl, rfl⟩) oX9_hasPlaces q_928 q_930 q_58 rfl (by omega) (by decide) rfl (Nat.le_of_ble_eq_true rfl) 65 rfl dX11_shift_62 rfl ?_
  refine a_if_ne 71 68 rfl dX11_shift_65 (by decide) (fun hc => absurd (rfl) hc) (fun _ => ?_)
  refine a_bipush (x := (-13)) 70 rfl dX11_shift_68 (by decide) ?_
  exact a_ireturn .int rfl rfl (rfl) (rfl) dX11_shift_70
theorem r_X11_shift10 {i9 j9 n9 s9 : Nat} {kk : Nat → Option Nat} (hq : f_qs G C) (h1 : ¬ C.2.1 4 = 0) (h2 : ¬ C.2.1 3 = 0) (hp : C.1 13 ≤ 6) (hp2 : C.1 12 ≤ 6) (hin : i9 + n9 ≤ C.1 13) (hjn : j9 + n9 ≤ C.1 12) (hs : C.2.1 6 = nI s9) (hs3 : s9 < 3) (hk : ∀ q7, q7 < C.1 13 → g_at G (g_hp G C tl) (C.2.2.2.2.2 7 q7) (kk q7)) : ∃ c2 f2 : Nat → Option Nat, (∀ q7, f2 q7 = if j9 ≤ q7 ∧ q7 < j9 + f_lead s9 kk n9 i9 then C.2.2.2.2.2 7 (i9 + (q7 - j9)) else C.2.2.2.2.2 6 q7) ∧ g_Run G mX11_shift 6 0 0 [.ref (g_ad G 0), .int 1, .int (nI i9), .int 0, .int (nI j9), .int (nI n9)] (g_hp G C tl) (some (.int (if f_lead s9 kk n9 i9 = n9 then nI n9 else -12))) (g_hp G (f_uR (f_uR C 9 c2) 6 f2) tl) := by
  have hS : (g_hp G C tl)[23]? = some (c_Sh G 24 25 (C.2.1 3) (nI s9) (C.1 12)) := by rw [← hs]; rfl
  obtain ⟨c2, f2, e2, w⟩ := r_X9_placeAll (G := G) (h := g_hp G C tl) (a := 23) (ka := 24) (kc := 25) (b := 26) (kb := 27) (kd := 28) (y5 := C.2.1 4) (y6 := C.2.1 7) (p8 := C.1 13) (f8 := C.2.2.2.2.2 7) (f := C.2.2.2.2.2 6) (c9 := C.2.2.2.2.2 9) (i9 := i9) (j9 := j9) (n9 := n9) hS rfl rfl rfl rfl hs3 hp2 hp hin hjn (by decide) (by decide) (by decide) (by decide) (by decide) hk
  refine ⟨c2, f2, e2, ?_⟩
  refine g_Run.of (lv := [(0, .ref (g_ad G 0)), (1, .int 1), (2, .int (nI i9)), (3, .int 0), (4, .int (nI j9)), (5, .int (nI n9))]) (by decide) (Nat.le_of_ble_eq_true rfl) rfl ?_
  refine a_aload_n 0 1 rfl dX11_shift_0 rfl rfl ?_
  refine a_iload_n 1 2 rfl dX11_shift_1 rfl rfl ?_
  refine a_callV (as := [.int 1]) (rest := []) (st2 := [.ref (g_ad G 26)]) (u1 := 0) (v1 := 0) (u2 := 0) (v2 := 0) (r_shelfAt1 hq) (⟨_, _, _, _, rfl, rfl⟩) oX11_shelfAt q_908 q_910 q_54 rfl (by omega) (by decide) rfl (Nat.le_of_ble_eq_true rfl) 5 rfl dX11_shift_2 rfl ?_
  refine a_astore (lv' := [(6, .ref (g_ad G 26)), (0, .ref (g_ad G 0)), (1, .int 1), (2, .int (nI i9)), (3, .int 0), (4, .int (nI j9)), (5, .int (nI n9))]) 7 rfl dX11_shift_5 (by decide) rfl ?_
  refine a_aload_n 1 8 rfl dX11_shift_7 rfl rfl ?_
  refine a_iload_n 4 9 rfl dX11_shift_8 rfl rfl ?_
  refine a_callV (as := [.int 0]) (rest := []) (st2 := [.ref (g_ad G 23)]) (u1 := 0) (v1 := 0) (u2 := 0) (v2 := 0) (r_shelfAt0 hq) (⟨_, _, _, _, rfl, rfl⟩) oX11_shelfAt q_908 q_910 q_54 rfl (by omega) (by decide) rfl (Nat.le_of_ble_eq_true rfl) 12 rfl dX11_shift_9 rfl ?_
  refine a_astore (lv' := [(7, .ref (g_ad G 23)), (6, .ref (g_ad G 26)), (0, .ref (g_ad G 0)), (1, .int 1), (2, .int (nI i9)), (3, .int 0), (4, .int (nI j9)), (5, .int (nI n9))]) 14 rfl dX11_shift_12 (by decide) rfl ?_
  refine a_aload 1 16 rfl dX11_shift_14 rfl ?_
  refine a_ifnull 19 rfl dX11_shift_16 ?_
  refine a_aload 0 21 rfl dX11_shift_19 rfl ?_
  refine a_ifnonnull 26 dX11_shift_21 (by decide) ?_
  refine a_aload 1 28 rfl dX11_shift_26 rfl ?_
  refine a_callVN (as := []) (rest := []) (st2 := [.int (if C.2.1 4 = 0 then 1 else 0)]) (u1 := 0) (v1 := 0) (u2 := 0) (v2 := 0) (r_X9_isMissing rfl) (⟨_, _, _, _, rfl, rfl⟩) oX9_isMissing q_924 q_926 q_57 rfl (by omega) (by decide) rfl (Nat.le_of_ble_eq_true rfl) 31 rfl dX11_shift_28 rfl ?_
  refine a_if_ne 42 34 rfl dX11_shift_31 (by decide) (fun hc => absurd ((by rw [if_neg h1])) hc) (fun _ => ?_)
  refine a_aload 0 36 rfl dX11_shift_34 rfl ?_
  refine a_callVN (as := []) (rest := []) (st2 := [.int (if C.2.1 3 = 0 then 1 else 0)]) (u1 := 0) (v1 := 0) (u2 := 0) (v2 := 0) (r_X9_isMissing rfl) (⟨_, _, _, _, rfl, rfl⟩) oX9_isMissing q_924 q_926 q_57 rfl (by omega) (by decide) rfl (Nat.le_of_ble_eq_true rfl) 39 rfl dX11_shift_36 rfl ?_
  refine a_if_eq 45 42 rfl dX11_shift_39 (by decide) (fun _ => ?_) (fun hc => absurd ((by rw [if_neg h2])) hc)
  refine a_aload 1 47 rfl dX11_shift_45 rfl ?_
  refine a_iload_n 4 48 rfl dX11_shift_47 rfl rfl ?_
  refine a_iload 7 50 rfl dX11_shift_48 rfl ?_
  refine a_callVN (as := [.int (nI i9), .int (nI n9)]) (rest := []) (st2 := [.int 1]) (u1 := 0) (v1 := 0) (u2 := 0) (v2 := 0) (r_X9_hasPlaces_t rfl hp hin) (⟨_, _, _, _, rfl, rfl⟩) oX9_hasPlaces q_928 q_930 q_58 rfl (by omega) (by decide) rfl (Nat.le_of_ble_eq_true rfl) 53 rfl dX11_shift_50 rfl ?_
  refine a_if_eq 68 56 rfl dX11_shift_53 (by decide) (fun hc => absurd hc ((by decide))) (fun _ => ?_)
  refine a_aload 0 58 rfl dX11_shift_56 rfl ?_
  refine a_iload 6 60 rfl dX11_shift_58 rfl ?_
  refine a_iload 7 62 rfl dX11_shift_60 rfl ?_
  refine a_callVN (as := [.int (nI j9), .int (nI n9)]) (rest := []) (st2 := [.int 1]) (u1 := 0) (v1 := 0) (u2 := 0) (v2 := 0) (r_X9_hasPlaces_t rfl hp2 hjn) (⟨_, _, _, _, rfl, rfl⟩) oX9_hasPlaces q_928 q_930 q_58 rfl (by omega) (by decide) rfl (Nat.le_of_ble_eq_true rfl) 65 rfl dX11_shift_62 rfl ?_
  refine a_if_ne 71 68 rfl dX11_shift_65 (by decide) (fun _ => ?_) (fun hc => absurd hc ((by decide)))
  refine a_aload 0 73 rfl dX11_shift_71 rfl ?_
  refine a_aload 1 75 rfl dX11_shift_73 rfl ?_
  refine a_iload_n 4 76 rfl dX11_shift_75 rfl rfl ?_
  refine a_iload 6 78 rfl dX11_shift_76 rfl ?_
  refine a_iload 7 80 rfl dX11_shift_78 rfl ?_
  refine a_callVN (as := [.ref (g_ad G 26), .int (nI i9), .int (nI j9), .int (nI n9)]) (rest := []) (st2 := [.int (if f_lead s9 kk n9 i9 = n9 then 1 else 0)]) (u1 := 0) (v1 := 0) (u2 := 0) (v2 := 0) (w) (⟨_, _, _, _, rfl, rfl⟩) oX9_placeAll q_973 q_975 q_65 rfl (by omega) (by decide) rfl (Nat.le_of_ble_eq_true rfl) 83 rfl dX11_shift_80 rfl ?_
  refine a_eq (h2 := g_hp G (f_uR (f_uR C 9 c2) 6 f2) tl) rfl rfl rfl (rfl) ?_
  by_cases e9 : f_lead s9 kk n9 i9 = n9
  · skip
    refine a_if_eq 91 86 rfl dX11_shift_83 (by decide) (fun hc => absurd hc ((by rw [if_pos e9]; decide))) (fun _ => ?_)
    refine a_iload 7 88 rfl dX11_shift_86 rfl ?_
    refine a_goto 93 dX11_shift_88 (by decide) ?_
    exact a_ireturn .int rfl rfl ((by rw [if_pos e9])) (rfl) dX11_shift_93
  · skip
    refine a_if_eq 91 86 rfl dX11_shift_83 (by decide) (fun _ => ?_) (fun hc => absurd ((by rw [if_neg e9])) hc)
    refine a_bipush (x := (-12)) 93 rfl dX11_shift_91 (by decide) ?_
    exact a_ireturn .int rfl rfl ((by rw [if_neg e9])) (rfl) dX11_shift_93

theorem r_X11_shift11_miss (hq : f_qs G C) (ht : C.2.1 4 = 0 ∨ C.2.1 4 = 0) : g_Run G mX11_shift 6 0 0 [.ref (g_ad G 0), .int 1, .int y2, .int 1, .int y4, .int y5] (g_hp G C tl) (some (.int (-11))) (g_hp G C tl) := by
  refine g_Run.of (lv := [(0, .ref (g_ad G 0)), (1, .int 1), (2, .int y2), (3, .int 1), (4, .int y4), (5, .int y5)]) (by decide) (Nat.le_of_ble_eq_true rfl) rfl ?_
  refine a_aload_n 0 1 rfl dX11_shift_0 rfl rfl ?_
  refine a_iload_n 1 2 rfl dX11_shift_1 rfl rfl ?_
  refine a_callV (as := [.int 1]) (rest := []) (st2 := [.ref (g_ad G 26)]) (u1 := 0) (v1 := 0) (u2 := 0) (v2 := 0) (r_shelfAt1 hq) (⟨_, _, _, _, rfl, rfl⟩) oX11_shelfAt q_908 q_910 q_54 rfl (by omega) (by decide) rfl (Nat.le_of_ble_eq_true rfl) 5 rfl dX11_shift_2 rfl ?_
  refine a_astore (lv' := [(6, .ref (g_ad G 26)), (0, .ref (g_ad G 0)), (1, .int 1), (2, .int y2), (3, .int 1), (4, .int y4), (5, .int y5)]) 7 rfl dX11_shift_5 (by decide) rfl ?_
  refine a_aload_n 1 8 rfl dX11_shift_7 rfl rfl ?_
  refine a_iload_n 4 9 rfl dX11_shift_8 rfl rfl ?_
  refine a_callV (as := [.int 1]) (rest := []) (st2 := [.ref (g_ad G 26)]) (u1 := 0) (v1 := 0) (u2 := 0) (v2 := 0) (r_shelfAt1 hq) (⟨_, _, _, _, rfl, rfl⟩) oX11_shelfAt q_908 q_910 q_54 rfl (by omega) (by decide) rfl (Nat.le_of_ble_eq_true rfl) 12 rfl dX11_shift_9 rfl ?_
  refine a_astore (lv' := [(7, .ref (g_ad G 26)), (6, .ref (g_ad G 26)), (0, .ref (g_ad G 0)), (1, .int 1), (2, .int y2), (3, .int 1), (4, .int y4), (5, .int y5)]) 14 rfl dX11_shift_12 (by decide) rfl ?_
  refine a_aload 1 16 rfl dX11_shift_14 rfl ?_
  refine a_ifnull 19 rfl dX11_shift_16 ?_
  refine a_aload 0 21 rfl dX11_shift_19 rfl ?_
  refine a_ifnonnull 26 dX11_shift_21 (by decide) ?_
  refine a_aload 1 28 rfl dX11_shift_26 rfl ?_
  refine a_callVN (as := []) (rest := []) (st2 := [.int (if C.2.1 4 = 0 then 1 else 0)]) (u1 := 0) (v1 := 0) (u2 := 0) (v2 := 0) (r_X9_isMissing rfl) (⟨_, _, _, _, rfl, rfl⟩) oX9_isMissing q_924 q_926 q_57 rfl (by omega) (by decide) rfl (Nat.le_of_ble_eq_true rfl) 31 rfl dX11_shift_28 rfl ?_
  by_cases h1 : C.2.1 4 = 0
  · skip
    refine a_if_ne 42 34 rfl dX11_shift_31 (by decide) (fun _ => ?_) (fun hc => absurd hc ((by rw [if_pos h1]; decide)))
    refine a_bipush (x := (-11)) 44 rfl dX11_shift_42 (by decide) ?_
    exact a_ireturn .int rfl rfl (rfl) (rfl) dX11_shift_44
  · skip
    refine a_if_ne 42 34 rfl dX11_shift_31 (by decide) (fun hc => absurd ((by rw [if_neg h1])) hc) (fun _ => ?_)
    refine a_aload 0 36 rfl dX11_shift_34 rfl ?_
    refine a_callVN (as := []) (rest := []) (st2 := [.int (if C.2.1 4 = 0 then 1 else 0)]) (u1 := 0) (v1 := 0) (u2 := 0) (v2 := 0) (r_X9_isMissing rfl) (⟨_, _, _, _, rfl, rfl⟩) oX9_isMissing q_924 q_926 q_57 rfl (by omega) (by decide) rfl (Nat.le_of_ble_eq_true rfl) 39 rfl dX11_shift_36 rfl ?_
    refine a_if_eq 45 42 rfl dX11_shift_39 (by decide) (fun hc => absurd hc ((by rw [if_pos (ht.resolve_left h1)]; decide))) (fun _ => ?_)
    refine a_bipush (x := (-11)) 44 rfl dX11_shift_42 (by decide) ?_
    exact a_ireturn .int rfl rfl (rfl) (rfl) dX11_shift_44
theorem r_X11_shift11_out1 (hq : f_qs G C) (h1 : ¬ C.2.1 4 = 0) (h2 : ¬ C.2.1 4 = 0) (hp : C.1 13 ≤ 6) (hno : ∀ i9 n9 : Nat, y2 = nI i9 → y5 = nI n9 → ¬ i9 + n9 ≤ C.1 13) : g_Run G mX11_shift 6 0 0 [.ref (g_ad G 0), .int 1, .int y2, .int 1, .int y4, .int y5] (g_hp G C tl) (some (.int (-13))) (g_hp G C tl) := by
  refine g_Run.of (lv := [(0, .ref (g_ad G 0)), (1, .int 1), (2, .int y2), (3, .int 1), (4, .int y4), (5, .int y5)]) (by decide) (Nat.le_of_ble_eq_true rfl) rfl ?_
  refine a_aload_n 0 1 rfl dX11_shift_0 rfl rfl ?_
  refine a_iload_n 1 2 rfl dX11_shift_1 rfl rfl ?_
  refine a_callV (as := [.int 1]) (rest := []) (st2 := [.ref (g_ad G 26)]) (u1 := 0) (v1 := 0) (u2 := 0) (v2 := 0) (r_shelfAt1 hq) (⟨_, _, _, _, rfl, rfl⟩) oX11_shelfAt q_908 q_910 q_54 rfl (by omega) (by decide) rfl (Nat.le_of_ble_eq_true rfl) 5 rfl dX11_shift_2 rfl ?_
  refine a_astore (lv' := [(6, .ref (g_ad G 26)), (0, .ref (g_ad G 0)), (1, .int 1), (2, .int y2), (3, .int 1), (4, .int y4), (5, .int y5)]) 7 rfl dX11_shift_5 (by decide) rfl ?_
  refine a_aload_n 1 8 rfl dX11_shift_7 rfl rfl ?_
  refine a_iload_n 4 9 rfl dX11_shift_8 rfl rfl ?_
  refine a_callV (as := [.int 1]) (rest := []) (st2 := [.ref (g_ad G 26)]) (u1 := 0) (v1 := 0) (u2 := 0) (v2 := 0) (r_shelfAt1 hq) (⟨_, _, _, _, rfl, rfl⟩) oX11_shelfAt q_908 q_910 q_54 rfl (by omega) (by decide) rfl (Nat.le_of_ble_eq_true rfl) 12 rfl dX11_shift_9 rfl ?_
  refine a_astore (lv' := [(7, .ref (g_ad G 26)), (6, .ref (g_ad G 26)), (0, .ref (g_ad G 0)), (1, .int 1), (2, .int y2), (3, .int 1), (4, .int y4), (5, .int y5)]) 14 rfl dX11_shift_12 (by decide) rfl ?_
  refine a_aload 1 16 rfl dX11_shift_14 rfl ?_
  refine a_ifnull 19 rfl dX11_shift_16 ?_
  refine a_aload 0 21 rfl dX11_shift_19 rfl ?_
  refine a_ifnonnull 26 dX11_shift_21 (by decide) ?_
  refine a_aload 1 28 rfl dX11_shift_26 rfl ?_
  refine a_callVN (as := []) (rest := []) (st2 := [.int (if C.2.1 4 = 0 then 1 else 0)]) (u1 := 0) (v1 := 0) (u2 := 0) (v2 := 0) (r_X9_isMissing rfl) (⟨_, _, _, _, rfl, rfl⟩) oX9_isMissing q_924 q_926 q_57 rfl (by omega) (by decide) rfl (Nat.le_of_ble_eq_true rfl) 31 rfl dX11_shift_28 rfl ?_
  refine a_if_ne 42 34 rfl dX11_shift_31 (by decide) (fun hc => absurd ((by rw [if_neg h1])) hc) (fun _ => ?_)
  refine a_aload 0 36 rfl dX11_shift_34 rfl ?_
  refine a_callVN (as := []) (rest := []) (st2 := [.int (if C.2.1 4 = 0 then 1 else 0)]) (u1 := 0) (v1 := 0) (u2 := 0) (v2 := 0) (r_X9_isMissing rfl) (⟨_, _, _, _, rfl, rfl⟩) oX9_isMissing q_924 q_926 q_57 rfl (by omega) (by decide) rfl (Nat.le_of_ble_eq_true rfl) 39 rfl dX11_shift_36 rfl ?_
  refine a_if_eq 45 42 rfl dX11_shift_39 (by decide) (fun _ => ?_) (fun hc => absurd ((by rw [if_neg h2])) hc)
  refine a_aload 1 47 rfl dX11_shift_45 rfl ?_
  refine a_iload_n 4 48 rfl dX11_shift_47 rfl rfl ?_
  refine a_iload 7 50 rfl dX11_shift_48 rfl ?_
  refine a_callVN (as := [.int y2, .int y5]) (rest := []) (st2 := [.int 0]) (u1 := 0) (v1 := 0) (u2 := 0) (v2 := 0) (r_X9_hasPlaces_f rfl hp hno) (⟨_, _, _, _, rfl, rfl⟩) oX9_hasPlaces q_928 q_930 q_58 rfl (by omega) (by decide) rfl (Nat.le_of_ble_eq_true rfl) 53 rfl dX11_shift_50 rfl ?_
  refine a_if_eq 68 56 rfl dX11_shift_53 (by decide) (fun _ => ?_) (fun hc => absurd (rfl) hc)
  refine a_bipush (x := (-13)) 70 rfl dX11_shift_68 (by decide) ?_
  exact a_ireturn .int rfl rfl (rfl) (rfl) dX11_shift_70
theorem r_X11_shift11_out2 {i9 n9 : Nat} (hq : f_qs G C) (h1 : ¬ C.2.1 4 = 0) (h2 : ¬ C.2.1 4 = 0) (hp : C.1 13 ≤ 6) (hp2 : C.1 13 ≤ 6) (hin : i9 + n9 ≤ C.1 13) (hno : ∀ i7 n7 : Nat, y4 = nI i7 → nI n9 = nI n7 → ¬ i7 + n7 ≤ C.1 13) : g_Run G mX11_shift 6 0 0 [.ref (g_ad G 0), .int 1, .int (nI i9), .int 1, .int y4, .int (nI n9)] (g_hp G C tl) (some (.int (-13))) (g_hp G C tl) := by
  refine g_Run.of (lv := [(0, .ref (g_ad G 0)), (1, .int 1), (2, .int (nI i9)), (3, .int 1), (4, .int y4), (5, .int (nI n9))]) (by decide) (Nat.le_of_ble_eq_true rfl) rfl ?_
  refine a_aload_n 0 1 rfl dX11_shift_0 rfl rfl ?_
  refine a_iload_n 1 2 rfl dX11_shift_1 rfl rfl ?_
  refine a_callV (as := [.int 1]) (rest := []) (st2 := [.ref (g_ad G 26)]) (u1 := 0) (v1 := 0) (u2 := 0) (v2 := 0) (r_shelfAt1 hq) (⟨_, _, _, _, rfl, rfl⟩) oX11_shelfAt q_908 q_910 q_54 rfl (by omega) (by decide) rfl (Nat.le_of_ble_eq_true rfl) 5 rfl dX11_shift_2 rfl ?_
  refine a_astore (lv' := [(6, .ref (g_ad G 26)), (0, .ref (g_ad G 0)), (1, .int 1), (2, .int (nI i9)), (3, .int 1), (4, .int y4), (5, .int (nI n9))]) 7 rfl dX11_shift_5 (by decide) rfl ?_
  refine a_aload_n 1 8 rfl dX11_shift_7 rfl rfl ?_
  refine a_iload_n 4 9 rfl dX11_shift_8 rfl rfl ?_
  refine a_callV (as := [.int 1]) (rest := []) (st2 := [.ref (g_ad G 26)]) (u1 := 0) (v1 := 0) (u2 := 0) (v2 := 0) (r_shelfAt1 hq) (⟨_, _, _, _, rfl, rfl⟩) oX11_shelfAt q_908 q_910 q_54 rfl (by omega) (by decide) rfl (Nat.le_of_ble_eq_true rfl) 12 rfl dX11_shift_9 rfl ?_
  refine a_astore (lv' := [(7, .ref (g_ad G 26)), (6, .ref (g_ad G 26)), (0, .ref (g_ad G 0)), (1, .int 1), (2, .int (nI i9)), (3, .int 1), (4, .int y4), (5, .int (nI n9))]) 14 rfl dX11_shift_12 (by decide) rfl ?_
  refine a_aload 1 16 rfl dX11_shift_14 rfl ?_
  refine a_ifnull 19 rfl dX11_shift_16 ?_
  refine a_aload 0 21 rfl dX11_shift_19 rfl ?_
  refine a_ifnonnull 26 dX11_shift_21 (by decide) ?_
  refine a_aload 1 28 rfl dX11_shift_26 rfl ?_
  refine a_callVN (as := []) (rest := []) (st2 := [.int (if C.2.1 4 = 0 then 1 else 0)]) (u1 := 0) (v1 := 0) (u2 := 0) (v2 := 0) (r_X9_isMissing rfl) (⟨_, _, _, _, rfl, rfl⟩) oX9_isMissing q_924 q_926 q_57 rfl (by omega) (by decide) rfl (Nat.le_of_ble_eq_true rfl) 31 rfl dX11_shift_28 rfl ?_
  refine a_if_ne 42 34 rfl dX11_shift_31 (by decide) (fun hc => absurd ((by rw [if_neg h1])) hc) (fun _ => ?_)
  refine a_aload 0 36 rfl dX11_shift_34 rfl ?_
  refine a_callVN (as := []) (rest := []) (st2 := [.int (if C.2.1 4 = 0 then 1 else 0)]) (u1 := 0) (v1 := 0) (u2 := 0) (v2 := 0) (r_X9_isMissing rfl) (⟨_, _, _, _, rfl, rfl⟩) oX9_isMissing q_924 q_926 q_57 rfl (by omega) (by decide) rfl (Nat.le_of_ble_eq_true rfl) 39 rfl dX11_shift_36 rfl ?_
  refine a_if_eq 45 42 rfl dX11_shift_39 (by decide) (fun _ => ?_) (fun hc => absurd ((by rw [if_neg h2])) hc)
  refine a_aload 1 47 rfl dX11_shift_45 rfl ?_
  refine a_iload_n 4 48 rfl dX11_shift_47 rfl rfl ?_
  refine a_iload 7 50 rfl dX11_shift_48 rfl ?_
  refine a_callVN (as := [.int (nI i9), .int (nI n9)]) (rest := []) (st2 := [.int 1]) (u1 := 0) (v1 := 0) (u2 := 0) (v2 := 0) (r_X9_hasPlaces_t rfl hp hin) (⟨_, _, _, _, rfl, rfl⟩) oX9_hasPlaces q_928 q_930 q_58 rfl (by omega) (by decide) rfl (Nat.le_of_ble_eq_true rfl) 53 rfl dX11_shift_50 rfl ?_
  refine a_if_eq 68 56 rfl dX11_shift_53 (by decide) (fun hc => absurd hc ((by decide))) (fun _ => ?_)
  refine a_aload 0 58 rfl dX11_shift_56 rfl ?_
  refine a_iload 6 60 rfl dX11_shift_58 rfl ?_
  refine a_iload 7 62 rfl dX11_shift_60 rfl ?_
  refine a_callVN (as := [.int y4, .int (nI n9)]) (rest := []) (st2 := [.int 0]) (u1 := 0) (v1 := 0) (u2 := 0) (v2 := 0) (r_X9_hasPlaces_f rfl hp2 hno) (⟨_, _, _, _, rfl, rfl⟩) oX9_hasPlaces q_928 q_930 q_58 rfl (by omega) (by decide) rfl (Nat.le_of_ble_eq_true rfl) 65 rfl dX11_shift_62 rfl ?_
  refine a_if_ne 71 68 rfl dX11_shift_65 (by decide) (fun hc => absurd (rfl) hc) (fun _ => ?_)
  refine a_bipush (x := (-13)) 70 rfl dX11_shift_68 (by decide) ?_
  exact a_ireturn .int rfl rfl (rfl) (rfl) dX11_shift_70
theorem r_X11_shift11 {i9 j9 n9 s9 : Nat} {kk : Nat → Option Nat} (hq : f_qs G C) (h1 : ¬ C.2.1 4 = 0) (h2 : ¬ C.2.1 4 = 0) (hp : C.1 13 ≤ 6) (hp2 : C.1 13 ≤ 6) (hin : i9 + n9 ≤ C.1 13) (hjn : j9 + n9 ≤ C.1 13) (hs : C.2.1 7 = nI s9) (hs3 : s9 < 3) (hk : ∀ q7, q7 < C.1 13 → g_at G (g_hp G C tl) (C.2.2.2.2.2 7 q7) (kk q7)) : ∃ c2 f2 : Nat → Option Nat, (∀ q7, f2 q7 = if j9 ≤ q7 ∧ q7 < j9 + f_lead s9 kk n9 i9 then C.2.2.2.2.2 7 (i9 + (q7 - j9)) else C.2.2.2.2.2 7 q7) ∧ g_Run G mX11_shift 6 0 0 [.ref (g_ad G 0), .int 1, .int (nI i9), .int 1, .int (nI j9), .int (nI n9)] (g_hp G C tl) (some (.int (if f_lead s9 kk n9 i9 = n9 then nI n9 else -12))) (g_hp G (f_uR (f_uR C 10 c2) 7 f2) tl) := by
  have hS : (g_hp G C tl)[26]? = some (c_Sh G 27 28 (C.2.1 4) (nI s9) (C.1 13)) := by rw [← hs]; rfl
  obtain ⟨c2, f2, e2, w⟩ := r_X9_placeAll (G := G) (h := g_hp G C tl) (a := 26) (ka := 27) (kc := 28) (b := 26) (kb := 27) (kd := 28) (y5 := C.2.1 4) (y6 := C.2.1 7) (p8 := C.1 13) (f8 := C.2.2.2.2.2 7) (f := C.2.2.2.2.2 7) (c9 := C.2.2.2.2.2 10) (i9 := i9) (j9 := j9) (n9 := n9) hS rfl rfl rfl rfl hs3 hp2 hp hin hjn (by decide) (by decide) (by decide) (by decide) (by decide) hk
  refine ⟨c2, f2, e2, ?_⟩
  refine g_Run.of (lv := [(0, .ref (g_ad G 0)), (1, .int 1), (2, .int (nI i9)), (3, .int 1), (4, .int (nI j9)), (5, .int (nI n9))]) (by decide) (Nat.le_of_ble_eq_true rfl) rfl ?_
  refine a_aload_n 0 1 rfl dX11_shift_0 rfl rfl ?_
  refine a_iload_n 1 2 rfl dX11_shift_1 rfl rfl ?_
  refine a_callV (as := [.int 1]) (rest := []) (st2 := [.ref (g_ad G 26)]) (u1 := 0) (v1 := 0) (u2 := 0) (v2 := 0) (r_shelfAt1 hq) (⟨_, _, _, _, rfl, rfl⟩) oX11_shelfAt q_908 q_910 q_54 rfl (by omega) (by decide) rfl (Nat.le_of_ble_eq_true rfl) 5 rfl dX11_shift_2 rfl ?_
  refine a_astore (lv' := [(6, .ref (g_ad G 26)), (0, .ref (g_ad G 0)), (1, .int 1), (2, .int (nI i9)), (3, .int 1), (4, .int (nI j9)), (5, .int (nI n9))]) 7 rfl dX11_shift_5 (by decide) rfl ?_
  refine a_aload_n 1 8 rfl dX11_shift_7 rfl rfl ?_
  refine a_iload_n 4 9 rfl dX11_shift_8 rfl rfl ?_
  refine a_callV (as := [.int 1]) (rest := []) (st2 := [.ref (g_ad G 26)]) (u1 := 0) (v1 := 0) (u2 := 0) (v2 := 0) (r_shelfAt1 hq) (⟨_, _, _, _, rfl, rfl⟩) oX11_shelfAt q_908 q_910 q_54 rfl (by omega) (by decide) rfl (Nat.le_of_ble_eq_true rfl) 12 rfl dX11_shift_9 rfl ?_
  refine a_astore (lv' := [(7, .ref (g_ad G 26)), (6, .ref (g_ad G 26)), (0, .ref (g_ad G 0)), (1, .int 1), (2, .int (nI i9)), (3, .int 1), (4, .int (nI j9)), (5, .int (nI n9))]) 14 rfl dX11_shift_12 (by decide) rfl ?_
  refine a_aload 1 16 rfl dX11_shift_14 rfl ?_
  refine a_ifnull 19 rfl dX11_shift_16 ?_
  refine a_aload 0 21 rfl dX11_shift_19 rfl ?_
  refine a_ifnonnull 26 dX11_shift_21 (by decide) ?_
  refine a_aload 1 28 rfl dX11_shift_26 rfl ?_
  refine a_callVN (as := []) (rest := []) (st2 := [.int (if C.2.1 4 = 0 then 1 else 0)]) (u1 := 0) (v1 := 0) (u2 := 0) (v2 := 0) (r_X9_isMissing rfl) (⟨_, _, _, _, rfl, rfl⟩) oX9_isMissing q_924 q_926 q_57 rfl (by omega) (by decide) rfl (Nat.le_of_ble_eq_true rfl) 31 rfl dX11_shift_28 rfl ?_
  refine a_if_ne 42 34 rfl dX11_shift_31 (by decide) (fun hc => absurd ((by rw [if_neg h1])) hc) (fun _ => ?_)
  refine a_aload 0 36 rfl dX11_shift_34 rfl ?_
  refine a_callVN (as := []) (rest := []) (st2 := [.int (if C.2.1 4 = 0 then 1 else 0)]) (u1 := 0) (v1 := 0) (u2 := 0) (v2 := 0) (r_X9_isMissing rfl) (⟨_, _, _, _, rfl, rfl⟩) oX9_isMissing q_924 q_926 q_57 rfl (by omega) (by decide) rfl (Nat.le_of_ble_eq_true rfl) 39 rfl dX11_shift_36 rfl ?_
  refine a_if_eq 45 42 rfl dX11_shift_39 (by decide) (fun _ => ?_) (fun hc => absurd ((by rw [if_neg h2])) hc)
  refine a_aload 1 47 rfl dX11_shift_45 rfl ?_
  refine a_iload_n 4 48 rfl dX11_shift_47 rfl rfl ?_
  refine a_iload 7 50 rfl dX11_shift_48 rfl ?_
  refine a_callVN (as := [.int (nI i9), .int (nI n9)]) (rest := []) (st2 := [.int 1]) (u1 := 0) (v1 := 0) (u2 := 0) (v2 := 0) (r_X9_hasPlaces_t rfl hp hin) (⟨_, _, _, _, rfl, rfl⟩) oX9_hasPlaces q_928 q_930 q_58 rfl (by omega) (by decide) rfl (Nat.le_of_ble_eq_true rfl) 53 rfl dX11_shift_50 rfl ?_
  refine a_if_eq 68 56 rfl dX11_shift_53 (by decide) (fun hc => absurd hc ((by decide))) (fun _ => ?_)
  refine a_aload 0 58 rfl dX11_shift_56 rfl ?_
  refine a_iload 6 60 rfl dX11_shift_58 rfl ?_
  refine a_iload 7 62 rfl dX11_shift_60 rfl ?_
  refine a_callVN (as := [.int (nI j9), .int (nI n9)]) (rest := []) (st2 := [.int 1]) (u1 := 0) (v1 := 0) (u2 := 0) (v2 := 0) (r_X9_hasPlaces_t rfl hp2 hjn) (⟨_, _, _, _, rfl, rfl⟩) oX9_hasPlaces q_928 q_930 q_58 rfl (by omega) (by decide) rfl (Nat.le_of_ble_eq_true rfl) 65 rfl dX11_shift_62 rfl ?_
  refine a_if_ne 71 68 rfl dX11_shift_65 (by decide) (fun _ => ?_) (fun hc => absurd hc ((by decide)))
  refine a_aload 0 73 rfl dX11_shift_71 rfl ?_
  refine a_aload 1 75 rfl dX11_shift_73 rfl ?_
  refine a_iload_n 4 76 rfl dX11_shift_75 rfl rfl ?_
  refine a_iload 6 78 rfl dX11_shift_76 rfl ?_
  refine a_iload 7 80 rfl dX11_shift_78 rfl ?_
  refine a_callVN (as := [.ref (g_ad G 26), .int (nI i9), .int (nI j9), .int (nI n9)]) (rest := []) (st2 := [.int (if f_lead s9 kk n9 i9 = n9 then 1 else 0)]) (u1 := 0) (v1 := 0) (u2 := 0) (v2 := 0) (w) (⟨_, _, _, _, rfl, rfl⟩) oX9_placeAll q_973 q_975 q_65 rfl (by omega) (by decide) rfl (Nat.le_of_ble_eq_true rfl) 83 rfl dX11_shift_80 rfl ?_
  refine a_eq (h2 := g_hp G (f_uR (f_uR C 10 c2) 7 f2) tl) rfl rfl rfl (rfl) ?_
  by_cases e9 : f_lead s9 kk n9 i9 = n9
  · skip
    refine a_if_eq 91 86 rfl dX11_shift_83 (by decide) (fun hc => absurd hc ((by rw [if_pos e9]; decide))) (fun _ => ?_)
    refine a_iload 7 88 rfl dX11_shift_86 rfl ?_
    refine a_goto 93 dX11_shift_88 (by decide) ?_
    exact a_ireturn .int rfl rfl ((by rw [if_pos e9])) (rfl) dX11_shift_93
  · skip
    refine a_if_eq 91 86 rfl dX11_shift_83 (by decide) (fun _ => ?_) (fun hc => absurd ((by rw [if_neg e9])) hc)
    refine a_bipush (x := (-12)) 93 rfl dX11_shift_91 (by decide) ?_
    exact a_ireturn .int rfl rfl ((by rw [if_neg e9])) (rfl) dX11_shift_93

theorem r_X11_shift12_miss (hq : f_qs G C) (ht : C.2.1 4 = 0 ∨ C.2.1 5 = 0) : g_Run G mX11_shift 6 0 0 [.ref (g_ad G 0), .int 1, .int y2, .int 2, .int y4, .int y5] (g_hp G C tl) (some (.int (-11))) (g_hp G C tl) := by
  refine g_Run.of (lv := [(0, .ref (g_ad G 0)), (1, .int 1), (2, .int y2), (3, .int 2), (4, .int y4), (5, .int y5)]) (by decide) (Nat.le_of_ble_eq_true rfl) rfl ?_
  refine a_aload_n 0 1 rfl dX11_shift_0 rfl rfl ?_
  refine a_iload_n 1 2 rfl dX11_shift_1 rfl rfl ?_
  refine a_callV (as := [.int 1]) (rest := []) (st2 := [.ref (g_ad G 26)]) (u1 := 0) (v1 := 0) (u2 := 0) (v2 := 0) (r_shelfAt1 hq) (⟨_, _, _, _, rfl, rfl⟩) oX11_shelfAt q_908 q_910 q_54 rfl (by omega) (by decide) rfl (Nat.le_of_ble_eq_true rfl) 5 rfl dX11_shift_2 rfl ?_
  refine a_astore (lv' := [(6, .ref (g_ad G 26)), (0, .ref (g_ad G 0)), (1, .int 1), (2, .int y2), (3, .int 2), (4, .int y4), (5, .int y5)]) 7 rfl dX11_shift_5 (by decide) rfl ?_
  refine a_aload_n 1 8 rfl dX11_shift_7 rfl rfl ?_
  refine a_iload_n 4 9 rfl dX11_shift_8 rfl rfl ?_
  refine a_callV (as := [.int 2]) (rest := []) (st2 := [.ref (g_ad G 29)]) (u1 := 0) (v1 := 0) (u2 := 0) (v2 := 0) (r_shelfAt2 hq) (⟨_, _, _, _, rfl, rfl⟩) oX11_shelfAt q_908 q_910 q_54 rfl (by omega) (by decide) rfl (Nat.le_of_ble_eq_true rfl) 12 rfl dX11_shift_9 rfl ?_
  refine a_astore (lv' := [(7, .ref (g_ad G 29)), (6, .ref (g_ad G 26)), (0, .ref (g_ad G 0)), (1, .int 1), (2, .int y2), (3, .int 2), (4, .int y4), (5, .int y5)]) 14 rfl dX11_shift_12 (by decide) rfl ?_
  refine a_aload 1 16 rfl dX11_shift_14 rfl ?_
  refine a_ifnull 19 rfl dX11_shift_16 ?_
  refine a_aload 0 21 rfl dX11_shift_19 rfl ?_
  refine a_ifnonnull 26 dX11_shift_21 (by decide) ?_
  refine a_aload 1 28 rfl dX11_shift_26 rfl ?_
  refine a_callVN (as := []) (rest := []) (st2 := [.int (if C.2.1 4 = 0 then 1 else 0)]) (u1 := 0) (v1 := 0) (u2 := 0) (v2 := 0) (r_X9_isMissing rfl) (⟨_, _, _, _, rfl, rfl⟩) oX9_isMissing q_924 q_926 q_57 rfl (by omega) (by decide) rfl (Nat.le_of_ble_eq_true rfl) 31 rfl dX11_shift_28 rfl ?_
  by_cases h1 : C.2.1 4 = 0
  · skip
    refine a_if_ne 42 34 rfl dX11_shift_31 (by decide) (fun _ => ?_) (fun hc => absurd hc ((by rw [if_pos h1]; decide)))
    refine a_bipush (x := (-11)) 44 rfl dX11_shift_42 (by decide) ?_
    exact a_ireturn .int rfl rfl (rfl) (rfl) dX11_shift_44
  · skip
    refine a_if_ne 42 34 rfl dX11_shift_31 (by decide) (fun hc => absurd ((by rw [if_neg h1])) hc) (fun _ => ?_)
    refine a_aload 0 36 rfl dX11_shift_34 rfl ?_
    refine a_callVN (as := []) (rest := []) (st2 := [.int (if C.2.1 5 = 0 then 1 else 0)]) (u1 := 0) (v1 := 0) (u2 := 0) (v2 := 0) (r_X9_isMissing rfl) (⟨_, _, _, _, rfl, rfl⟩) oX9_isMissing q_924 q_926 q_57 rfl (by omega) (by decide) rfl (Nat.le_of_ble_eq_true rfl) 39 rfl dX11_shift_36 rfl ?_
    refine a_if_eq 45 42 rfl dX11_shift_39 (by decide) (fun hc => absurd hc ((by rw [if_pos (ht.resolve_left h1)]; decide))) (fun _ => ?_)
    refine a_bipush (x := (-11)) 44 rfl dX11_shift_42 (by decide) ?_
    exact a_ireturn .int rfl rfl (rfl) (rfl) dX11_shift_44
theorem r_X11_shift12_out1 (hq : f_qs G C) (h1 : ¬ C.2.1 4 = 0) (h2 : ¬ C.2.1 5 = 0) (hp : C.1 13 ≤ 6) (hno : ∀ i9 n9 : Nat, y2 = nI i9 → y5 = nI n9 → ¬ i9 + n9 ≤ C.1 13) : g_Run G mX11_shift 6 0 0 [.ref (g_ad G 0), .int 1, .int y2, .int 2, .int y4, .int y5] (g_hp G C tl) (some (.int (-13))) (g_hp G C tl) := by
  refine g_Run.of (lv := [(0, .ref (g_ad G 0)), (1, .int 1), (2, .int y2), (3, .int 2), (4, .int y4), (5, .int y5)]) (by decide) (Nat.le_of_ble_eq_true rfl) rfl ?_
  refine a_aload_n 0 1 rfl dX11_shift_0 rfl rfl ?_
  refine a_iload_n 1 2 rfl dX11_shift_1 rfl rfl ?_
  refine a_callV (as := [.int 1]) (rest := []) (st2 := [.ref (g_ad G 26)]) (u1 := 0) (v1 := 0) (u2 := 0) (v2 := 0) (r_shelfAt1 hq) (⟨_, _, _, _, rfl, rfl⟩) oX11_shelfAt q_908 q_910 q_54 rfl (by omega) (by decide) rfl (Nat.le_of_ble_eq_true rfl) 5 rfl dX11_shift_2 rfl ?_
  refine a_astore (lv' := [(6, .ref (g_ad G 26)), (0, .ref (g_ad G 0)), (1, .int 1), (2, .int y2), (3, .int 2), (4, .int y4), (5, .int y5)]) 7 rfl dX11_shift_5 (by decide) rfl ?_
  refine a_aload_n 1 8 rfl dX11_shift_7 rfl rfl ?_
  refine a_iload_n 4 9 rfl dX11_shift_8 rfl rfl ?_
  refine a_callV (as := [.int 2]) (rest := []) (st2 := [.ref (g_ad G 29)]) (u1 := 0) (v1 := 0) (u2 := 0) (v2 := 0) (r_shelfAt2 hq) (⟨_, _, _, _, rfl, rfl⟩) oX11_shelfAt q_908 q_910 q_54 rfl (by omega) (by decide) rfl (Nat.le_of_ble_eq_true rfl) 12 rfl dX11_shift_9 rfl ?_
  refine a_astore (lv' := [(7, .ref (g_ad G 29)), (6, .ref (g_ad G 26)), (0, .ref (g_ad G 0)), (1, .int 1), (2, .int y2), (3, .int 2), (4, .int y4), (5, .int y5)]) 14 rfl dX11_shift_12 (by decide) rfl ?_
  refine a_aload 1 16 rfl dX11_shift_14 rfl ?_
  refine a_ifnull 19 rfl dX11_shift_16 ?_
  refine a_aload 0 21 rfl dX11_shift_19 rfl ?_
  refine a_ifnonnull 26 dX11_shift_21 (by decide) ?_
  refine a_aload 1 28 rfl dX11_shift_26 rfl ?_
  refine a_callVN (as := []) (rest := []) (st2 := [.int (if C.2.1 4 = 0 then 1 else 0)]) (u1 := 0) (v1 := 0) (u2 := 0) (v2 := 0) (r_X9_isMissing rfl) (⟨_, _, _, _, rfl, rfl⟩) oX9_isMissing q_924 q_926 q_57 rfl (by omega) (by decide) rfl (Nat.le_of_ble_eq_true rfl) 31 rfl dX11_shift_28 rfl ?_
  refine a_if_ne 42 34 rfl dX11_shift_31 (by decide) (fun hc => absurd ((by rw [if_neg h1])) hc) (fun _ => ?_)
  refine a_aload 0 36 rfl dX11_shift_34 rfl ?_
  refine a_callVN (as := []) (rest := []) (st2 := [.int (if C.2.1 5 = 0 then 1 else 0)]) (u1 := 0) (v1 := 0) (u2 := 0) (v2 := 0) (r_X9_isMissing rfl) (⟨_, _, _, _, rfl, rfl⟩) oX9_isMissing q_924 q_926 q_57 rfl (by omega) (by decide) rfl (Nat.le_of_ble_eq_true rfl) 39 rfl dX11_shift_36 rfl ?_
  refine a_if_eq 45 42 rfl dX11_shift_39 (by decide) (fun _ => ?_) (fun hc => absurd ((by rw [if_neg h2])) hc)
  refine a_aload 1 47 rfl dX11_shift_45 rfl ?_
  refine a_iload_n 4 48 rfl dX11_shift_47 rfl rfl ?_
  refine a_iload 7 50 rfl dX11_shift_48 rfl ?_
  refine a_callVN (as := [.int y2, .int y5]) (rest := []) (st2 := [.int 0]) (u1 := 0) (v1 := 0) (u2 := 0) (v2 := 0) (r_X9_hasPlaces_f rfl hp hno) (⟨_, _, _, _, rfl, rfl⟩) oX9_hasPlaces q_928 q_930 q_58 rfl (by omega) (by decide) rfl (Nat.le_of_ble_eq_true rfl) 53 rfl dX11_shift_50 rfl ?_
  refine a_if_eq 68 56 rfl dX11_shift_53 (by decide) (fun _ => ?_) (fun hc => absurd (rfl) hc)
  refine a_bipush (x := (-13)) 70 rfl dX11_shift_68 (by decide) ?_
  exact a_ireturn .int rfl rfl (rfl) (rfl) dX11_shift_70
theorem r_X11_shift12_out2 {i9 n9 : Nat} (hq : f_qs G C) (h1 : ¬ C.2.1 4 = 0) (h2 : ¬ C.2.1 5 = 0) (hp : C.1 13 ≤ 6) (hp2 : C.1 14 ≤ 6) (hin : i9 + n9 ≤ C.1 13) (hno : ∀ i7 n7 : Nat, y4 = nI i7 → nI n9 = nI n7 → ¬ i7 + n7 ≤ C.1 14) : g_Run G mX11_shift 6 0 0 [.ref (g_ad G 0), .int 1, .int (nI i9), .int 2, .int y4, .int (nI n9)] (g_hp G C tl) (some (.int (-13))) (g_hp G C tl) := by
  refine g_Run.of (lv := [(0, .ref (g_ad G 0)), (1, .int 1), (2, .int (nI i9)), (3, .int 2), (4, .int y4), (5, .int (nI n9))]) (by decide) (Nat.le_of_ble_eq_true rfl) rfl ?_
  refine a_aload_n 0 1 rfl dX11_shift_0 rfl rfl ?_
  refine a_iload_n 1 2 rfl dX11_shift_1 rfl rfl ?_
  refine a_callV (as := [.int 1]) (rest := []) (st2 := [.ref (g_ad G 26)]) (u1 := 0) (v1 := 0) (u2 := 0) (v2 := 0) (r_shelfAt1 hq) (⟨_, _, _, _, rfl, rfl⟩) oX11_shelfAt q_908 q_910 q_54 rfl (by omega) (by decide) rfl (Nat.le_of_ble_eq_true rfl) 5 rfl dX11_shift_2 rfl ?_
  refine a_astore (lv' := [(6, .ref (g_ad G 26)), (0, .ref (g_ad G 0)), (1, .int 1), (2, .int (nI i9)), (3, .int 2), (4, .int y4), (5, .int (nI n9))]) 7 rfl dX11_shift_5 (by decide) rfl ?_
  refine a_aload_n 1 8 rfl dX11_shift_7 rfl rfl ?_
  refine a_iload_n 4 9 rfl dX11_shift_8 rfl rfl ?_
  refine a_callV (as := [.int 2]) (rest := []) (st2 := [.ref (g_ad G 29)]) (u1 := 0) (v1 := 0) (u2 := 0) (v2 := 0) (r_shelfAt2 hq) (⟨_, _, _, _, rfl, rfl⟩) oX11_shelfAt q_908 q_910 q_54 rfl (by omega) (by decide) rfl (Nat.le_of_ble_eq_true rfl) 12 rfl dX11_shift_9 rfl ?_
  refine a_astore (lv' := [(7, .ref (g_ad G 29)), (6, .ref (g_ad G 26)), (0, .ref (g_ad G 0)), (1, .int 1), (2, .int (nI i9)), (3, .int 2), (4, .int y4), (5, .int (nI n9))]) 14 rfl dX11_shift_12 (by decide) rfl ?_
  refine a_aload 1 16 rfl dX11_shift_14 rfl ?_
  refine a_ifnull 19 rfl dX11_shift_16 ?_
  refine a_aload 0 21 rfl dX11_shift_19 rfl ?_
  refine a_ifnonnull 26 dX11_shift_21 (by decide) ?_
  refine a_aload 1 28 rfl dX11_shift_26 rfl ?_
  refine a_callVN (as := []) (rest := []) (st2 := [.int (if C.2.1 4 = 0 then 1 else 0)]) (u1 := 0) (v1 := 0) (u2 := 0) (v2 := 0) (r_X9_isMissing rfl) (⟨_, _, _, _, rfl, rfl⟩) oX9_isMissing q_924 q_926 q_57 rfl (by omega) (by decide) rfl (Nat.le_of_ble_eq_true rfl) 31 rfl dX11_shift_28 rfl ?_
  refine a_if_ne 42 34 rfl dX11_shift_31 (by decide) (fun hc => absurd ((by rw [if_neg h1])) hc) (fun _ => ?_)
  refine a_aload 0 36 rfl dX11_shift_34 rfl ?_
  refine a_callVN (as := []) (rest := []) (st2 := [.int (if C.2.1 5 = 0 then 1 else 0)]) (u1 := 0) (v1 := 0) (u2 := 0) (v2 := 0) (r_X9_isMissing rfl) (⟨_, _, _, _, rfl, rfl⟩) oX9_isMissing q_924 q_926 q_57 rfl (by omega) (by decide) rfl (Nat.le_of_ble_eq_true rfl) 39 rfl dX11_shift_36 rfl ?_
  refine a_if_eq 45 42 rfl dX11_shift_39 (by decide) (fun _ => ?_) (fun hc => absurd ((by rw [if_neg h2])) hc)
  refine a_aload 1 47 rfl dX11_shift_45 rfl ?_
  refine a_iload_n 4 48 rfl dX11_shift_47 rfl rfl ?_
  refine a_iload 7 50 rfl dX11_shift_48 rfl ?_
  refine a_callVN (as := [.int (nI i9), .int (nI n9)]) (rest := []) (st2 := [.int 1]) (u1 := 0) (v1 := 0) (u2 := 0) (v2 := 0) (r_X9_hasPlaces_t rfl hp hin) (⟨_, _, _, _, rfl, rfl⟩) oX9_hasPlaces q_928 q_930 q_58 rfl (by omega) (by decide) rfl (Nat.le_of_ble_eq_true rfl) 53 rfl dX11_shift_50 rfl ?_
  refine a_if_eq 68 56 rfl dX11_shift_53 (by decide) (fun hc => absurd hc ((by decide))) (fun _ => ?_)
  refine a_aload 0 58 rfl dX11_shift_56 rfl ?_
  refine a_iload 6 60 rfl dX11_shift_58 rfl ?_
  refine a_iload 7 62 rfl dX11_shift_60 rfl ?_
  refine a_callVN (as := [.int y4, .int (nI n9)]) (rest := []) (st2 := [.int 0]) (u1 := 0) (v1 := 0) (u2 := 0) (v2 := 0) (r_X9_hasPlaces_f rfl hp2 hno) (⟨_, _, _, _, rfl, rfl⟩) oX9_hasPlaces q_928 q_930 q_58 rfl (by omega) (by decide) rfl (Nat.le_of_ble_eq_true rfl) 65 rfl dX11_shift_62 rfl ?_
  refine a_if_ne 71 68 rfl dX11_shift_65 (by decide) (fun hc => absurd (rfl) hc) (fun _ => ?_)
  refine a_bipush (x := (-13)) 70 rfl dX11_shift_68 (by decide) ?_
  exact a_ireturn .int rfl rfl (rfl) (rfl) dX11_shift_70
theorem r_X11_shift12 {i9 j9 n9 s9 : Nat} {kk : Nat → Option Nat} (hq : f_qs G C) (h1 : ¬ C.2.1 4 = 0) (h2 : ¬ C.2.1 5 = 0) (hp : C.1 13 ≤ 6) (hp2 : C.1 14 ≤ 6) (hin : i9 + n9 ≤ C.1 13) (hjn : j9 + n9 ≤ C.1 14) (hs : C.2.1 8 = nI s9) (hs3 : s9 < 3) (hk : ∀ q7, q7 < C.1 13 → g_at G (g_hp G C tl) (C.2.2.2.2.2 7 q7) (kk q7)) : ∃ c2 f2 : Nat → Option Nat, (∀ q7, f2 q7 = if j9 ≤ q7 ∧ q7 < j9 + f_lead s9 kk n9 i9 then C.2.2.2.2.2 7 (i9 + (q7 - j9)) else C.2.2.2.2.2 8 q7) ∧ g_Run G mX11_shift 6 0 0 [.ref (g_ad G 0), .int 1, .int (nI i9), .int 2, .int (nI j9), .int (nI n9)] (g_hp G C tl) (some (.int (if f_lead s9 kk n9 i9 = n9 then nI n9 else -12))) (g_hp G (f_uR (f_uR C 11 c2) 8 f2) tl) := by
  have hS : (g_hp G C tl)[29]? = some (c_Sh G 30 31 (C.2.1 5) (nI s9) (C.1 14)) := by rw [← hs]; rfl
  obtain ⟨c2, f2, e2, w⟩ := r_X9_placeAll (G := G) (h := g_hp G C tl) (a := 29) (ka := 30) (kc := 31) (b := 26) (kb := 27) (kd := 28) (y5 := C.2.1 4) (y6 := C.2.1 7) (p8 := C.1 13) (f8 := C.2.2.2.2.2 7) (f := C.2.2.2.2.2 8) (c9 := C.2.2.2.2.2 11) (i9 := i9) (j9 := j9) (n9 := n9) hS rfl rfl rfl rfl hs3 hp2 hp hin hjn (by decide) (by decide) (by decide) (by decide) (by decide) hk
  refine ⟨c2, f2, e2, ?_⟩
  refine g_Run.of (lv := [(0, .ref (g_ad G 0)), (1, .int 1), (2, .int (nI i9)), (3, .int 2), (4, .int (nI j9)), (5, .int (nI n9))]) (by decide) (Nat.le_of_ble_eq_true rfl) rfl ?_
  refine a_aload_n 0 1 rfl dX11_shift_0 rfl rfl ?_
  refine a_iload_n 1 2 rfl dX11_shift_1 rfl rfl ?_
  refine a_callV (as := [.int 1]) (rest := []) (st2 := [.ref (g_ad G 26)]) (u1 := 0) (v1 := 0) (u2 := 0) (v2 := 0) (r_shelfAt1 hq) (⟨_, _, _, _, rfl, rfl⟩) oX11_shelfAt q_908 q_910 q_54 rfl (by omega) (by decide) rfl (Nat.le_of_ble_eq_true rfl) 5 rfl dX11_shift_2 rfl ?_
  refine a_astore (lv' := [(6, .ref (g_ad G 26)), (0, .ref (g_ad G 0)), (1, .int 1), (2, .int (nI i9)), (3, .int 2), (4, .int (nI j9)), (5, .int (nI n9))]) 7 rfl dX11_shift_5 (by decide) rfl ?_
  refine a_aload_n 1 8 rfl dX11_shift_7 rfl rfl ?_
  refine a_iload_n 4 9 rfl dX11_shift_8 rfl rfl ?_
  refine a_callV (as := [.int 2]) (rest := []) (st2 := [.ref (g_ad G 29)]) (u1 := 0) (v1 := 0) (u2 := 0) (v2 := 0) (r_shelfAt2 hq) (⟨_, _, _, _, rfl, rfl⟩) oX11_shelfAt q_908 q_910 q_54 rfl (by omega) (by decide) rfl (Nat.le_of_ble_eq_true rfl) 12 rfl dX11_shift_9 rfl ?_
  refine a_astore (lv' := [(7, .ref (g_ad G 29)), (6, .ref (g_ad G 26)), (0, .ref (g_ad G 0)), (1, .int 1), (2, .int (nI i9)), (3, .int 2), (4, .int (nI j9)), (5, .int (nI n9))]) 14 rfl dX11_shift_12 (by decide) rfl ?_
  refine a_aload 1 16 rfl dX11_shift_14 rfl ?_
  refine a_ifnull 19 rfl dX11_shift_16 ?_
  refine a_aload 0 21 rfl dX11_shift_19 rfl ?_
  refine a_ifnonnull 26 dX11_shift_21 (by decide) ?_
  refine a_aload 1 28 rfl dX11_shift_26 rfl ?_
  refine a_callVN (as := []) (rest := []) (st2 := [.int (if C.2.1 4 = 0 then 1 else 0)]) (u1 := 0) (v1 := 0) (u2 := 0) (v2 := 0) (r_X9_isMissing rfl) (⟨_, _, _, _, rfl, rfl⟩) oX9_isMissing q_924 q_926 q_57 rfl (by omega) (by decide) rfl (Nat.le_of_ble_eq_true rfl) 31 rfl dX11_shift_28 rfl ?_
  refine a_if_ne 42 34 rfl dX11_shift_31 (by decide) (fun hc => absurd ((by rw [if_neg h1])) hc) (fun _ => ?_)
  refine a_aload 0 36 rfl dX11_shift_34 rfl ?_
  refine a_callVN (as := []) (rest := []) (st2 := [.int (if C.2.1 5 = 0 then 1 else 0)]) (u1 := 0) (v1 := 0) (u2 := 0) (v2 := 0) (r_X9_isMissing rfl) (⟨_, _, _, _, rfl, rfl⟩) oX9_isMissing q_924 q_926 q_57 rfl (by omega) (by decide) rfl (Nat.le_of_ble_eq_true rfl) 39 rfl dX11_shift_36 rfl ?_
  refine a_if_eq 45 42 rfl dX11_shift_39 (by decide) (fun _ => ?_) (fun hc => absurd ((by rw [if_neg h2])) hc)
  refine a_aload 1 47 rfl dX11_shift_45 rfl ?_
  refine a_iload_n 4 48 rfl dX11_shift_47 rfl rfl ?_
  refine a_iload 7 50 rfl dX11_shift_48 rfl ?_
  refine a_callVN (as := [.int (nI i9), .int (nI n9)]) (rest := []) (st2 := [.int 1]) (u1 := 0) (v1 := 0) (u2 := 0) (v2 := 0) (r_X9_hasPlaces_t rfl hp hin) (⟨_, _, _, _, rfl, rfl⟩) oX9_hasPlaces q_928 q_930 q_58 rfl (by omega) (by decide) rfl (Nat.le_of_ble_eq_true rfl) 53 rfl dX11_shift_50 rfl ?_
  refine a_if_eq 68 56 rfl dX11_shift_53 (by decide) (fun hc => absurd hc ((by decide))) (fun _ => ?_)
  refine a_aload 0 58 rfl dX11_shift_56 rfl ?_
  refine a_iload 6 60 rfl dX11_shift_58 rfl ?_
  refine a_iload 7 62 rfl dX11_shift_60 rfl ?_
  refine a_callVN (as := [.int (nI j9), .int (nI n9)]) (rest := []) (st2 := [.int 1]) (u1 := 0) (v1 := 0) (u2 := 0) (v2 := 0) (r_X9_hasPlaces_t rfl hp2 hjn) (⟨_, _, _, _, rfl, rfl⟩) oX9_hasPlaces q_928 q_930 q_58 rfl (by omega) (by decide) rfl (Nat.le_of_ble_eq_true rfl) 65 rfl dX11_shift_62 rfl ?_
  refine a_if_ne 71 68 rfl dX11_shift_65 (by decide) (fun _ => ?_) (fun hc => absurd hc ((by decide)))
  refine a_aload 0 73 rfl dX11_shift_71 rfl ?_
  refine a_aload 1 75 rfl dX11_shift_73 rfl ?_
  refine a_iload_n 4 76 rfl dX11_shift_75 rfl rfl ?_
  refine a_iload 6 78 rfl dX11_shift_76 rfl ?_
  refine a_iload 7 80 rfl dX11_shift_78 rfl ?_
  refine a_callVN (as := [.ref (g_ad G 26), .int (nI i9), .int (nI j9), .int (nI n9)]) (rest := []) (st2 := [.int (if f_lead s9 kk n9 i9 = n9 then 1 else 0)]) (u1 := 0) (v1 := 0) (u2 := 0) (v2 := 0) (w) (⟨_, _, _, _, rfl, rfl⟩) oX9_placeAll q_973 q_975 q_65 rfl (by omega) (by decide) rfl (Nat.le_of_ble_eq_true rfl) 83 rfl dX11_shift_80 rfl ?_
  refine a_eq (h2 := g_hp G (f_uR (f_uR C 11 c2) 8 f2) tl) rfl rfl rfl (rfl) ?_
  by_cases e9 : f_lead s9 kk n9 i9 = n9
  · skip
    refine a_if_eq 91 86 rfl dX11_shift_83 (by decide) (fun hc => absurd hc ((by rw [if_pos e9]; decide))) (fun _ => ?_)
    refine a_iload 7 88 rfl dX11_shift_86 rfl ?_
    refine a_goto 93 dX11_shift_88 (by decide) ?_
    exact a_ireturn .int rfl rfl ((by rw [if_pos e9])) (rfl) dX11_shift_93
  · skip
    refine a_if_eq 91 86 rfl dX11_shift_83 (by decide) (fun _ => ?_) (fun hc => absurd ((by rw [if_neg e9])) hc)
    refine a_bipush (x := (-12)) 93 rfl dX11_shift_91 (by decide) ?_
    exact a_ireturn .int rfl rfl ((by rw [if_neg e9])) (rfl) dX11_shift_93

theorem r_X11_shift20_miss (hq : f_qs G C) (ht : C.2.1 5 = 0 ∨ C.2.1 3 = 0) : g_Run G mX11_shift 6 0 0 [.ref (g_ad G 0), .int 2, .int y2, .int 0, .int y4, .int y5] (g_hp G C tl) (some (.int (-11))) (g_hp G C tl) := by
  refine g_Run.of (lv := [(0, .ref (g_ad G 0)), (1, .int 2), (2, .int y2), (3, .int 0), (4, .int y4), (5, .int y5)]) (by decide) (Nat.le_of_ble_eq_true rfl) rfl ?_
  refine a_aload_n 0 1 rfl dX11_shift_0 rfl rfl ?_
  refine a_iload_n 1 2 rfl dX11_shift_1 rfl rfl ?_
  refine a_callV (as := [.int 2]) (rest := []) (st2 := [.ref (g_ad G 29)]) (u1 := 0) (v1 := 0) (u2 := 0) (v2 := 0) (r_shelfAt2 hq) (⟨_, _, _, _, rfl, rfl⟩) oX11_shelfAt q_908 q_910 q_54 rfl (by omega) (by decide) rfl (Nat.le_of_ble_eq_true rfl) 5 rfl dX11_shift_2 rfl ?_
  refine a_astore (lv' := [(6, .ref (g_ad G 29)), (0, .ref (g_ad G 0)), (1, .int 2), (2, .int y2), (3, .int 0), (4, .int y4), (5, .int y5)]) 7 rfl dX11_shift_5 (by decide) rfl ?_
  refine a_aload_n 1 8 rfl dX11_shift_7 rfl rfl ?_
  refine a_iload_n 4 9 rfl dX11_shift_8 rfl rfl ?_
  refine a_callV (as := [.int 0]) (rest := []) (st2 := [.ref (g_ad G 23)]) (u1 := 0) (v1 := 0) (u2 := 0) (v2 := 0) (r_shelfAt0 hq) (⟨_, _, _, _, rfl, rfl⟩) oX11_shelfAt q_908 q_910 q_54 rfl (by omega) (by decide) rfl (Nat.le_of_ble_eq_true rfl) 12 rfl dX11_shift_9 rfl ?_
  refine a_astore (lv' := [(7, .ref (g_ad G 23)), (6, .ref (g_ad G 29)), (0, .ref (g_ad G 0)), (1, .int 2), (2, .int y2), (3, .int 0), (4, .int y4), (5, .int y5)]) 14 rfl dX11_shift_12 (by decide) rfl ?_
  refine a_aload 1 16 rfl dX11_shift_14 rfl ?_
  refine a_ifnull 19 rfl dX11_shift_16 ?_
  refine a_aload 0 21 rfl dX11_shift_19 rfl ?_
  refine a_ifnonnull 26 dX11_shift_21 (by decide) ?_
  refine a_aload 1 28 rfl dX11_shift_26 rfl ?_
  refine a_callVN (as := []) (rest := []) (st2 := [.int (if C.2.1 5 = 0 then 1 else 0)]) (u1 := 0) (v1 := 0) (u2 := 0) (v2 := 0) (r_X9_isMissing rfl) (⟨_, _, _, _, rfl, rfl⟩) oX9_isMissing q_924 q_926 q_57 rfl (by omega) (by decide) rfl (Nat.le_of_ble_eq_true rfl) 31 rfl dX11_shift_28 rfl ?_
  by_cases h1 : C.2.1 5 = 0
  · skip
    refine a_if_ne 42 34 rfl dX11_shift_31 (by decide) (fun _ => ?_) (fun hc => absurd hc ((by rw [if_pos h1]; decide)))
    refine a_bipush (x := (-11)) 44 rfl dX11_shift_42 (by decide) ?_
    exact a_ireturn .int rfl rfl (rfl) (rfl) dX11_shift_44
  · skip
    refine a_if_ne 42 34 rfl dX11_shift_31 (by decide) (fun hc => absurd ((by rw [if_neg h1])) hc) (fun _ => ?_)
    refine a_aload 0 36 rfl dX11_shift_34 rfl ?_
    refine a_callVN (as := []) (rest := []) (st2 := [.int (if C.2.1 3 = 0 then 1 else 0)]) (u1 := 0) (v1 := 0) (u2 := 0) (v2 := 0) (r_X9_isMissing rfl) (⟨_, _, _, _, rfl, rfl⟩) oX9_isMissing q_924 q_926 q_57 rfl (by omega) (by decide) rfl (Nat.le_of_ble_eq_true rfl) 39 rfl dX11_shift_36 rfl ?_
    refine a_if_eq 45 42 rfl dX11_shift_39 (by decide) (fun hc => absurd hc ((by rw [if_pos (ht.resolve_left h1)]; decide))) (fun _ => ?_)
    refine a_bipush (x := (-11)) 44 rfl dX11_shift_42 (by decide) ?_
    exact a_ireturn .int rfl rfl (rfl) (rfl) dX11_shift_44
theorem r_X11_shift20_out1 (hq : f_qs G C) (h1 : ¬ C.2.1 5 = 0) (h2 : ¬ C.2.1 3 = 0) (hp : C.1 14 ≤ 6) (hno : ∀ i9 n9 : Nat, y2 = nI i9 → y5 = nI n9 → ¬ i9 + n9 ≤ C.1 14) : g_Run G mX11_shift 6 0 0 [.ref (g_ad G 0), .int 2, .int y2, .int 0, .int y4, .int y5] (g_hp G C tl) (some (.int (-13))) (g_hp G C tl) := by
  refine g_Run.of (lv := [(0, .ref (g_ad G 0)), (1, .int 2), (2, .int y2), (3, .int 0), (4, .int y4), (5, .int y5)]) (by decide) (Nat.le_of_ble_eq_true rfl) rfl ?_
  refine a_aload_n 0 1 rfl dX11_shift_0 rfl rfl ?_
  refine a_iload_n 1 2 rfl dX11_shift_1 rfl rfl ?_
  refine a_callV (as := [.int 2]) (rest := []) (st2 := [.ref (g_ad G 29)]) (u1 := 0) (v1 := 0) (u2 := 0) (v2 := 0) (r_shelfAt2 hq) (⟨_, _, _, _, rfl, rfl⟩) oX11_shelfAt q_908 q_910 q_54 rfl (by omega) (by decide) rfl (Nat.le_of_ble_eq_true rfl) 5 rfl dX11_shift_2 rfl ?_
  refine a_astore (lv' := [(6, .ref (g_ad G 29)), (0, .ref (g_ad G 0)), (1, .int 2), (2, .int y2), (3, .int 0), (4, .int y4), (5, .int y5)]) 7 rfl dX11_shift_5 (by decide) rfl ?_
  refine a_aload_n 1 8 rfl dX11_shift_7 rfl rfl ?_
  refine a_iload_n 4 9 rfl dX11_shift_8 rfl rfl ?_
  refine a_callV (as := [.int 0]) (rest := []) (st2 := [.ref (g_ad G 23)]) (u1 := 0) (v1 := 0) (u2 := 0) (v2 := 0) (r_shelfAt0 hq) (⟨_, _, _, _, rfl, rfl⟩) oX11_shelfAt q_908 q_910 q_54 rfl (by omega) (by decide) rfl (Nat.le_of_ble_eq_true rfl) 12 rfl dX11_shift_9 rfl ?_
  refine a_astore (lv' := [(7, .ref (g_ad G 23)), (6, .ref (g_ad G 29)), (0, .ref (g_ad G 0)), (1, .int 2), (2, .int y2), (3, .int 0), (4, .int y4), (5, .int y5)]) 14 rfl dX11_shift_12 (by decide) rfl ?_
  refine a_aload 1 16 rfl dX11_shift_14 rfl ?_
  refine a_ifnull 19 rfl dX11_shift_16 ?_
  refine a_aload 0 21 rfl dX11_shift_19 rfl ?_
  refine a_ifnonnull 26 dX11_shift_21 (by decide) ?_
  refine a_aload 1 28 rfl dX11_shift_26 rfl ?_
  refine a_callVN (as := []) (rest := []) (st2 := [.int (if C.2.1 5 = 0 then 1 else 0)]) (u1 := 0) (v1 := 0) (u2 := 0) (v2 := 0) (r_X9_isMissing rfl) (⟨_, _, _, _, rfl, rfl⟩) oX9_isMissing q_924 q_926 q_57 rfl (by omega) (by decide) rfl (Nat.le_of_ble_eq_true rfl) 31 rfl dX11_shift_28 rfl ?_
  refine a_if_ne 42 34 rfl dX11_shift_31 (by decide) (fun hc => absurd ((by rw [if_neg h1])) hc) (fun _ => ?_)
  refine a_aload 0 36 rfl dX11_shift_34 rfl ?_
  refine a_callVN (as := []) (rest := []) (st2 := [.int (if C.2.1 3 = 0 then 1 else 0)]) (u1 := 0) (v1 := 0) (u2 := 0) (v2 := 0) (r_X9_isMissing rfl) (⟨_, _, _, _, rfl, rfl⟩) oX9_isMissing q_924 q_926 q_57 rfl (by omega) (by decide) rfl (Nat.le_of_ble_eq_true rfl) 39 rfl dX11_shift_36 rfl ?_
  refine a_if_eq 45 42 rfl dX11_shift_39 (by decide) (fun _ => ?_) (fun hc => absurd ((by rw [if_neg h2])) hc)
  refine a_aload 1 47 rfl dX11_shift_45 rfl ?_
  refine a_iload_n 4 48 rfl dX11_shift_47 rfl rfl ?_
  refine a_iload 7 50 rfl dX11_shift_48 rfl ?_
  refine a_callVN (as := [.int y2, .int y5]) (rest := []) (st2 := [.int 0]) (u1 := 0) (v1 := 0) (u2 := 0) (v2 := 0) (r_X9_hasPlaces_f rfl hp hno) (⟨_, _, _, _, rfl, rfl⟩) oX9_hasPlaces q_928 q_930 q_58 rfl (by omega) (by decide) rfl (Nat.le_of_ble_eq_true rfl) 53 rfl dX11_shift_50 rfl ?_
  refine a_if_eq 68 56 rfl dX11_shift_53 (by decide) (fun _ => ?_) (fun hc => absurd (rfl) hc)
  refine a_bipush (x := (-13)) 70 rfl dX11_shift_68 (by decide) ?_
  exact a_ireturn .int rfl rfl (rfl) (rfl) dX11_shift_70
theorem r_X11_shift20_out2 {i9 n9 : Nat} (hq : f_qs G C) (h1 : ¬ C.2.1 5 = 0) (h2 : ¬ C.2.1 3 = 0) (hp : C.1 14 ≤ 6) (hp2 : C.1 12 ≤ 6) (hin : i9 + n9 ≤ C.1 14) (hno : ∀ i7 n7 : Nat, y4 = nI i7 → nI n9 = nI n7 → ¬ i7 + n7 ≤ C.1 12) : g_Run G mX11_shift 6 0 0 [.ref (g_ad G 0), .int 2, .int (nI i9), .int 0, .int y4, .int (nI n9)] (g_hp G C tl) (some (.int (-13))) (g_hp G C tl) := by
  refine g_Run.of (lv := [(0, .ref (g_ad G 0)), (1, .int 2), (2, .int (nI i9)), (3, .int 0), (4, .int y4), (5, .int (nI n9))]) (by decide) (Nat.le_of_ble_eq_true rfl) rfl ?_
  refine a_aload_n 0 1 rfl dX11_shift_0 rfl rfl ?_
  refine a_iload_n 1 2 rfl dX11_shift_1 rfl rfl ?_
  refine a_callV (as := [.int 2]) (rest := []) (st2 := [.ref (g_ad G 29)]) (u1 := 0) (v1 := 0) (u2 := 0) (v2 := 0) (r_shelfAt2 hq) (⟨_, _, _, _, rfl, rfl⟩) oX11_shelfAt q_908 q_910 q_54 rfl (by omega) (by decide) rfl (Nat.le_of_ble_eq_true rfl) 5 rfl dX11_shift_2 rfl ?_
  refine a_astore (lv' := [(6, .ref (g_ad G 29)), (0, .ref (g_ad G 0)), (1, .int 2), (2, .int (nI i9)), (3, .int 0), (4, .int y4), (5, .int (nI n9))]) 7 rfl dX11_shift_5 (by decide) rfl ?_
  refine a_aload_n 1 8 rfl dX11_shift_7 rfl rfl ?_
  refine a_iload_n 4 9 rfl dX11_shift_8 rfl rfl ?_
  refine a_callV (as := [.int 0]) (rest := []) (st2 := [.ref (g_ad G 23)]) (u1 := 0) (v1 := 0) (u2 := 0) (v2 := 0) (r_shelfAt0 hq) (⟨_, _, _, _, rfl, rfl⟩) oX11_shelfAt q_908 q_910 q_54 rfl (by omega) (by decide) rfl (Nat.le_of_ble_eq_true rfl) 12 rfl dX11_shift_9 rfl ?_
  refine a_astore (lv' := [(7, .ref (g_ad G 23)), (6, .ref (g_ad G 29)), (0, .ref (g_ad G 0)), (1, .int 2), (2, .int (nI i9)), (3, .int 0), (4, .int y4), (5, .int (nI n9))]) 14 rfl dX11_shift_12 (by decide) rfl ?_
  refine a_aload 1 16 rfl dX11_shift_14 rfl ?_
  refine a_ifnull 19 rfl dX11_shift_16 ?_
  refine a_aload 0 21 rfl dX11_shift_19 rfl ?_
  refine a_ifnonnull 26 dX11_shift_21 (by decide) ?_
  refine a_aload 1 28 rfl dX11_shift_26 rfl ?_
  refine a_callVN (as := []) (rest := []) (st2 := [.int (if C.2.1 5 = 0 then 1 else 0)]) (u1 := 0) (v1 := 0) (u2 := 0) (v2 := 0) (r_X9_isMissing rfl) (⟨_, _, _, _, rfl, rfl⟩) oX9_isMissing q_924 q_926 q_57 rfl (by omega) (by decide) rfl (Nat.le_of_ble_eq_true rfl) 31 rfl dX11_shift_28 rfl ?_
  refine a_if_ne 42 34 rfl dX11_shift_31 (by decide) (fun hc => absurd ((by rw [if_neg h1])) hc) (fun _ => ?_)
  refine a_aload 0 36 rfl dX11_shift_34 rfl ?_
  refine a_callVN (as := []) (rest := []) (st2 := [.int (if C.2.1 3 = 0 then 1 else 0)]) (u1 := 0) (v1 := 0) (u2 := 0) (v2 := 0) (r_X9_isMissing rfl) (⟨_, _, _, _, rfl, rfl⟩) oX9_isMissing q_924 q_926 q_57 rfl (by omega) (by decide) rfl (Nat.le_of_ble_eq_true rfl) 39 rfl dX11_shift_36 rfl ?_
  refine a_if_eq 45 42 rfl dX11_shift_39 (by decide) (fun _ => ?_) (fun hc => absurd ((by rw [if_neg h2])) hc)
  refine a_aload 1 47 rfl dX11_shift_45 rfl ?_
  refine a_iload_n 4 48 rfl dX11_shift_47 rfl rfl ?_
  refine a_iload 7 50 rfl dX11_shift_48 rfl ?_
  refine a_callVN (as := [.int (nI i9), .int (nI n9)]) (rest := []) (st2 := [.int 1]) (u1 := 0) (v1 := 0) (u2 := 0) (v2 := 0) (r_X9_hasPlaces_t rfl hp hin) (⟨_, _, _, _, rfl, rfl⟩) oX9_hasPlaces q_928 q_930 q_58 rfl (by omega) (by decide) rfl (Nat.le_of_ble_eq_true rfl) 53 rfl dX11_shift_50 rfl ?_
  refine a_if_eq 68 56 rfl dX11_shift_53 (by decide) (fun hc => absurd hc ((by decide))) (fun _ => ?_)
  refine a_aload 0 58 rfl dX11_shift_56 rfl ?_
  refine a_iload 6 60 rfl dX11_shift_58 rfl ?_
  refine a_iload 7 62 rfl dX11_shift_60 rfl ?_
  refine a_callVN (as := [.int y4, .int (nI n9)]) (rest := []) (st2 := [.int 0]) (u1 := 0) (v1 := 0) (u2 := 0) (v2 := 0) (r_X9_hasPlaces_f rfl hp2 hno) (⟨_, _, _, _, rfl, rfl⟩) oX9_hasPlaces q_928 q_930 q_58 rfl (by omega) (by decide) rfl (Nat.le_of_ble_eq_true rfl) 65 rfl dX11_shift_62 rfl ?_
  refine a_if_ne 71 68 rfl dX11_shift_65 (by decide) (fun hc => absurd (rfl) hc) (fun _ => ?_)
  refine a_bipush (x := (-13)) 70 rfl dX11_shift_68 (by decide) ?_
  exact a_ireturn .int rfl rfl (rfl) (rfl) dX11_shift_70
theorem r_X11_shift20 {i9 j9 n9 s9 : Nat} {kk : Nat → Option Nat} (hq : f_qs G C) (h1 : ¬ C.2.1 5 = 0) (h2 : ¬ C.2.1 3 = 0) (hp : C.1 14 ≤ 6) (hp2 : C.1 12 ≤ 6) (hin : i9 + n9 ≤ C.1 14) (hjn : j9 + n9 ≤ C.1 12) (hs : C.2.1 6 = nI s9) (hs3 : s9 < 3) (hk : ∀ q7, q7 < C.1 14 → g_at G (g_hp G C tl) (C.2.2.2.2.2 8 q7) (kk q7)) : ∃ c2 f2 : Nat → Option Nat, (∀ q7, f2 q7 = if j9 ≤ q7 ∧ q7 < j9 + f_lead s9 kk n9 i9 then C.2.2.2.2.2 8 (i9 + (q7 - j9)) else C.2.2.2.2.2 6 q7) ∧ g_Run G mX11_shift 6 0 0 [.ref (g_ad G 0), .int 2, .int (nI i9), .int 0, .int (nI j9), .int (nI n9)] (g_hp G C tl) (some (.int (if f_lead s9 kk n9 i9 = n9 then nI n9 else -12))) (g_hp G (f_uR (f_uR C 9 c2) 6 f2) tl) := by
  have hS : (g_hp G C tl)[23]? = some (c_Sh G 24 25 (C.2.1 3) (nI s9) (C.1 12)) := by rw [← hs]; rfl
  obtain ⟨c2, f2, e2, w⟩ := r_X9_placeAll (G := G) (h := g_hp G C tl) (a := 23) (ka := 24) (kc := 25) (b := 29) (kb := 30) (kd := 31) (y5 := C.2.1 5) (y6 := C.2.1 8) (p8 := C.1 14) (f8 := C.2.2.2.2.2 8) (f := C.2.2.2.2.2 6) (c9 := C.2.2.2.2.2 9) (i9 := i9) (j9 := j9) (n9 := n9) hS rfl rfl rfl rfl hs3 hp2 hp hin hjn (by decide) (by decide) (by decide) (by decide) (by decide) hk
  refine ⟨c2, f2, e2, ?_⟩
  refine g_Run.of (lv := [(0, .ref (g_ad G 0)), (1, .int 2), (2, .int (nI i9)), (3, .int 0), (4, .int (nI j9)), (5, .int (nI n9))]) (by decide) (Nat.le_of_ble_eq_true rfl) rfl ?_
  refine a_aload_n 0 1 rfl dX11_shift_0 rfl rfl ?_
  refine a_iload_n 1 2 rfl dX11_shift_1 rfl rfl ?_
  refine a_callV (as := [.int 2]) (rest := []) (st2 := [.ref (g_ad G 29)]) (u1 := 0) (v1 := 0) (u2 := 0) (v2 := 0) (r_shelfAt2 hq) (⟨_, _, _, _, rfl, rfl⟩) oX11_shelfAt q_908 q_910 q_54 rfl (by omega) (by decide) rfl (Nat.le_of_ble_eq_true rfl) 5 rfl dX11_shift_2 rfl ?_
  refine a_astore (lv' := [(6, .ref (g_ad G 29)), (0, .ref (g_ad G 0)), (1, .int 2), (2, .int (nI i9)), (3, .int 0), (4, .int (nI j9)), (5, .int (nI n9))]) 7 rfl dX11_shift_5 (by decide) rfl ?_
  refine a_aload_n 1 8 rfl dX11_shift_7 rfl rfl ?_
  refine a_iload_n 4 9 rfl dX11_shift_8 rfl rfl ?_
  refine a_callV (as := [.int 0]) (rest := []) (st2 := [.ref (g_ad G 23)]) (u1 := 0) (v1 := 0) (u2 := 0) (v2 := 0) (r_shelfAt0 hq) (⟨_, _, _, _, rfl, rfl⟩) oX11_shelfAt q_908 q_910 q_54 rfl (by omega) (by decide) rfl (Nat.le_of_ble_eq_true rfl) 12 rfl dX11_shift_9 rfl ?_
  refine a_astore (lv' := [(7, .ref (g_ad G 23)), (6, .ref (g_ad G 29)), (0, .ref (g_ad G 0)), (1, .int 2), (2, .int (nI i9)), (3, .int 0), (4, .int (nI j9)), (5, .int (nI n9))]) 14 rfl dX11_shift_12 (by decide) rfl ?_
  refine a_aload 1 16 rfl dX11_shift_14 rfl ?_
  refine a_ifnull 19 rfl dX11_shift_16 ?_
  refine a_aload 0 21 rfl dX11_shift_19 rfl ?_
  refine a_ifnonnull 26 dX11_shift_21 (by decide) ?_
  refine a_aload 1 28 rfl dX11_shift_26 rfl ?_
  refine a_callVN (as := []) (rest := []) (st2 := [.int (if C.2.1 5 = 0 then 1 else 0)]) (u1 := 0) (v1 := 0) (u2 := 0) (v2 := 0) (r_X9_isMissing rfl) (⟨_, _, _, _, rfl, rfl⟩) oX9_isMissing q_924 q_926 q_57 rfl (by omega) (by decide) rfl (Nat.le_of_ble_eq_true rfl) 31 rfl dX11_shift_28 rfl ?_
  refine a_if_ne 42 34 rfl dX11_shift_31 (by decide) (fun hc => absurd ((by rw [if_neg h1])) hc) (fun _ => ?_)
  refine a_aload 0 36 rfl dX11_shift_34 rfl ?_
  refine a_callVN (as := []) (rest := []) (st2 := [.int (if C.2.1 3 = 0 then 1 else 0)]) (u1 := 0) (v1 := 0) (u2 := 0) (v2 := 0) (r_X9_isMissing rfl) (⟨_, _, _, _, rfl, rfl⟩) oX9_isMissing q_924 q_926 q_57 rfl (by omega) (by decide) rfl (Nat.le_of_ble_eq_true rfl) 39 rfl dX11_shift_36 rfl ?_
  refine a_if_eq 45 42 rfl dX11_shift_39 (by decide) (fun _ => ?_) (fun hc => absurd ((by rw [if_neg h2])) hc)
  refine a_aload 1 47 rfl dX11_shift_45 rfl ?_
  refine a_iload_n 4 48 rfl dX11_shift_47 rfl rfl ?_
  refine a_iload 7 50 rfl dX11_shift_48 rfl ?_
  refine a_callVN (as := [.int (nI i9), .int (nI n9)]) (rest := []) (st2 := [.int 1]) (u1 := 0) (v1 := 0) (u2 := 0) (v2 := 0) (r_X9_hasPlaces_t rfl hp hin) (⟨_, _, _, _, rfl, rfl⟩) oX9_hasPlaces q_928 q_930 q_58 rfl (by omega) (by decide) rfl (Nat.le_of_ble_eq_true rfl) 53 rfl dX11_shift_50 rfl ?_
  refine a_if_eq 68 56 rfl dX11_shift_53 (by decide) (fun hc => absurd hc ((by decide))) (fun _ => ?_)
  refine a_aload 0 58 rfl dX11_shift_56 rfl ?_
  refine a_iload 6 60 rfl dX11_shift_58 rfl ?_
  refine a_iload 7 62 rfl dX11_shift_60 rfl ?_
  refine a_callVN (as := [.int (nI j9), .int (nI n9)]) (rest := []) (st2 := [.int 1]) (u1 := 0) (v1 := 0) (u2 := 0) (v2 := 0) (r_X9_hasPlaces_t rfl hp2 hjn) (⟨_, _, _, _, rfl, rfl⟩) oX9_hasPlaces q_928 q_930 q_58 rfl (by omega) (by decide) rfl (Nat.le_of_ble_eq_true rfl) 65 rfl dX11_shift_62 rfl ?_
  refine a_if_ne 71 68 rfl dX11_shift_65 (by decide) (fun _ => ?_) (fun hc => absurd hc ((by decide)))
  refine a_aload 0 73 rfl dX11_shift_71 rfl ?_
  refine a_aload 1 75 rfl dX11_shift_73 rfl ?_
  refine a_iload_n 4 76 rfl dX11_shift_75 rfl rfl ?_
  refine a_iload 6 78 rfl dX11_shift_76 rfl ?_
  refine a_iload 7 80 rfl dX11_shift_78 rfl ?_
  refine a_callVN (as := [.ref (g_ad G 29), .int (nI i9), .int (nI j9), .int (nI n9)]) (rest := []) (st2 := [.int (if f_lead s9 kk n9 i9 = n9 then 1 else 0)]) (u1 := 0) (v1 := 0) (u2 := 0) (v2 := 0) (w) (⟨_, _, _, _, rfl, rfl⟩) oX9_placeAll q_973 q_975 q_65 rfl (by omega) (by decide) rfl (Nat.le_of_ble_eq_true rfl) 83 rfl dX11_shift_80 rfl ?_
  refine a_eq (h2 := g_hp G (f_uR (f_uR C 9 c2) 6 f2) tl) rfl rfl rfl (rfl) ?_
  by_cases e9 : f_lead s9 kk n9 i9 = n9
  · skip
    refine a_if_eq 91 86 rfl dX11_shift_83 (by decide) (fun hc => absurd hc ((by rw [if_pos e9]; decide))) (fun _ => ?_)
    refine a_iload 7 88 rfl dX11_shift_86 rfl ?_
    refine a_goto 93 dX11_shift_88 (by decide) ?_
    exact a_ireturn .int rfl rfl ((by rw [if_pos e9])) (rfl) dX11_shift_93
  · skip
    refine a_if_eq 91 86 rfl dX11_shift_83 (by decide) (fun _ => ?_) (fun hc => absurd ((by rw [if_neg e9])) hc)
    refine a_bipush (x := (-12)) 93 rfl dX11_shift_91 (by decide) ?_
    exact a_ireturn .int rfl rfl ((by rw [if_neg e9])) (rfl) dX11_shift_93

theorem r_X11_shift21_miss (hq : f_qs G C) (ht : C.2.1 5 = 0 ∨ C.2.1 4 = 0) : g_Run G mX11_shift 6 0 0 [.ref (g_ad G 0), .int 2, .int y2, .int 1, .int y4, .int y5] (g_hp G C tl) (some (.int (-11))) (g_hp G C tl) := by
  refine g_Run.of (lv := [(0, .ref (g_ad G 0)), (1, .int 2), (2, .int y2), (3, .int 1), (4, .int y4), (5, .int y5)]) (by decide) (Nat.le_of_ble_eq_true rfl) rfl ?_
  refine a_aload_n 0 1 rfl dX11_shift_0 rfl rfl ?_
  refine a_iload_n 1 2 rfl dX11_shift_1 rfl rfl ?_
  refine a_callV (as := [.int 2]) (rest := []) (st2 := [.ref (g_ad G 29)]) (u1 := 0) (v1 := 0) (u2 := 0) (v2 := 0) (r_shelfAt2 hq) (⟨_, _, _, _, rfl, rfl⟩) oX11_shelfAt q_908 q_910 q_54 rfl (by omega) (by decide) rfl (Nat.le_of_ble_eq_true rfl) 5 rfl dX11_shift_2 rfl ?_
  refine a_astore (lv' := [(6, .ref (g_ad G 29)), (0, .ref (g_ad G 0)), (1, .int 2), (2, .int y2), (3, .int 1), (4, .int y4), (5, .int y5)]) 7 rfl dX11_shift_5 (by decide) rfl ?_
  refine a_aload_n 1 8 rfl dX11_shift_7 rfl rfl ?_
  refine a_iload_n 4 9 rfl dX11_shift_8 rfl rfl ?_
  refine a_callV (as := [.int 1]) (rest := []) (st2 := [.ref (g_ad G 26)]) (u1 := 0) (v1 := 0) (u2 := 0) (v2 := 0) (r_shelfAt1 hq) (⟨_, _, _, _, rfl, rfl⟩) oX11_shelfAt q_908 q_910 q_54 rfl (by omega) (by decide) rfl (Nat.le_of_ble_eq_true rfl) 12 rfl dX11_shift_9 rfl ?_
  refine a_astore (lv' := [(7, .ref (g_ad G 26)), (6, .ref (g_ad G 29)), (0, .ref (g_ad G 0)), (1, .int 2), (2, .int y2), (3, .int 1), (4, .int y4), (5, .int y5)]) 14 rfl dX11_shift_12 (by decide) rfl ?_
  refine a_aload 1 16 rfl dX11_shift_14 rfl ?_
  refine a_ifnull 19 rfl dX11_shift_16 ?_
  refine a_aload 0 21 rfl dX11_shift_19 rfl ?_
  refine a_ifnonnull 26 dX11_shift_21 (by decide) ?_
  refine a_aload 1 28 rfl dX11_shift_26 rfl ?_
  refine a_callVN (as := []) (rest := []) (st2 := [.int (if C.2.1 5 = 0 then 1 else 0)]) (u1 := 0) (v1 := 0) (u2 := 0) (v2 := 0) (r_X9_isMissing rfl) (⟨_, _, _, _, rfl, rfl⟩) oX9_isMissing q_924 q_926 q_57 rfl (by omega) (by decide) rfl (Nat.le_of_ble_eq_true rfl) 31 rfl dX11_shift_28 rfl ?_
  by_cases h1 : C.2.1 5 = 0
  · skip
    refine a_if_ne 42 34 rfl dX11_shift_31 (by decide) (fun _ => ?_) (fun hc => absurd hc ((by rw [if_pos h1]; decide)))
    refine a_bipush (x := (-11)) 44 rfl dX11_shift_42 (by decide) ?_
    exact a_ireturn .int rfl rfl (rfl) (rfl) dX11_shift_44
  · skip
    refine a_if_ne 42 34 rfl dX11_shift_31 (by decide) (fun hc => absurd ((by rw [if_neg h1])) hc) (fun _ => ?_)
    refine a_aload 0 36 rfl dX11_shift_34 rfl ?_
    refine a_callVN (as := []) (rest := []) (st2 := [.int (if C.2.1 4 = 0 then 1 else 0)]) (u1 := 0) (v1 := 0) (u2 := 0) (v2 := 0) (r_X9_isMissing rfl) (⟨_, _, _, _, rfl, rfl⟩) oX9_isMissing q_924 q_926 q_57 rfl (by omega) (by decide) rfl (Nat.le_of_ble_eq_true rfl) 39 rfl dX11_shift_36 rfl ?_
    refine a_if_eq 45 42 rfl dX11_shift_39 (by decide) (fun hc => absurd hc ((by rw [if_pos (ht.resolve_left h1)]; decide))) (fun _ => ?_)
    refine a_bipush (x := (-11)) 44 rfl dX11_shift_42 (by decide) ?_
    exact a_ireturn .int rfl rfl (rfl) (rfl) dX11_shift_44
theorem r_X11_shift21_out1 (hq : f_qs G C) (h1 : ¬ C.2.1 5 = 0) (h2 : ¬ C.2.1 4 = 0) (hp : C.1 14 ≤ 6) (hno : ∀ i9 n9 : Nat, y2 = nI i9 → y5 = nI n9 → ¬ i9 + n9 ≤ C.1 14) : g_Run G mX11_shift 6 0 0 [.ref (g_ad G 0), .int 2, .int y2, .int 1, .int y4, .int y5] (g_hp G C tl) (some (.int (-13))) (g_hp G C tl) := by
  refine g_Run.of (lv := [(0, .ref (g_ad G 0)), (1, .int 2), (2, .int y2), (3, .int 1), (4, .int y4), (5, .int y5)]) (by decide) (Nat.le_of_ble_eq_true rfl) rfl ?_
  refine a_aload_n 0 1 rfl dX11_shift_0 rfl rfl ?_
  refine a_iload_n 1 2 rfl dX11_shift_1 rfl rfl ?_
  refine a_callV (as := [.int 2]) (rest := []) (st2 := [.ref (g_ad G 29)]) (u1 := 0) (v1 := 0) (u2 := 0) (v2 := 0) (r_shelfAt2 hq) (⟨_, _, _, _, rfl, rfl⟩) oX11_shelfAt q_908 q_910 q_54 rfl (by omega) (by decide) rfl (Nat.le_of_ble_eq_true rfl) 5 rfl dX11_shift_2 rfl ?_
  refine a_astore (lv' := [(6, .ref (g_ad G 29)), (0, .ref (g_ad G 0)), (1, .int 2), (2, .int y2), (3, .int 1), (4, .int y4), (5, .int y5)]) 7 rfl dX11_shift_5 (by decide) rfl ?_
  refine a_aload_n 1 8 rfl dX11_shift_7 rfl rfl ?_
  refine a_iload_n 4 9 rfl dX11_shift_8 rfl rfl ?_
  refine a_callV (as := [.int 1]) (rest := []) (st2 := [.ref (g_ad G 26)]) (u1 := 0) (v1 := 0) (u2 := 0) (v2 := 0) (r_shelfAt1 hq) (⟨_, _, _, _, rfl, rfl⟩) oX11_shelfAt q_908 q_910 q_54 rfl (by omega) (by decide) rfl (Nat.le_of_ble_eq_true rfl) 12 rfl dX11_shift_9 rfl ?_
  refine a_astore (lv' := [(7, .ref (g_ad G 26)), (6, .ref (g_ad G 29)), (0, .ref (g_ad G 0)), (1, .int 2), (2, .int y2), (3, .int 1), (4, .int y4), (5, .int y5)]) 14 rfl dX11_shift_12 (by decide) rfl ?_
  refine a_aload 1 16 rfl dX11_shift_14 rfl ?_
  refine a_ifnull 19 rfl dX11_shift_16 ?_
  refine a_aload 0 21 rfl dX11_shift_19 rfl ?_
  refine a_ifnonnull 26 dX11_shift_21 (by decide) ?_
  refine a_aload 1 28 rfl dX11_shift_26 rfl ?_
  refine a_callVN (as := []) (rest := []) (st2 := [.int (if C.2.1 5 = 0 then 1 else 0)]) (u1 := 0) (v1 := 0) (u2 := 0) (v2 := 0) (r_X9_isMissing rfl) (⟨_, _, _, _, rfl, rfl⟩) oX9_isMissing q_924 q_926 q_57 rfl (by omega) (by decide) rfl (Nat.le_of_ble_eq_true rfl) 31 rfl dX11_shift_28 rfl ?_
  refine a_if_ne 42 34 rfl dX11_shift_31 (by decide) (fun hc => absurd ((by rw [if_neg h1])) hc) (fun _ => ?_)
  refine a_aload 0 36 rfl dX11_shift_34 rfl ?_
  refine a_callVN (as := []) (rest := []) (st2 := [.int (if C.2.1 4 = 0 then 1 else 0)]) (u1 := 0) (v1 := 0) (u2 := 0) (v2 := 0) (r_X9_isMissing rfl) (⟨_, _, _, _, rfl, rfl⟩) oX9_isMissing q_924 q_926 q_57 rfl (by omega) (by decide) rfl (Nat.le_of_ble_eq_true rfl) 39 rfl dX11_shift_36 rfl ?_
  refine a_if_eq 45 42 rfl dX11_shift_39 (by decide) (fun _ => ?_) (fun hc => absurd ((by rw [if_neg h2])) hc)
  refine a_aload 1 47 rfl dX11_shift_45 rfl ?_
  refine a_iload_n 4 48 rfl dX11_shift_47 rfl rfl ?_
  refine a_iload 7 50 rfl dX11_shift_48 rfl ?_
  refine a_callVN (as := [.int y2, .int y5]) (rest := []) (st2 := [.int 0]) (u1 := 0) (v1 := 0) (u2 := 0) (v2 := 0) (r_X9_hasPlaces_f rfl hp hno) (⟨_, _, _, _, rfl, rfl⟩) oX9_hasPlaces q_928 q_930 q_58 rfl (by omega) (by decide) rfl (Nat.le_of_ble_eq_true rfl) 53 rfl dX11_shift_50 rfl ?_
  refine a_if_eq 68 56 rfl dX11_shift_53 (by decide) (fun _ => ?_) (fun hc => absurd (rfl) hc)
  refine a_bipush (x := (-13)) 70 rfl dX11_shift_68 (by decide) ?_
  exact a_ireturn .int rfl rfl (rfl) (rfl) dX11_shift_70
theorem r_X11_shift21_out2 {i9 n9 : Nat} (hq : f_qs G C) (h1 : ¬ C.2.1 5 = 0) (h2 : ¬ C.2.1 4 = 0) (hp : C.1 14 ≤ 6) (hp2 : C.1 13 ≤ 6) (hin : i9 + n9 ≤ C.1 14) (hno : ∀ i7 n7 : Nat, y4 = nI i7 → nI n9 = nI n7 → ¬ i7 + n7 ≤ C.1 13) : g_Run G mX11_shift 6 0 0 [.ref (g_ad G 0), .int 2, .int (nI i9), .int 1, .int y4, .int (nI n9)] (g_hp G C tl) (some (.int (-13))) (g_hp G C tl) := by
  refine g_Run.of (lv := [(0, .ref (g_ad G 0)), (1, .int 2), (2, .int (nI i9)), (3, .int 1), (4, .int y4), (5, .int (nI n9))]) (by decide) (Nat.le_of_ble_eq_true rfl) rfl ?_
  refine a_aload_n 0 1 rfl dX11_shift_0 rfl rfl ?_
  refine a_iload_n 1 2 rfl dX11_shift_1 rfl rfl ?_
  refine a_callV (as := [.int 2]) (rest := []) (st2 := [.ref (g_ad G 29)]) (u1 := 0) (v1 := 0) (u2 := 0) (v2 := 0) (r_shelfAt2 hq) (⟨_, _, _, _, rfl, rfl⟩) oX11_shelfAt q_908 q_910 q_54 rfl (by omega) (by decide) rfl (Nat.le_of_ble_eq_true rfl) 5 rfl dX11_shift_2 rfl ?_
  refine a_astore (lv' := [(6, .ref (g_ad G 29)), (0, .ref (g_ad G 0)), (1, .int 2), (2, .int (nI i9)), (3, .int 1), (4, .int y4), (5, .int (nI n9))]) 7 rfl dX11_shift_5 (by decide) rfl ?_
  refine a_aload_n 1 8 rfl dX11_shift_7 rfl rfl ?_
  refine a_iload_n 4 9 rfl dX11_shift_8 rfl rfl ?_
  refine a_callV (as := [.int 1]) (rest := []) (st2 := [.ref (g_ad G 26)]) (u1 := 0) (v1 := 0) (u2 := 0) (v2 := 0) (r_shelfAt1 hq) (⟨_, _, _, _, rfl, rfl⟩) oX11_shelfAt q_908 q_910 q_54 rfl (by omega) (by decide) rfl (Nat.le_of_ble_eq_true rfl) 12 rfl dX11_shift_9 rfl ?_
  refine a_astore (lv' := [(7, .ref (g_ad G 26)), (6, .ref (g_ad G 29)), (0, .ref (g_ad G 0)), (1, .int 2), (2, .int (nI i9)), (3, .int 1), (4, .int y4), (5, .int (nI n9))]) 14 rfl dX11_shift_12 (by decide) rfl ?_
  refine a_aload 1 16 rfl dX11_shift_14 rfl ?_
  refine a_ifnull 19 rfl dX11_shift_16 ?_
  refine a_aload 0 21 rfl dX11_shift_19 rfl ?_
  refine a_ifnonnull 26 dX11_shift_21 (by decide) ?_
  refine a_aload 1 28 rfl dX11_shift_26 rfl ?_
  refine a_callVN (as := []) (rest := []) (st2 := [.int (if C.2.1 5 = 0 then 1 else 0)]) (u1 := 0) (v1 := 0) (u2 := 0) (v2 := 0) (r_X9_isMissing rfl) (⟨_, _, _, _, rfl, rfl⟩) oX9_isMissing q_924 q_926 q_57 rfl (by omega) (by decide) rfl (Nat.le_of_ble_eq_true rfl) 31 rfl dX11_shift_28 rfl ?_
  refine a_if_ne 42 34 rfl dX11_shift_31 (by decide) (fun hc => absurd ((by rw [if_neg h1])) hc) (fun _ => ?_)
  refine a_aload 0 36 rfl dX11_shift_34 rfl ?_
  refine a_callVN (as := []) (rest := []) (st2 := [.int (if C.2.1 4 = 0 then 1 else 0)]) (u1 := 0) (v1 := 0) (u2 := 0) (v2 := 0) (r_X9_isMissing rfl) (⟨_, _, _, _, rfl, rfl⟩) oX9_isMissing q_924 q_926 q_57 rfl (by omega) (by decide) rfl (Nat.le_of_ble_eq_true rfl) 39 rfl dX11_shift_36 rfl ?_
  refine a_if_eq 45 42 rfl dX11_shift_39 (by decide) (fun _ => ?_) (fun hc => absurd ((by rw [if_neg h2])) hc)
  refine a_aload 1 47 rfl dX11_shift_45 rfl ?_
  refine a_iload_n 4 48 rfl dX11_shift_47 rfl rfl ?_
  refine a_iload 7 50 rfl dX11_shift_48 rfl ?_
  refine a_callVN (as := [.int (nI i9), .int (nI n9)]) (rest := []) (st2 := [.int 1]) (u1 := 0) (v1 := 0) (u2 := 0) (v2 := 0) (r_X9_hasPlaces_t rfl hp hin) (⟨_, _, _, _, rfl, rfl⟩) oX9_hasPlaces q_928 q_930 q_58 rfl (by omega) (by decide) rfl (Nat.le_of_ble_eq_true rfl) 53 rfl dX11_shift_50 rfl ?_
  refine a_if_eq 68 56 rfl dX11_shift_53 (by decide) (fun hc => absurd hc ((by decide))) (fun _ => ?_)
  refine a_aload 0 58 rfl dX11_shift_56 rfl ?_
  refine a_iload 6 60 rfl dX11_shift_58 rfl ?_
  refine a_iload 7 62 rfl dX11_shift_60 rfl ?_
  refine a_callVN (as := [.int y4, .int (nI n9)]) (rest := []) (st2 := [.int 0]) (u1 := 0) (v1 := 0) (u2 := 0) (v2 := 0) (r_X9_hasPlaces_f rfl hp2 hno) (⟨_, _, _, _, rfl, rfl⟩) oX9_hasPlaces q_928 q_930 q_58 rfl (by omega) (by decide) rfl (Nat.le_of_ble_eq_true rfl) 65 rfl dX11_shift_62 rfl ?_
  refine a_if_ne 71 68 rfl dX11_shift_65 (by decide) (fun hc => absurd (rfl) hc) (fun _ => ?_)
  refine a_bipush (x := (-13)) 70 rfl dX11_shift_68 (by decide) ?_
  exact a_ireturn .int rfl rfl (rfl) (rfl) dX11_shift_70
theorem r_X11_shift21 {i9 j9 n9 s9 : Nat} {kk : Nat → Option Nat} (hq : f_qs G C) (h1 : ¬ C.2.1 5 = 0) (h2 : ¬ C.2.1 4 = 0) (hp : C.1 14 ≤ 6) (hp2 : C.1 13 ≤ 6) (hin : i9 + n9 ≤ C.1 14) (hjn : j9 + n9 ≤ C.1 13) (hs : C.2.1 7 = nI s9) (hs3 : s9 < 3) (hk : ∀ q7, q7 < C.1 14 → g_at G (g_hp G C tl) (C.2.2.2.2.2 8 q7) (kk q7)) : ∃ c2 f2 : Nat → Option Nat, (∀ q7, f2 q7 = if j9 ≤ q7 ∧ q7 < j9 + f_lead s9 kk n9 i9 then C.2.2.2.2.2 8 (i9 + (q7 - j9)) else C.2.2.2.2.2 7 q7) ∧ g_Run G mX11_shift 6 0 0 [.ref (g_ad G 0), .int 2, .int (nI i9), .int 1, .int (nI j9), .int (nI n9)] (g_hp G C tl) (some (.int (if f_lead s9 kk n9 i9 = n9 then nI n9 else -12))) (g_hp G (f_uR (f_uR C 10 c2) 7 f2) tl) := by
  have hS : (g_hp G C tl)[26]? = some (c_Sh G 27 28 (C.2.1 4) (nI s9) (C.1 13)) := by rw [← hs]; rfl
  obtain ⟨c2, f2, e2, w⟩ := r_X9_placeAll (G := G) (h := g_hp G C tl) (a := 26) (ka := 27) (kc := 28) (b := 29) (kb := 30) (kd := 31) (y5 := C.2.1 5) (y6 := C.2.1 8) (p8 := C.1 14) (f8 := C.2.2.2.2.2 8) (f := C.2.2.2.2.2 7) (c9 := C.2.2.2.2.2 10) (i9 := i9) (j9 := j9) (n9 := n9) hS rfl rfl rfl rfl hs3 hp2 hp hin hjn (by decide) (by decide) (by decide) (by decide) (by decide) hk
  refine ⟨c2, f2, e2, ?_⟩
  refine g_Run.of (lv := [(0, .ref (g_ad G 0)), (1, .int 2), (2, .int (nI i9)), (3, .int 1), (4, .int (nI j9)), (5, .int (nI n9))]) (by decide) (Nat.le_of_ble_eq_true rfl) rfl ?_
  refine a_aload_n 0 1 rfl dX11_shift_0 rfl rfl ?_
  refine a_iload_n 1 2 rfl dX11_shift_1 rfl rfl ?_
  refine a_callV (as := [.int 2]) (rest := []) (st2 := [.ref (g_ad G 29)]) (u1 := 0) (v1 := 0) (u2 := 0) (v2 := 0) (r_shelfAt2 hq) (⟨_, _, _, _, rfl, rfl⟩) oX11_shelfAt q_908 q_910 q_54 rfl (by omega) (by decide) rfl (Nat.le_of_ble_eq_true rfl) 5 rfl dX11_shift_2 rfl ?_
  refine a_astore (lv' := [(6, .ref (g_ad G 29)), (0, .ref (g_ad G 0)), (1, .int 2), (2, .int (nI i9)), (3, .int 1), (4, .int (nI j9)), (5, .int (nI n9))]) 7 rfl dX11_shift_5 (by decide) rfl ?_
  refine a_aload_n 1 8 rfl dX11_shift_7 rfl rfl ?_
  refine a_iload_n 4 9 rfl dX11_shift_8 rfl rfl ?_
  refine a_callV (as := [.int 1]) (rest := []) (st2 := [.ref (g_ad G 26)]) (u1 := 0) (v1 := 0) (u2 := 0) (v2 := 0) (r_shelfAt1 hq) (⟨_, _, _, _, rfl, rfl⟩) oX11_shelfAt q_908 q_910 q_54 rfl (by omega) (by decide) rfl (Nat.le_of_ble_eq_true rfl) 12 rfl dX11_shift_9 rfl ?_
  refine a_astore (lv' := [(7, .ref (g_ad G 26)), (6, .ref (g_ad G 29)), (0, .ref (g_ad G 0)), (1, .int 2), (2, .int (nI i9)), (3, .int 1), (4, .int (nI j9)), (5, .int (nI n9))]) 14 rfl dX11_shift_12 (by decide) rfl ?_
  refine a_aload 1 16 rfl dX11_shift_14 rfl ?_
  refine a_ifnull 19 rfl dX11_shift_16 ?_
  refine a_aload 0 21 rfl dX11_shift_19 rfl ?_
  refine a_ifnonnull 26 dX11_shift_21 (by decide) ?_
  refine a_aload 1 28 rfl dX11_shift_26 rfl ?_
  refine a_callVN (as := []) (rest := []) (st2 := [.int (if C.2.1 5 = 0 then 1 else 0)]) (u1 := 0) (v1 := 0) (u2 := 0) (v2 := 0) (r_X9_isMissing rfl) (⟨_, _, _, _, rfl, rfl⟩) oX9_isMissing q_924 q_926 q_57 rfl (by omega) (by decide) rfl (Nat.le_of_ble_eq_true rfl) 31 rfl dX11_shift_28 rfl ?_
  refine a_if_ne 42 34 rfl dX11_shift_31 (by decide) (fun hc => absurd ((by rw [if_neg h1])) hc) (fun _ => ?_)
  refine a_aload 0 36 rfl dX11_shift_34 rfl ?_
  refine a_callVN (as := []) (rest := []) (st2 := [.int (if C.2.1 4 = 0 then 1 else 0)]) (u1 := 0) (v1 := 0) (u2 := 0) (v2 := 0) (r_X9_isMissing rfl) (⟨_, _, _, _, rfl, rfl⟩) oX9_isMissing q_924 q_926 q_57 rfl (by omega) (by decide) rfl (Nat.le_of_ble_eq_true rfl) 39 rfl dX11_shift_36 rfl ?_
  refine a_if_eq 45 42 rfl dX11_shift_39 (by decide) (fun _ => ?_) (fun hc => absurd ((by rw [if_neg h2])) hc)
  refine a_aload 1 47 rfl dX11_shift_45 rfl ?_
  refine a_iload_n 4 48 rfl dX11_shift_47 rfl rfl ?_
  refine a_iload 7 50 rfl dX11_shift_48 rfl ?_
  refine a_callVN (as := [.int (nI i9), .int (nI n9)]) (rest := []) (st2 := [.int 1]) (u1 := 0) (v1 := 0) (u2 := 0) (v2 := 0) (r_X9_hasPlaces_t rfl hp hin) (⟨_, _, _, _, rfl, rfl⟩) oX9_hasPlaces q_928 q_930 q_58 rfl (by omega) (by decide) rfl (Nat.le_of_ble_eq_true rfl) 53 rfl dX11_shift_50 rfl ?_
  refine a_if_eq 68 56 rfl dX11_shift_53 (by decide) (fun hc => absurd hc ((by decide))) (fun _ => ?_)
  refine a_aload 0 58 rfl dX11_shift_56 rfl ?_
  refine a_iload 6 60 rfl dX11_shift_58 rfl ?_
  refine a_iload 7 62 rfl dX11_shift_60 rfl ?_
  refine a_callVN (as := [.int (nI j9), .int (nI n9)]) (rest := []) (st2 := [.int 1]) (u1 := 0) (v1 := 0) (u2 := 0) (v2 := 0) (r_X9_hasPlaces_t rfl hp2 hjn) (⟨_, _, _, _, rfl, rfl⟩) oX9_hasPlaces q_928 q_930 q_58 rfl (by omega) (by decide) rfl (Nat.le_of_ble_eq_true rfl) 65 rfl dX11_shift_62 rfl ?_
  refine a_if_ne 71 68 rfl dX11_shift_65 (by decide) (fun _ => ?_) (fun hc => absurd hc ((by decide)))
  refine a_aload 0 73 rfl dX11_shift_71 rfl ?_
  refine a_aload 1 75 rfl dX11_shift_73 rfl ?_
  refine a_iload_n 4 76 rfl dX11_shift_75 rfl rfl ?_
  refine a_iload 6 78 rfl dX11_shift_76 rfl ?_
  refine a_iload 7 80 rfl dX11_shift_78 rfl ?_
  refine a_callVN (as := [.ref (g_ad G 29), .int (nI i9), .int (nI j9), .int (nI n9)]) (rest := []) (st2 := [.int (if f_lead s9 kk n9 i9 = n9 then 1 else 0)]) (u1 := 0) (v1 := 0) (u2 := 0) (v2 := 0) (w) (⟨_, _, _, _, rfl, rfl⟩) oX9_placeAll q_973 q_975 q_65 rfl (by omega) (by decide) rfl (Nat.le_of_ble_eq_true rfl) 83 rfl dX11_shift_80 rfl ?_
  refine a_eq (h2 := g_hp G (f_uR (f_uR C 10 c2) 7 f2) tl) rfl rfl rfl (rfl) ?_
  by_cases e9 : f_lead s9 kk n9 i9 = n9
  · skip
    refine a_if_eq 91 86 rfl dX11_shift_83 (by decide) (fun hc => absurd hc ((by rw [if_pos e9]; decide))) (fun _ => ?_)
    refine a_iload 7 88 rfl dX11_shift_86 rfl ?_
    refine a_goto 93 dX11_shift_88 (by decide) ?_
    exact a_ireturn .int rfl rfl ((by rw [if_pos e9])) (rfl) dX11_shift_93
  · skip
    refine a_if_eq 91 86 rfl dX11_shift_83 (by decide) (fun _ => ?_) (fun hc => absurd ((by rw [if_neg e9])) hc)
    refine a_bipush (x := (-12)) 93 rfl dX11_shift_91 (by decide) ?_
    exact a_ireturn .int rfl rfl ((by rw [if_neg e9])) (rfl) dX11_shift_93

theorem r_X11_shift22_miss (hq : f_qs G C) (ht : C.2.1 5 = 0 ∨ C.2.1 5 = 0) : g_Run G mX11_shift 6 0 0 [.ref (g_ad G 0), .int 2, .int y2, .int 2, .int y4, .int y5] (g_hp G C tl) (some (.int (-11))) (g_hp G C tl) := by
  refine g_Run.of (lv := [(0, .ref (g_ad G 0)), (1, .int 2), (2, .int y2), (3, .int 2), (4, .int y4), (5, .int y5)]) (by decide) (Nat.le_of_ble_eq_true rfl) rfl ?_
  refine a_aload_n 0 1 rfl dX11_shift_0 rfl rfl ?_
  refine a_iload_n 1 2 rfl dX11_shift_1 rfl rfl ?_
  refine a_callV (as := [.int 2]) (rest := []) (st2 := [.ref (g_ad G 29)]) (u1 := 0) (v1 := 0) (u2 := 0) (v2 := 0) (r_shelfAt2 hq) (⟨_, _, _, _, rfl, rfl⟩) oX11_shelfAt q_908 q_910 q_54 rfl (by omega) (by decide) rfl (Nat.le_of_ble_eq_true rfl) 5 rfl dX11_shift_2 rfl ?_
  refine a_astore (lv' := [(6, .ref (g_ad G 29)), (0, .ref (g_ad G 0)), (1, .int 2), (2, .int y2), (3, .int 2), (4, .int y4), (5, .int y5)]) 7 rfl dX11_shift_5 (by decide) rfl ?_
  refine a_aload_n 1 8 rfl dX11_shift_7 rfl rfl ?_
  refine a_iload_n 4 9 rfl dX11_shift_8 rfl rfl ?_
  refine a_callV (as := [.int 2]) (rest := []) (st2 := [.ref (g_ad G 29)]) (u1 := 0) (v1 := 0) (u2 := 0) (v2 := 0) (r_shelfAt2 hq) (⟨_, _, _, _, rfl, rfl⟩) oX11_shelfAt q_908 q_910 q_54 rfl (by omega) (by decide) rfl (Nat.le_of_ble_eq_true rfl) 12 rfl dX11_shift_9 rfl ?_
  refine a_astore (lv' := [(7, .ref (g_ad G 29)), (6, .ref (g_ad G 29)), (0, .ref (g_ad G 0)), (1, .int 2), (2, .int y2), (3, .int 2), (4, .int y4), (5, .int y5)]) 14 rfl dX11_shift_12 (by decide) rfl ?_
  refine a_aload 1 16 rfl dX11_shift_14 rfl ?_
  refine a_ifnull 19 rfl dX11_shift_16 ?_
  refine a_aload 0 21 rfl dX11_shift_19 rfl ?_
  refine a_ifnonnull 26 dX11_shift_21 (by decide) ?_
  refine a_aload 1 28 rfl dX11_shift_26 rfl ?_
  refine a_callVN (as := []) (rest := []) (st2 := [.int (if C.2.1 5 = 0 then 1 else 0)]) (u1 := 0) (v1 := 0) (u2 := 0) (v2 := 0) (r_X9_isMissing rfl) (⟨_, _, _, _, rfl, rfl⟩) oX9_isMissing q_924 q_926 q_57 rfl (by omega) (by decide) rfl (Nat.le_of_ble_eq_true rfl) 31 rfl dX11_shift_28 rfl ?_
  by_cases h1 : C.2.1 5 = 0
  · skip
    refine a_if_ne 42 34 rfl dX11_shift_31 (by decide) (fun _ => ?_) (fun hc => absurd hc ((by rw [if_pos h1]; decide)))
    refine a_bipush (x := (-11)) 44 rfl dX11_shift_42 (by decide) ?_
    exact a_ireturn .int rfl rfl (rfl) (rfl) dX11_shift_44
  · skip
    refine a_if_ne 42 34 rfl dX11_shift_31 (by decide) (fun hc => absurd ((by rw [if_neg h1])) hc) (fun _ => ?_)
    refine a_aload 0 36 rfl dX11_shift_34 rfl ?_
    refine a_callVN (as := []) (rest := []) (st2 := [.int (if C.2.1 5 = 0 then 1 else 0)]) (u1 := 0) (v1 := 0) (u2 := 0) (v2 := 0) (r_X9_isMissing rfl) (⟨_, _, _, _, rfl, rfl⟩) oX9_isMissing q_924 q_926 q_57 rfl (by omega) (by decide) rfl (Nat.le_of_ble_eq_true rfl) 39 rfl dX11_shift_36 rfl ?_
    refine a_if_eq 45 42 rfl dX11_shift_39 (by decide) (fun hc => absurd hc ((by rw [if_pos (ht.resolve_left h1)]; decide))) (fun _ => ?_)
    refine a_bipush (x := (-11)) 44 rfl dX11_shift_42 (by decide) ?_
    exact a_ireturn .int rfl rfl (rfl) (rfl) dX11_shift_44
theorem r_X11_shift22_out1 (hq : f_qs G C) (h1 : ¬ C.2.1 5 = 0) (h2 : ¬ C.2.1 5 = 0) (hp : C.1 14 ≤ 6) (hno : ∀ i9 n9 : Nat, y2 = nI i9 → y5 = nI n9 → ¬ i9 + n9 ≤ C.1 14) : g_Run G mX11_shift 6 0 0 [.ref (g_ad G 0), .int 2, .int y2, .int 2, .int y4, .int y5] (g_hp G C tl) (some (.int (-13))) (g_hp G C tl) := by
  refine g_Run.of (lv := [(0, .ref (g_ad G 0)), (1, .int 2), (2, .int y2), (3, .int 2), (4, .int y4), (5, .int y5)]) (by decide) (Nat.le_of_ble_eq_true rfl) rfl ?_
  refine a_aload_n 0 1 rfl dX11_shift_0 rfl rfl ?_
  refine a_iload_n 1 2 rfl dX11_shift_1 rfl rfl ?_
  refine a_callV (as := [.int 2]) (rest := []) (st2 := [.ref (g_ad G 29)]) (u1 := 0) (v1 := 0) (u2 := 0) (v2 := 0) (r_shelfAt2 hq) (⟨_, _, _, _, rfl, rfl⟩) oX11_shelfAt q_908 q_910 q_54 rfl (by omega) (by decide) rfl (Nat.le_of_ble_eq_true rfl) 5 rfl dX11_shift_2 rfl ?_
  refine a_astore (lv' := [(6, .ref (g_ad G 29)), (0, .ref (g_ad G 0)), (1, .int 2), (2, .int y2), (3, .int 2), (4, .int y4), (5, .int y5)]) 7 rfl dX11_shift_5 (by decide) rfl ?_
  refine a_aload_n 1 8 rfl dX11_shift_7 rfl rfl ?_
  refine a_iload_n 4 9 rfl dX11_shift_8 rfl rfl ?_
  refine a_callV (as := [.int 2]) (rest := []) (st2 := [.ref (g_ad G 29)]) (u1 := 0) (v1 := 0) (u2 := 0) (v2 := 0) (r_shelfAt2 hq) (⟨_, _, _, _, rfl, rfl⟩) oX11_shelfAt q_908 q_910 q_54 rfl (by omega) (by decide) rfl (Nat.le_of_ble_eq_true rfl) 12 rfl dX11_shift_9 rfl ?_
  refine a_astore (lv' := [(7, .ref (g_ad G 29)), (6, .ref (g_ad G 29)), (0, .ref (g_ad G 0)), (1, .int 2), (2, .int y2), (3, .int 2), (4, .int y4), (5, .int y5)]) 14 rfl dX11_shift_12 (by decide) rfl ?_
  refine a_aload 1 16 rfl dX11_shift_14 rfl ?_
  refine a_ifnull 19 rfl dX11_shift_16 ?_
  refine a_aload 0 21 rfl dX11_shift_19 rfl ?_
  refine a_ifnonnull 26 dX11_shift_21 (by decide) ?_
  refine a_aload 1 28 rfl dX11_shift_26 rfl ?_
  refine a_callVN (as := []) (rest := []) (st2 := [.int (if C.2.1 5 = 0 then 1 else 0)]) (u1 := 0) (v1 := 0) (u2 := 0) (v2 := 0) (r_X9_isMissing rfl) (⟨_, _, _, _, rfl, rfl⟩) oX9_isMissing q_924 q_926 q_57 rfl (by omega) (by decide) rfl (Nat.le_of_ble_eq_true rfl) 31 rfl dX11_shift_28 rfl ?_
  refine a_if_ne 42 34 rfl dX11_shift_31 (by decide) (fun hc => absurd ((by rw [if_neg h1])) hc) (fun _ => ?_)
  refine a_aload 0 36 rfl dX11_shift_34 rfl ?_
  refine a_callVN (as := []) (rest := []) (st2 := [.int (if C.2.1 5 = 0 then 1 else 0)]) (u1 := 0) (v1 := 0) (u2 := 0) (v2 := 0) (r_X9_isMissing rfl) (⟨_, _, _, _, rfl, rfl⟩) oX9_isMissing q_924 q_926 q_57 rfl (by omega) (by decide) rfl (Nat.le_of_ble_eq_true rfl) 39 rfl dX11_shift_36 rfl ?_
  refine a_if_eq 45 42 rfl dX11_shift_39 (by decide) (fun _ => ?_) (fun hc => absurd ((by rw [if_neg h2])) hc)
  refine a_aload 1 47 rfl dX11_shift_45 rfl ?_
  refine a_iload_n 4 48 rfl dX11_shift_47 rfl rfl ?_
  refine a_iload 7 50 rfl dX11_shift_48 rfl ?_
  refine a_callVN (as := [.int y2, .int y5]) (rest := []) (st2 := [.int 0]) (u1 := 0) (v1 := 0) (u2 := 0) (v2 := 0) (r_X9_hasPlaces_f rfl hp hno) (⟨_, _, _, _, rfl, rfl⟩) oX9_hasPlaces q_928 q_930 q_58 rfl (by omega) (by decide) rfl (Nat.le_of_ble_eq_true rfl) 53 rfl dX11_shift_50 rfl ?_
  refine a_if_eq 68 56 rfl dX11_shift_53 (by decide) (fun _ => ?_) (fun hc => absurd (rfl) hc)
  refine a_bipush (x := (-13)) 70 rfl dX11_shift_68 (by decide) ?_
  exact a_ireturn .int rfl rfl (rfl) (rfl) dX11_shift_70
theorem r_X11_shift22_out2 {i9 n9 : Nat} (hq : f_qs G C) (h1 : ¬ C.2.1 5 = 0) (h2 : ¬ C.2.1 5 = 0) (hp : C.1 14 ≤ 6) (hp2 : C.1 14 ≤ 6) (hin : i9 + n9 ≤ C.1 14) (hno : ∀ i7 n7 : Nat, y4 = nI i7 → nI n9 = nI n7 → ¬ i7 + n7 ≤ C.1 14) : g_Run G mX11_shift 6 0 0 [.ref (g_ad G 0), .int 2, .int (nI i9), .int 2, .int y4, .int (nI n9)] (g_hp G C tl) (some (.int (-13))) (g_hp G C tl) := by
  refine g_Run.of (lv := [(0, .ref (g_ad G 0)), (1, .int 2), (2, .int (nI i9)), (3, .int 2), (4, .int y4), (5, .int (nI n9))]) (by decide) (Nat.le_of_ble_eq_true rfl) rfl ?_
  refine a_aload_n 0 1 rfl dX11_shift_0 rfl rfl ?_
  refine a_iload_n 1 2 rfl dX11_shift_1 rfl rfl ?_
  refine a_callV (as := [.int 2]) (rest := []) (st2 := [.ref (g_ad G 29)]) (u1 := 0) (v1 := 0) (u2 := 0) (v2 := 0) (r_shelfAt2 hq) (⟨_, _, _, _, rfl, rfl⟩) oX11_shelfAt q_908 q_910 q_54 rfl (by omega) (by decide) rfl (Nat.le_of_ble_eq_true rfl) 5 rfl dX11_shift_2 rfl ?_
  refine a_astore (lv' := [(6, .ref (g_ad G 29)), (0, .ref (g_ad G 0)), (1, .int 2), (2, .int (nI i9)), (3, .int 2), (4, .int y4), (5, .int (nI n9))]) 7 rfl dX11_shift_5 (by decide) rfl ?_
  refine a_aload_n 1 8 rfl dX11_shift_7 rfl rfl ?_
  refine a_iload_n 4 9 rfl dX11_shift_8 rfl rfl ?_
  refine a_callV (as := [.int 2]) (rest := []) (st2 := [.ref (g_ad G 29)]) (u1 := 0) (v1 := 0) (u2 := 0) (v2 := 0) (r_shelfAt2 hq) (⟨_, _, _, _, rfl, rfl⟩) oX11_shelfAt q_908 q_910 q_54 rfl (by omega) (by decide) rfl (Nat.le_of_ble_eq_true rfl) 12 rfl dX11_shift_9 rfl ?_
  refine a_astore (lv' := [(7, .ref (g_ad G 29)), (6, .ref (g_ad G 29)), (0, .ref (g_ad G 0)), (1, .int 2), (2, .int (nI i9)), (3, .int 2), (4, .int y4), (5, .int (nI n9))]) 14 rfl dX11_shift_12 (by decide) rfl ?_
  refine a_aload 1 16 rfl dX11_shift_14 rfl ?_
  refine a_ifnull 19 rfl dX11_shift_16 ?_
  refine a_aload 0 21 rfl dX11_shift_19 rfl ?_
  refine a_ifnonnull 26 dX11_shift_21 (by decide) ?_
  refine a_aload 1 28 rfl dX11_shift_26 rfl ?_
  refine a_callVN (as := []) (rest := []) (st2 := [.int (if C.2.1 5 = 0 then 1 else 0)]) (u1 := 0) (v1 := 0) (u2 := 0) (v2 := 0) (r_X9_isMissing rfl) (⟨_, _, _, _, rfl, rfl⟩) oX9_isMissing q_924 q_926 q_57 rfl (by omega) (by decide) rfl (Nat.le_of_ble_eq_true rfl) 31 rfl dX11_shift_28 rfl ?_
  refine a_if_ne 42 34 rfl dX11_shift_31 (by decide) (fun hc => absurd ((by rw [if_neg h1])) hc) (fun _ => ?_)
  refine a_aload 0 36 rfl dX11_shift_34 rfl ?_
  refine a_callVN (as := []) (rest := []) (st2 := [.int (if C.2.1 5 = 0 then 1 else 0)]) (u1 := 0) (v1 := 0) (u2 := 0) (v2 := 0) (r_X9_isMissing rfl) (⟨_, _, _, _, rfl, rfl⟩) oX9_isMissing q_924 q_926 q_57 rfl (by omega) (by decide) rfl (Nat.le_of_ble_eq_true rfl) 39 rfl dX11_shift_36 rfl ?_
  refine a_if_eq 45 42 rfl dX11_shift_39 (by decide) (fun _ => ?_) (fun hc => absurd ((by rw [if_neg h2])) hc)
  refine a_aload 1 47 rfl dX11_shift_45 rfl ?_
  refine a_iload_n 4 48 rfl dX11_shift_47 rfl rfl ?_
  refine a_iload 7 50 rfl dX11_shift_48 rfl ?_
  refine a_callVN (as := [.int (nI i9), .int (nI n9)]) (rest := []) (st2 := [.int 1]) (u1 := 0) (v1 := 0) (u2 := 0) (v2 := 0) (r_X9_hasPlaces_t rfl hp hin) (⟨_, _, _, _, rfl, rfl⟩) oX9_hasPlaces q_928 q_930 q_58 rfl (by omega) (by decide) rfl (Nat.le_of_ble_eq_true rfl) 53 rfl dX11_shift_50 rfl ?_
  refine a_if_eq 68 56 rfl dX11_shift_53 (by decide) (fun hc => absurd hc ((by decide))) (fun _ => ?_)
  refine a_aload 0 58 rfl dX11_shift_56 rfl ?_
  refine a_iload 6 60 rfl dX11_shift_58 rfl ?_
  refine a_iload 7 62 rfl dX11_shift_60 rfl ?_
  refine a_callVN (as := [.int y4, .int (nI n9)]) (rest := []) (st2 := [.int 0]) (u1 := 0) (v1 := 0) (u2 := 0) (v2 := 0) (r_X9_hasPlaces_f rfl hp2 hno) (⟨_, _, _, _, rfl, rfl⟩) oX9_hasPlaces q_928 q_930 q_58 rfl (by omega) (by decide) rfl (Nat.le_of_ble_eq_true rfl) 65 rfl dX11_shift_62 rfl ?_
  refine a_if_ne 71 68 rfl dX11_shift_65 (by decide) (fun hc => absurd (rfl) hc) (fun _ => ?_)
  refine a_bipush (x := (-13)) 70 rfl dX11_shift_68 (by decide) ?_
  exact a_ireturn .int rfl rfl (rfl) (rfl) dX11_shift_70
theorem r_X11_shift22 {i9 j9 n9 s9 : Nat} {kk : Nat → Option Nat} (hq : f_qs G C) (h1 : ¬ C.2.1 5 = 0) (h2 : ¬ C.2.1 5 = 0) (hp : C.1 14 ≤ 6) (hp2 : C.1 14 ≤ 6) (hin : i9 + n9 ≤ C.1 14) (hjn : j9 + n9 ≤ C.1 14) (hs : C.2.1 8 = nI s9) (hs3 : s9 < 3) (hk : ∀ q7, q7 < C.1 14 → g_at G (g_hp G C tl) (C.2.2.2.2.2 8 q7) (kk q7)) : ∃ c2 f2 : Nat → Option Nat, (∀ q7, f2 q7 = if j9 ≤ q7 ∧ q7 < j9 + f_lead s9 kk n9 i9 then C.2.2.2.2.2 8 (i9 + (q7 - j9)) else C.2.2.2.2.2 8 q7) ∧ g_Run G mX11_shift 6 0 0 [.ref (g_ad G 0), .int 2, .int (nI i9), .int 2, .int (nI j9), .int (nI n9)] (g_hp G C tl) (some (.int (if f_lead s9 kk n9 i9 = n9 then nI n9 else -12))) (g_hp G (f_uR (f_uR C 11 c2) 8 f2) tl) := by
  have hS : (g_hp G C tl)[29]? = some (c_Sh G 30 31 (C.2.1 5) (nI s9) (C.1 14)) := by rw [← hs]; rfl
  obtain ⟨c2, f2, e2, w⟩ := r_X9_placeAll (G := G) (h := g_hp G C tl) (a := 29) (ka := 30) (kc := 31) (b := 29) (kb := 30) (kd := 31) (y5 := C.2.1 5) (y6 := C.2.1 8) (p8 := C.1 14) (f8 := C.2.2.2.2.2 8) (f := C.2.2.2.2.2 8) (c9 := C.2.2.2.2.2 11) (i9 := i9) (j9 := j9) (n9 := n9) hS rfl rfl rfl rfl hs3 hp2 hp hin hjn (by decide) (by decide) (by decide) (by decide) (by decide) hk
  refine ⟨c2, f2, e2, ?_⟩
  refine g_Run.of (lv := [(0, .ref (g_ad G 0)), (1, .int 2), (2, .int (nI i9)), (3, .int 2), (4, .int (nI j9)), (5, .int (nI n9))]) (by decide) (Nat.le_of_ble_eq_true rfl) rfl ?_
  refine a_aload_n 0 1 rfl dX11_shift_0 rfl rfl ?_
  refine a_iload_n 1 2 rfl dX11_shift_1 rfl rfl ?_
  refine a_callV (as := [.int 2]) (rest := []) (st2 := [.ref (g_ad G 29)]) (u1 := 0) (v1 := 0) (u2 := 0) (v2 := 0) (r_shelfAt2 hq) (⟨_, _, _, _, rfl, rfl⟩) oX11_shelfAt q_908 q_910 q_54 rfl (by omega) (by decide) rfl (Nat.le_of_ble_eq_true rfl) 5 rfl dX11_shift_2 rfl ?_
  refine a_astore (lv' := [(6, .ref (g_ad G 29)), (0, .ref (g_ad G 0)), (1, .int 2), (2, .int (nI i9)), (3, .int 2), (4, .int (nI j9)), (5, .int (nI n9))]) 7 rfl dX11_shift_5 (by decide) rfl ?_
  refine a_aload_n 1 8 rfl dX11_shift_7 rfl rfl ?_
  refine a_iload_n 4 9 rfl dX11_shift_8 rfl rfl ?_
  refine a_callV (as := [.int 2]) (rest := []) (st2 := [.ref (g_ad G 29)]) (u1 := 0) (v1 := 0) (u2 := 0) (v2 := 0) (r_shelfAt2 hq) (⟨_, _, _, _, rfl, rfl⟩) oX11_shelfAt q_908 q_910 q_54 rfl (by omega) (by decide) rfl (Nat.le_of_ble_eq_true rfl) 12 rfl dX11_shift_9 rfl ?_
  refine a_astore (lv' := [(7, .ref (g_ad G 29)), (6, .ref (g_ad G 29)), (0, .ref (g_ad G 0)), (1, .int 2), (2, .int (nI i9)), (3, .int 2), (4, .int (nI j9)), (5, .int (nI n9))]) 14 rfl dX11_shift_12 (by decide) rfl ?_
  refine a_aload 1 16 rfl dX11_shift_14 rfl ?_
  refine a_ifnull 19 rfl dX11_shift_16 ?_
  refine a_aload 0 21 rfl dX11_shift_19 rfl ?_
  refine a_ifnonnull 26 dX11_shift_21 (by decide) ?_
  refine a_aload 1 28 rfl dX11_shift_26 rfl ?_
  refine a_callVN (as := []) (rest := []) (st2 := [.int (if C.2.1 5 = 0 then 1 else 0)]) (u1 := 0) (v1 := 0) (u2 := 0) (v2 := 0) (r_X9_isMissing rfl) (⟨_, _, _, _, rfl, rfl⟩) oX9_isMissing q_924 q_926 q_57 rfl (by omega) (by decide) rfl (Nat.le_of_ble_eq_true rfl) 31 rfl dX11_shift_28 rfl ?_
  refine a_if_ne 42 34 rfl dX11_shift_31 (by decide) (fun hc => absurd ((by rw [if_neg h1])) hc) (fun _ => ?_)
  refine a_aload 0 36 rfl dX11_shift_34 rfl ?_
  refine a_callVN (as := []) (rest := []) (st2 := [.int (if C.2.1 5 = 0 then 1 else 0)]) (u1 := 0) (v1 := 0) (u2 := 0) (v2 := 0) (r_X9_isMissing rfl) (⟨_, _, _, _, rfl, rfl⟩) oX9_isMissing q_924 q_926 q_57 rfl (by omega) (by decide) rfl (Nat.le_of_ble_eq_true rfl) 39 rfl dX11_shift_36 rfl ?_
  refine a_if_eq 45 42 rfl dX11_shift_39 (by decide) (fun _ => ?_) (fun hc => absurd ((by rw [if_neg h2])) hc)
  refine a_aload 1 47 rfl dX11_shift_45 rfl ?_
  refine a_iload_n 4 48 rfl dX11_shift_47 rfl rfl ?_
  refine a_iload 7 50 rfl dX11_shift_48 rfl ?_
  refine a_callVN (as := [.int (nI i9), .int (nI n9)]) (rest := []) (st2 := [.int 1]) (u1 := 0) (v1 := 0) (u2 := 0) (v2 := 0) (r_X9_hasPlaces_t rfl hp hin) (⟨_, _, _, _, rfl, rfl⟩) oX9_hasPlaces q_928 q_930 q_58 rfl (by omega) (by decide) rfl (Nat.le_of_ble_eq_true rfl) 53 rfl dX11_shift_50 rfl ?_
  refine a_if_eq 68 56 rfl dX11_shift_53 (by decide) (fun hc => absurd hc ((by decide))) (fun _ => ?_)
  refine a_aload 0 58 rfl dX11_shift_56 rfl ?_
  refine a_iload 6 60 rfl dX11_shift_58 rfl ?_
  refine a_iload 7 62 rfl dX11_shift_60 rfl ?_
  refine a_callVN (as := [.int (nI j9), .int (nI n9)]) (rest := []) (st2 := [.int 1]) (u1 := 0) (v1 := 0) (u2 := 0) (v2 := 0) (r_X9_hasPlaces_t rfl hp2 hjn) (⟨_, _, _, _, rfl, rfl⟩) oX9_hasPlaces q_928 q_930 q_58 rfl (by omega) (by decide) rfl (Nat.le_of_ble_eq_true rfl) 65 rfl dX11_shift_62 rfl ?_
  refine a_if_ne 71 68 rfl dX11_shift_65 (by decide) (fun _ => ?_) (fun hc => absurd hc ((by decide)))
  refine a_aload 0 73 rfl dX11_shift_71 rfl ?_
  refine a_aload 1 75 rfl dX11_shift_73 rfl ?_
  refine a_iload_n 4 76 rfl dX11_shift_75 rfl rfl ?_
  refine a_iload 6 78 rfl dX11_shift_76 rfl ?_
  refine a_iload 7 80 rfl dX11_shift_78 rfl ?_
  refine a_callVN (as := [.ref (g_ad G 29), .int (nI i9), .int (nI j9), .int (nI n9)]) (rest := []) (st2 := [.int (if f_lead s9 kk n9 i9 = n9 then 1 else 0)]) (u1 := 0) (v1 := 0) (u2 := 0) (v2 := 0) (w) (⟨_, _, _, _, rfl, rfl⟩) oX9_placeAll q_973 q_975 q_65 rfl (by omega) (by decide) rfl (Nat.le_of_ble_eq_true rfl) 83 rfl dX11_shift_80 rfl ?_
  refine a_eq (h2 := g_hp G (f_uR (f_uR C 11 c2) 8 f2) tl) rfl rfl rfl (rfl) ?_
  by_cases e9 : f_lead s9 kk n9 i9 = n9
  · skip
    refine a_if_eq 91 86 rfl dX11_shift_83 (by decide) (fun hc => absurd hc ((by rw [if_pos e9]; decide))) (fun _ => ?_)
    refine a_iload 7 88 rfl dX11_shift_86 rfl ?_
    refine a_goto 93 dX11_shift_88 (by decide) ?_
    exact a_ireturn .int rfl rfl ((by rw [if_pos e9])) (rfl) dX11_shift_93
  · skip
    refine a_if_eq 91 86 rfl dX11_shift_83 (by decide) (fun _ => ?_) (fun hc => absurd ((by rw [if_neg e9])) hc)
    refine a_bipush (x := (-12)) 93 rfl dX11_shift_91 (by decide) ?_
    exact a_ireturn .int rfl rfl ((by rw [if_neg e9])) (rfl) dX11_shift_93

end SH1
