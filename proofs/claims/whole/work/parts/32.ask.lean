/-! The class's calls that ask of families -/
section AS1
variable {G : g_G} {C : f_C} {tl : List va_E} {x : Int64} {y y2 y3 : Int32} {j o : Nat} {T : f_T}
theorem r_X11_sets_bad (hm : C.1 3 ≤ 8) (hi : ¬ vp_in y (C.1 3)) : g_Run G mX11_sets 5 0 0 [.ref (g_ad G 0), .int y, .int y2] (g_hp G C tl) (some (.long (-9223372036854775808))) (g_hp G C tl) := by
  refine g_Run.of (lv := [(0, .ref (g_ad G 0)), (1, .int y), (2, .int y2)]) (by decide) (Nat.le_of_ble_eq_true rfl) rfl ?_
  refine a_aload_n 0 1 rfl dX11_sets_0 rfl rfl ?_
  refine a_get 2 cl_10 f_RX11_28_10 (by decide) (rfl) rfl 4 rfl dX11_sets_1 ?_
  refine a_iload_n 1 5 rfl dX11_sets_4 rfl rfl ?_
  refine a_callVN (as := [.int y]) (rest := []) (st2 := [.null]) (u1 := 0) (v1 := 0) (u2 := 0) (v2 := 0) (r_at_out hm hi) (⟨_, _, _, _, rfl, rfl⟩) oX4_at q_446 q_448 q_9 rfl (by omega) (by decide) rfl (Nat.le_of_ble_eq_true rfl) 8 rfl dX11_sets_5 rfl ?_
  refine a_astore_nN (lv' := [(3, .null), (0, .ref (g_ad G 0)), (1, .int y), (2, .int y2)]) 9 rfl dX11_sets_8 rfl (by decide) rfl ?_
  refine a_aload_nN 0 10 rfl dX11_sets_9 rfl rfl ?_
  refine a_ifnonnullN 13 rfl dX11_sets_10 ?_
  refine a_ldc2 q_466 16 rfl dX11_sets_13 ?_
  exact a_lreturn rfl (rfl) (rfl) dX11_sets_16

theorem r_X11_of_bad (hm : C.1 3 ≤ 8) (hi : ¬ vp_in y (C.1 3)) : g_Run G mX11_of 5 0 0 [.ref (g_ad G 0), .int y, .int y2] (g_hp G C tl) (some (.int (-1))) (g_hp G C tl) := by
  refine g_Run.of (lv := [(0, .ref (g_ad G 0)), (1, .int y), (2, .int y2)]) (by decide) (Nat.le_of_ble_eq_true rfl) rfl ?_
  refine a_aload_n 0 1 rfl dX11_of_0 rfl rfl ?_
  refine a_get 2 cl_10 f_RX11_28_10 (by decide) (rfl) rfl 4 rfl dX11_of_1 ?_
  refine a_iload_n 1 5 rfl dX11_of_4 rfl rfl ?_
  refine a_callVN (as := [.int y]) (rest := []) (st2 := [.null]) (u1 := 0) (v1 := 0) (u2 := 0) (v2 := 0) (r_at_out hm hi) (⟨_, _, _, _, rfl, rfl⟩) oX4_at q_446 q_448 q_9 rfl (by omega) (by decide) rfl (Nat.le_of_ble_eq_true rfl) 8 rfl dX11_of_5 rfl ?_
  refine a_astore_nN (lv' := [(3, .null), (0, .ref (g_ad G 0)), (1, .int y), (2, .int y2)]) 9 rfl dX11_of_8 rfl (by decide) rfl ?_
  refine a_aload_nN 0 10 rfl dX11_of_9 rfl rfl ?_
  refine a_ifnonnullN 13 rfl dX11_of_10 ?_
  refine a_iconst (x := (-1)) 14 rfl dX11_of_13 (by decide) ?_
  exact a_ireturn .int rfl rfl (rfl) (rfl) dX11_of_14

theorem r_X11_is_bad (hm : C.1 3 ≤ 8) (hi : ¬ vp_in y (C.1 3)) : g_Run G mX11_is 5 0 0 [.ref (g_ad G 0), .int y, .int y2] (g_hp G C tl) (some (.int (-1))) (g_hp G C tl) := by
  refine g_Run.of (lv := [(0, .ref (g_ad G 0)), (1, .int y), (2, .int y2)]) (by decide) (Nat.le_of_ble_eq_true rfl) rfl ?_
  refine a_aload_n 0 1 rfl dX11_is_0 rfl rfl ?_
  refine a_get 2 cl_10 f_RX11_28_10 (by decide) (rfl) rfl 4 rfl dX11_is_1 ?_
  refine a_iload_n 1 5 rfl dX11_is_4 rfl rfl ?_
  refine a_callVN (as := [.int y]) (rest := []) (st2 := [.null]) (u1 := 0) (v1 := 0) (u2 := 0) (v2 := 0) (r_at_out hm hi) (⟨_, _, _, _, rfl, rfl⟩) oX4_at q_446 q_448 q_9 rfl (by omega) (by decide) rfl (Nat.le_of_ble_eq_true rfl) 8 rfl dX11_is_5 rfl ?_
  refine a_astore_nN (lv' := [(3, .null), (0, .ref (g_ad G 0)), (1, .int y), (2, .int y2)]) 9 rfl dX11_is_8 rfl (by decide) rfl ?_
  refine a_aload_nN 0 10 rfl dX11_is_9 rfl rfl ?_
  refine a_ifnonnullN 13 rfl dX11_is_10 ?_
  refine a_iconst (x := (-1)) 14 rfl dX11_is_13 (by decide) ?_
  exact a_ireturn .int rfl rfl (rfl) (rfl) dX11_is_14

theorem r_X11_profile_bad (hm : C.1 3 ≤ 8) (hi : ¬ vp_in y (C.1 3)) : g_Run G mX11_profile 5 0 0 [.ref (g_ad G 0), .int y, .int y2] (g_hp G C tl) (some (.int (-1))) (g_hp G C tl) := by
  refine g_Run.of (lv := [(0, .ref (g_ad G 0)), (1, .int y), (2, .int y2)]) (by decide) (Nat.le_of_ble_eq_true rfl) rfl ?_
  refine a_aload_n 0 1 rfl dX11_profile_0 rfl rfl ?_
  refine a_get 2 cl_10 f_RX11_28_10 (by decide) (rfl) rfl 4 rfl dX11_profile_1 ?_
  refine a_iload_n 1 5 rfl dX11_profile_4 rfl rfl ?_
  refine a_callVN (as := [.int y]) (rest := []) (st2 := [.null]) (u1 := 0) (v1 := 0) (u2 := 0) (v2 := 0) (r_at_out hm hi) (⟨_, _, _, _, rfl, rfl⟩) oX4_at q_446 q_448 q_9 rfl (by omega) (by decide) rfl (Nat.le_of_ble_eq_true rfl) 8 rfl dX11_profile_5 rfl ?_
  refine a_astore_nN (lv' := [(3, .null), (0, .ref (g_ad G 0)), (1, .int y), (2, .int y2)]) 9 rfl dX11_profile_8 rfl (by decide) rfl ?_
  refine a_aload_nN 0 10 rfl dX11_profile_9 rfl rfl ?_
  refine a_ifnullN 28 dX11_profile_10 (by decide) ?_
  refine a_iconst (x := (-1)) 29 rfl dX11_profile_28 (by decide) ?_
  exact a_ireturn .int rfl rfl (rfl) (rfl) dX11_profile_29

theorem r_X11_sets0 (hf : f_is G C tl j o T) (hn : C.1 0 ≤ 6) : g_Run G mX11_sets 5 0 0 [.ref (g_ad G 0), .int (nI j), .int 0] (g_hp G C tl) (some (.long (f_so C T))) (g_hp G C tl) := by
  refine g_Run.of (lv := [(0, .ref (g_ad G 0)), (1, .int (nI j)), (2, .int 0)]) (by decide) (Nat.le_of_ble_eq_true rfl) rfl ?_
  refine a_aload_n 0 1 rfl dX11_sets_0 rfl rfl ?_
  refine a_get 2 cl_10 f_RX11_28_10 (by decide) (rfl) rfl 4 rfl dX11_sets_1 ?_
  refine a_iload_n 1 5 rfl dX11_sets_4 rfl rfl ?_
  refine a_callVN (as := [.int (nI j)]) (rest := []) (st2 := [.ref (g_ad G (38 + o))]) (u1 := 0) (v1 := 0) (u2 := 0) (v2 := 0) (r_at_in hf) (⟨_, _, _, _, rfl, rfl⟩) oX4_at q_446 q_448 q_9 rfl (by omega) (by decide) rfl (Nat.le_of_ble_eq_true rfl) 8 rfl dX11_sets_5 rfl ?_
  refine a_astore_n (lv' := [(3, .ref (g_ad G (38 + o))), (0, .ref (g_ad G 0)), (1, .int (nI j)), (2, .int 0)]) 9 rfl dX11_sets_8 rfl (by decide) rfl ?_
  refine a_aload_n 0 10 rfl dX11_sets_9 rfl rfl ?_
  refine a_ifnonnull 17 dX11_sets_10 (by decide) ?_
  refine a_aload_n 1 18 rfl dX11_sets_17 rfl rfl ?_
  refine a_get 0 cl_10 f_RX11_12_10 (by decide) (rfl) rfl 21 rfl dX11_sets_18 ?_
  refine a_aload_n 0 22 rfl dX11_sets_21 rfl rfl ?_
  refine a_callVN (as := [.ref (g_ad G (38 + o))]) (rest := []) (st2 := [.long (f_so C T)]) (u1 := 0) (v1 := 0) (u2 := 0) (v2 := 0) (r_so hf hn) (⟨_, _, _, _, rfl, rfl⟩) oX3_setsOf q_467 q_469 q_13 rfl (by omega) (by decide) rfl (Nat.le_of_ble_eq_true rfl) 25 rfl dX11_sets_22 rfl ?_
  refine a_lstore (lv' := [(4, .long (f_so C T)), (3, .ref (g_ad G (38 + o))), (0, .ref (g_ad G 0)), (1, .int (nI j)), (2, .int 0)]) 27 rfl dX11_sets_25 (by decide) rfl ?_
  refine a_iload_n 4 28 rfl dX11_sets_27 rfl rfl ?_
  refine a_tableIn (off := 36) 64 dX11_sets_28 (by decide) (by decide) (by decide) (by decide) ?_
  refine a_lload 0 66 rfl dX11_sets_64 rfl ?_
  exact a_lreturn rfl (rfl) (rfl) dX11_sets_66

theorem r_X11_sets1 (hf : f_is G C tl j o T) (hn : C.1 0 ≤ 6) : g_Run G mX11_sets 5 0 0 [.ref (g_ad G 0), .int (nI j), .int 1] (g_hp G C tl) (some (.long (T.2.2))) (g_hp G C tl) := by
  refine g_Run.of (lv := [(0, .ref (g_ad G 0)), (1, .int (nI j)), (2, .int 1)]) (by decide) (Nat.le_of_ble_eq_true rfl) rfl ?_
  refine a_aload_n 0 1 rfl dX11_sets_0 rfl rfl ?_
  refine a_get 2 cl_10 f_RX11_28_10 (by decide) (rfl) rfl 4 rfl dX11_sets_1 ?_
  refine a_iload_n 1 5 rfl dX11_sets_4 rfl rfl ?_
  refine a_callVN (as := [.int (nI j)]) (rest := []) (st2 := [.ref (g_ad G (38 + o))]) (u1 := 0) (v1 := 0) (u2 := 0) (v2 := 0) (r_at_in hf) (⟨_, _, _, _, rfl, rfl⟩) oX4_at q_446 q_448 q_9 rfl (by omega) (by decide) rfl (Nat.le_of_ble_eq_true rfl) 8 rfl dX11_sets_5 rfl ?_
  refine a_astore_n (lv' := [(3, .ref (g_ad G (38 + o))), (0, .ref (g_ad G 0)), (1, .int (nI j)), (2, .int 1)]) 9 rfl dX11_sets_8 rfl (by decide) rfl ?_
  refine a_aload_n 0 10 rfl dX11_sets_9 rfl rfl ?_
  refine a_ifnonnull 17 dX11_sets_10 (by decide) ?_
  refine a_aload_n 1 18 rfl dX11_sets_17 rfl rfl ?_
  refine a_get 0 cl_10 f_RX11_12_10 (by decide) (rfl) rfl 21 rfl dX11_sets_18 ?_
  refine a_aload_n 0 22 rfl dX11_sets_21 rfl rfl ?_
  refine a_callVN (as := [.ref (g_ad G (38 + o))]) (rest := []) (st2 := [.long (f_so C T)]) (u1 := 0) (v1 := 0) (u2 := 0) (v2 := 0) (r_so hf hn) (⟨_, _, _, _, rfl, rfl⟩) oX3_setsOf q_467 q_469 q_13 rfl (by omega) (by decide) rfl (Nat.le_of_ble_eq_true rfl) 25 rfl dX11_sets_22 rfl ?_
  refine a_lstore (lv' := [(4, .long (f_so C T)), (3, .ref (g_ad G (38 + o))), (0, .ref (g_ad G 0)), (1, .int (nI j)), (2, .int 1)]) 27 rfl dX11_sets_25 (by decide) rfl ?_
  refine a_iload_n 4 28 rfl dX11_sets_27 rfl rfl ?_
  refine a_tableIn (off := 39) 67 dX11_sets_28 (by decide) (by decide) (by decide) (by decide) ?_
  refine a_aload_n 1 68 rfl dX11_sets_67 rfl rfl ?_
  refine a_get 2 cl_5 f_RX11_123_5 (by decide) (f_T_at hf.2.2.2.1) rfl 71 rfl dX11_sets_68 ?_
  exact a_lreturn rfl (rfl) (rfl) dX11_sets_71

theorem r_X11_sets2 (hf : f_is G C tl j o T) (hn : C.1 0 ≤ 6) : g_Run G mX11_sets 5 0 0 [.ref (g_ad G 0), .int (nI j), .int 2] (g_hp G C tl) (some (.long (f_shadow (f_so C T) (C.1 0)))) (g_hp G C tl) := by
  refine g_Run.of (lv := [(0, .ref (g_ad G 0)), (1, .int (nI j)), (2, .int 2)]) (by decide) (Nat.le_of_ble_eq_true rfl) rfl ?_
  refine a_aload_n 0 1 rfl dX11_sets_0 rfl rfl ?_
  refine a_get 2 cl_10 f_RX11_28_10 (by decide) (rfl) rfl 4 rfl dX11_sets_1 ?_
  refine a_iload_n 1 5 rfl dX11_sets_4 rfl rfl ?_
  refine a_callVN (as := [.int (nI j)]) (rest := []) (st2 := [.ref (g_ad G (38 + o))]) (u1 := 0) (v1 := 0) (u2 := 0) (v2 := 0) (r_at_in hf) (⟨_, _, _, _, rfl, rfl⟩) oX4_at q_446 q_448 q_9 rfl (by omega) (by decide) rfl (Nat.le_of_ble_eq_true rfl) 8 rfl dX11_sets_5 rfl ?_
  refine a_astore_n (lv' := [(3, .ref (g_ad G (38 + o))), (0, .ref (g_ad G 0)), (1, .int (nI j)), (2, .int 2)]) 9 rfl dX11_sets_8 rfl (by decide) rfl ?_
  refine a_aload_n 0 10 rfl dX11_sets_9 rfl rfl ?_
  refine a_ifnonnull 17 dX11_sets_10 (by decide) ?_
  refine a_aload_n 1 18 rfl dX11_sets_17 rfl rfl ?_
  refine a_get 0 cl_10 f_RX11_12_10 (by decide) (rfl) rfl 21 rfl dX11_sets_18 ?_
  refine a_aload_n 0 22 rfl dX11_sets_21 rfl rfl ?_
  refine a_callVN (as := [.ref (g_ad G (38 + o))]) (rest := []) (st2 := [.long (f_so C T)]) (u1 := 0) (v1 := 0) (u2 := 0) (v2 := 0) (r_so hf hn) (⟨_, _, _, _, rfl, rfl⟩) oX3_setsOf q_467 q_469 q_13 rfl (by omega) (by decide) rfl (Nat.le_of_ble_eq_true rfl) 25 rfl dX11_sets_22 rfl ?_
  refine a_lstore (lv' := [(4, .long (f_so C T)), (3, .ref (g_ad G (38 + o))), (0, .ref (g_ad G 0)), (1, .int (nI j)), (2, .int 2)]) 27 rfl dX11_sets_25 (by decide) rfl ?_
  refine a_iload_n 4 28 rfl dX11_sets_27 rfl rfl ?_
  refine a_tableIn (off := 44) 72 dX11_sets_28 (by decide) (by decide) (by decide) (by decide) ?_
  refine a_aload_n 2 73 rfl dX11_sets_72 rfl rfl ?_
  refine a_get 0 cl_10 f_RX11_12_10 (by decide) (rfl) rfl 76 rfl dX11_sets_73 ?_
  refine a_lload 0 78 rfl dX11_sets_76 rfl ?_
  refine a_callVN (as := [.long (f_so C T)]) (rest := []) (st2 := [.long (f_shadow (f_so C T) (C.1 0))]) (u1 := 0) (v1 := 0) (u2 := 0) (v2 := 0) (r_X3_shadowOf (n := C.1 0) rfl hn) (⟨_, _, _, _, rfl, rfl⟩) oX3_shadowOf q_503 q_505 q_18 rfl (by omega) (by decide) rfl (Nat.le_of_ble_eq_true rfl) 81 rfl dX11_sets_78 rfl ?_
  exact a_lreturn rfl (rfl) (rfl) dX11_sets_81

theorem r_X11_sets3 (hf : f_is G C tl j o T) (hn : C.1 0 ≤ 6) : g_Run G mX11_sets 5 0 0 [.ref (g_ad G 0), .int (nI j), .int 3] (g_hp G C tl) (some (.long (f_upper (f_so C T) (C.1 0)))) (g_hp G C tl) := by
  refine g_Run.of (lv := [(0, .ref (g_ad G 0)), (1, .int (nI j)), (2, .int 3)]) (by decide) (Nat.le_of_ble_eq_true rfl) rfl ?_
  refine a_aload_n 0 1 rfl dX11_sets_0 rfl rfl ?_
  refine a_get 2 cl_10 f_RX11_28_10 (by decide) (rfl) rfl 4 rfl dX11_sets_1 ?_
  refine a_iload_n 1 5 rfl dX11_sets_4 rfl rfl ?_
  refine a_callVN (as := [.int (nI j)]) (rest := []) (st2 := [.ref (g_ad G (38 + o))]) (u1 := 0) (v1 := 0) (u2 := 0) (v2 := 0) (r_at_in hf) (⟨_, _, _, _, rfl, rfl⟩) oX4_at q_446 q_448 q_9 rfl (by omega) (by decide) rfl (Nat.le_of_ble_eq_true rfl) 8 rfl dX11_sets_5 rfl ?_
  refine a_astore_n (lv' := [(3, .ref (g_ad G (38 + o))), (0, .ref (g_ad G 0)), (1, .int (nI j)), (2, .int 3)]) 9 rfl dX11_sets_8 rfl (by decide) rfl ?_
  refine a_aload_n 0 10 rfl dX11_sets_9 rfl rfl ?_
  refine a_ifnonnull 17 dX11_sets_10 (by decide) ?_
  refine a_aload_n 1 18 rfl dX11_sets_17 rfl rfl ?_
  refine a_get 0 cl_10 f_RX11_12_10 (by decide) (rfl) rfl 21 rfl dX11_sets_18 ?_
  refine a_aload_n 0 22 rfl dX11_sets_21 rfl rfl ?_
  refine a_callVN (as := [.ref (g_ad G (38 + o))]) (rest := []) (st2 := [.long (f_so C T)]) (u1 := 0) (v1 := 0) (u2 := 0) (v2 := 0) (r_so hf hn) (⟨_, _, _, _, rfl, rfl⟩) oX3_setsOf q_467 q_469 q_13 rfl (by omega) (by decide) rfl (Nat.le_of_ble_eq_true rfl) 25 rfl dX11_sets_22 rfl ?_
  refine a_lstore (lv' := [(4, .long (f_so C T)), (3, .ref (g_ad G (38 + o))), (0, .ref (g_ad G 0)), (1, .int (nI j)), (2, .int 3)]) 27 rfl dX11_sets_25 (by decide) rfl ?_
  refine a_iload_n 4 28 rfl dX11_sets_27 rfl rfl ?_
  refine a_tableIn (off := 54) 82 dX11_sets_28 (by decide) (by decide) (by decide) (by decide) ?_
  refine a_aload_n 2 83 rfl dX11_sets_82 rfl rfl ?_
  refine a_get 0 cl_10 f_RX11_12_10 (by decide) (rfl) rfl 86 rfl dX11_sets_83 ?_
  refine a_lload 0 88 rfl dX11_sets_86 rfl ?_
  refine a_callVN (as := [.long (f_so C T)]) (rest := []) (st2 := [.long (f_upper (f_so C T) (C.1 0))]) (u1 := 0) (v1 := 0) (u2 := 0) (v2 := 0) (r_X3_upperShadowOf (n := C.1 0) rfl hn) (⟨_, _, _, _, rfl, rfl⟩) oX3_upperShadowOf q_507 q_509 q_19 rfl (by omega) (by decide) rfl (Nat.le_of_ble_eq_true rfl) 91 rfl dX11_sets_88 rfl ?_
  exact a_lreturn rfl (rfl) (rfl) dX11_sets_91

theorem r_X11_sets4 (hf : f_is G C tl j o T) (hn : C.1 0 ≤ 6) : g_Run G mX11_sets 5 0 0 [.ref (g_ad G 0), .int (nI j), .int 4] (g_hp G C tl) (some (.long (f_border (f_so C T) (C.1 0)))) (g_hp G C tl) := by
  refine g_Run.of (lv := [(0, .ref (g_ad G 0)), (1, .int (nI j)), (2, .int 4)]) (by decide) (Nat.le_of_ble_eq_true rfl) rfl ?_
  refine a_aload_n 0 1 rfl dX11_sets_0 rfl rfl ?_
  refine a_get 2 cl_10 f_RX11_28_10 (by decide) (rfl) rfl 4 rfl dX11_sets_1 ?_
  refine a_iload_n 1 5 rfl dX11_sets_4 rfl rfl ?_
  refine a_callVN (as := [.int (nI j)]) (rest := []) (st2 := [.ref (g_ad G (38 + o))]) (u1 := 0) (v1 := 0) (u2 := 0) (v2 := 0) (r_at_in hf) (⟨_, _, _, _, rfl, rfl⟩) oX4_at q_446 q_448 q_9 rfl (by omega) (by decide) rfl (Nat.le_of_ble_eq_true rfl) 8 rfl dX11_sets_5 rfl ?_
  refine a_astore_n (lv' := [(3, .ref (g_ad G (38 + o))), (0, .ref (g_ad G 0)), (1, .int (nI j)), (2, .int 4)]) 9 rfl dX11_sets_8 rfl (by decide) rfl ?_
  refine a_aload_n 0 10 rfl dX11_sets_9 rfl rfl ?_
  refine a_ifnonnull 17 dX11_sets_10 (by decide) ?_
  refine a_aload_n 1 18 rfl dX11_sets_17 rfl rfl ?_
  refine a_get 0 cl_10 f_RX11_12_10 (by decide) (rfl) rfl 21 rfl dX11_sets_18 ?_
  refine a_aload_n 0 22 rfl dX11_sets_21 rfl rfl ?_
  refine a_callVN (as := [.ref (g_ad G (38 + o))]) (rest := []) (st2 := [.long (f_so C T)]) (u1 := 0) (v1 := 0) (u2 := 0) (v2 := 0) (r_so hf hn) (⟨_, _, _, _, rfl, rfl⟩) oX3_setsOf q_467 q_469 q_13 rfl (by omega) (by decide) rfl (Nat.le_of_ble_eq_true rfl) 25 rfl dX11_sets_22 rfl ?_
  refine a_lstore (lv' := [(4, .long (f_so C T)), (3, .ref (g_ad G (38 + o))), (0, .ref (g_ad G 0)), (1, .int (nI j)), (2, .int 4)]) 27 rfl dX11_sets_25 (by decide) rfl ?_
  refine a_iload_n 4 28 rfl dX11_sets_27 rfl rfl ?_
  refine a_tableIn (off := 64) 92 dX11_sets_28 (by decide) (by decide) (by decide) (by decide) ?_
  refine a_aload_n 2 93 rfl dX11_sets_92 rfl rfl ?_
  refine a_get 0 cl_10 f_RX11_12_10 (by decide) (rfl) rfl 96 rfl dX11_sets_93 ?_
  refine a_lload 0 98 rfl dX11_sets_96 rfl ?_
  refine a_callVN (as := [.long (f_so C T)]) (rest := []) (st2 := [.long (f_border (f_so C T) (C.1 0))]) (u1 := 0) (v1 := 0) (u2 := 0) (v2 := 0) (r_X3_borderOf (n := C.1 0) rfl hn) (⟨_, _, _, _, rfl, rfl⟩) oX3_borderOf q_511 q_513 q_20 rfl (by omega) (by decide) rfl (Nat.le_of_ble_eq_true rfl) 101 rfl dX11_sets_98 rfl ?_
  exact a_lreturn rfl (rfl) (rfl) dX11_sets_101

theorem r_X11_sets_out (hf : f_is G C tl j o T) (hn : C.1 0 ≤ 6) (hy : y.toInt < 0 ∨ 4 < y.toInt) : g_Run G mX11_sets 5 0 0 [.ref (g_ad G 0), .int (nI j), .int y] (g_hp G C tl) (some (.long (-9223372036854775808))) (g_hp G C tl) := by
  refine g_Run.of (lv := [(0, .ref (g_ad G 0)), (1, .int (nI j)), (2, .int y)]) (by decide) (Nat.le_of_ble_eq_true rfl) rfl ?_
  refine a_aload_n 0 1 rfl dX11_sets_0 rfl rfl ?_
  refine a_get 2 cl_10 f_RX11_28_10 (by decide) (rfl) rfl 4 rfl dX11_sets_1 ?_
  refine a_iload_n 1 5 rfl dX11_sets_4 rfl rfl ?_
  refine a_callVN (as := [.int (nI j)]) (rest := []) (st2 := [.ref (g_ad G (38 + o))]) (u1 := 0) (v1 := 0) (u2 := 0) (v2 := 0) (r_at_in hf) (⟨_, _, _, _, rfl, rfl⟩) oX4_at q_446 q_448 q_9 rfl (by omega) (by decide) rfl (Nat.le_of_ble_eq_true rfl) 8 rfl dX11_sets_5 rfl ?_
  refine a_astore_n (lv' := [(3, .ref (g_ad G (38 + o))), (0, .ref (g_ad G 0)), (1, .int (nI j)), (2, .int y)]) 9 rfl dX11_sets_8 rfl (by decide) rfl ?_
  refine a_aload_n 0 10 rfl dX11_sets_9 rfl rfl ?_
  refine a_ifnonnull 17 dX11_sets_10 (by decide) ?_
  refine a_aload_n 1 18 rfl dX11_sets_17 rfl rfl ?_
  refine a_get 0 cl_10 f_RX11_12_10 (by decide) (rfl) rfl 21 rfl dX11_sets_18 ?_
  refine a_aload_n 0 22 rfl dX11_sets_21 rfl rfl ?_
  refine a_callVN (as := [.ref (g_ad G (38 + o))]) (rest := []) (st2 := [.long (f_so C T)]) (u1 := 0) (v1 := 0) (u2 := 0) (v2 := 0) (r_so hf hn) (⟨_, _, _, _, rfl, rfl⟩) oX3_setsOf q_467 q_469 q_13 rfl (by omega) (by decide) rfl (Nat.le_of_ble_eq_true rfl) 25 rfl dX11_sets_22 rfl ?_
  refine a_lstore (lv' := [(4, .long (f_so C T)), (3, .ref (g_ad G (38 + o))), (0, .ref (g_ad G 0)), (1, .int (nI j)), (2, .int y)]) 27 rfl dX11_sets_25 (by decide) rfl ?_
  refine a_iload_n 4 28 rfl dX11_sets_27 rfl rfl ?_
  refine a_tableOut 102 dX11_sets_28 (hy) (by decide) ?_
  refine a_ldc2 q_466 105 rfl dX11_sets_102 ?_
  exact a_lreturn rfl (rfl) (rfl) dX11_sets_105
theorem f_bit {z : Int64} : g_Run G mJ13_bitCount_95d88 1 0 0 [.long z] (g_hp G C tl) (some (.int (f_bcL z))) (g_hp G C tl) := r_bitCountL
theorem r_X11_of0 (hf : f_is G C tl j o T) (hn : C.1 0 ≤ 6) : g_Run G mX11_of 5 0 0 [.ref (g_ad G 0), .int (nI j), .int 0] (g_hp G C tl) (some (.int (nI T.1))) (g_hp G C tl) := by
  refine g_Run.of (lv := [(0, .ref (g_ad G 0)), (1, .int (nI j)), (2, .int 0)]) (by decide) (Nat.le_of_ble_eq_true rfl) rfl ?_
  refine a_aload_n 0 1 rfl dX11_of_0 rfl rfl ?_
  refine a_get 2 cl_10 f_RX11_28_10 (by decide) (rfl) rfl 4 rfl dX11_of_1 ?_
  refine a_iload_n 1 5 rfl dX11_of_4 rfl rfl ?_
  refine a_callVN (as := [.int (nI j)]) (rest := []) (st2 := [.ref (g_ad G (38 + o))]) (u1 := 0) (v1 := 0) (u2 := 0) (v2 := 0) (r_at_in hf) (⟨_, _, _, _, rfl, rfl⟩) oX4_at q_446 q_448 q_9 rfl (by omega) (by decide) rfl (Nat.le_of_ble_eq_true rfl) 8 rfl dX11_of_5 rfl ?_
  refine a_astore_n (lv' := [(3, .ref (g_ad G (38 + o))), (0, .ref (g_ad G 0)), (1, .int (nI j)), (2, .int 0)]) 9 rfl dX11_of_8 rfl (by decide) rfl ?_
  refine a_aload_n 0 10 rfl dX11_of_9 rfl rfl ?_
  refine a_ifnonnull 15 dX11_of_10 (by decide) ?_
  refine a_aload_n 1 16 rfl dX11_of_15 rfl rfl ?_
  refine a_get 0 cl_10 f_RX11_12_10 (by decide) (rfl) rfl 19 rfl dX11_of_16 ?_
  refine a_aload_n 0 20 rfl dX11_of_19 rfl rfl ?_
  refine a_callVN (as := [.ref (g_ad G (38 + o))]) (rest := []) (st2 := [.long (f_so C T)]) (u1 := 0) (v1 := 0) (u2 := 0) (v2 := 0) (r_so hf hn) (⟨_, _, _, _, rfl, rfl⟩) oX3_setsOf q_467 q_469 q_13 rfl (by omega) (by decide) rfl (Nat.le_of_ble_eq_true rfl) 23 rfl dX11_of_20 rfl ?_
  refine a_lstore (lv' := [(4, .long (f_so C T)), (3, .ref (g_ad G (38 + o))), (0, .ref (g_ad G 0)), (1, .int (nI j)), (2, .int 0)]) 25 rfl dX11_of_23 (by decide) rfl ?_
  refine a_iload_n 4 26 rfl dX11_of_25 rfl rfl ?_
  refine a_tableIn (off := 42) 68 dX11_of_26 (by decide) (by decide) (by decide) (by decide) ?_
  refine a_aload_n 1 69 rfl dX11_of_68 rfl rfl ?_
  refine a_get 0 cl_5 f_RX11_114_5 (by decide) (f_T_at hf.2.2.2.1) rfl 72 rfl dX11_of_69 ?_
  exact a_ireturn .int rfl rfl (rfl) (rfl) dX11_of_72

theorem r_X11_of1 (hf : f_is G C tl j o T) (hn : C.1 0 ≤ 6) : g_Run G mX11_of 5 0 0 [.ref (g_ad G 0), .int (nI j), .int 1] (g_hp G C tl) (some (.int (nI T.2.1))) (g_hp G C tl) := by
  refine g_Run.of (lv := [(0, .ref (g_ad G 0)), (1, .int (nI j)), (2, .int 1)]) (by decide) (Nat.le_of_ble_eq_true rfl) rfl ?_
  refine a_aload_n 0 1 rfl dX11_of_0 rfl rfl ?_
  refine a_get 2 cl_10 f_RX11_28_10 (by decide) (rfl) rfl 4 rfl dX11_of_1 ?_
  refine a_iload_n 1 5 rfl dX11_of_4 rfl rfl ?_
  refine a_callVN (as := [.int (nI j)]) (rest := []) (st2 := [.ref (g_ad G (38 + o))]) (u1 := 0) (v1 := 0) (u2 := 0) (v2 := 0) (r_at_in hf) (⟨_, _, _, _, rfl, rfl⟩) oX4_at q_446 q_448 q_9 rfl (by omega) (by decide) rfl (Nat.le_of_ble_eq_true rfl) 8 rfl dX11_of_5 rfl ?_
  refine a_astore_n (lv' := [(3, .ref (g_ad G (38 + o))), (0, .ref (g_ad G 0)), (1, .int (nI j)), (2, .int 1)]) 9 rfl dX11_of_8 rfl (by decide) rfl ?_
  refine a_aload_n 0 10 rfl dX11_of_9 rfl rfl ?_
  refine a_ifnonnull 15 dX11_of_10 (by decide) ?_
  refine a_aload_n 1 16 rfl dX11_of_15 rfl rfl ?_
  refine a_get 0 cl_10 f_RX11_12_10 (by decide) (rfl) rfl 19 rfl dX11_of_16 ?_
  refine a_aload_n 0 20 rfl dX11_of_19 rfl rfl ?_
  refine a_callVN (as := [.ref (g_ad G (38 + o))]) (rest := []) (st2 := [.long (f_so C T)]) (u1 := 0) (v1 := 0) (u2 := 0) (v2 := 0) (r_so hf hn) (⟨_, _, _, _, rfl, rfl⟩) oX3_setsOf q_467 q_469 q_13 rfl (by omega) (by decide) rfl (Nat.le_of_ble_eq_true rfl) 23 rfl dX11_of_20 rfl ?_
  refine a_lstore (lv' := [(4, .long (f_so C T)), (3, .ref (g_ad G (38 + o))), (0, .ref (g_ad G 0)), (1, .int (nI j)), (2, .int 1)]) 25 rfl dX11_of_23 (by decide) rfl ?_
  refine a_iload_n 4 26 rfl dX11_of_25 rfl rfl ?_
  refine a_tableIn (off := 47) 73 dX11_of_26 (by decide) (by decide) (by decide) (by decide) ?_
  refine a_aload_n 1 74 rfl dX11_of_73 rfl rfl ?_
  refine a_get 1 cl_5 f_RX11_120_5 (by decide) (f_T_at hf.2.2.2.1) rfl 77 rfl dX11_of_74 ?_
  exact a_ireturn .int rfl rfl (rfl) (rfl) dX11_of_77

theorem r_X11_of2 (hf : f_is G C tl j o T) (hn : C.1 0 ≤ 6) : g_Run G mX11_of 5 0 0 [.ref (g_ad G 0), .int (nI j), .int 2] (g_hp G C tl) (some (.int (f_bcL (f_so C T)))) (g_hp G C tl) := by
  refine g_Run.of (lv := [(0, .ref (g_ad G 0)), (1, .int (nI j)), (2, .int 2)]) (by decide) (Nat.le_of_ble_eq_true rfl) rfl ?_
  refine a_aload_n 0 1 rfl dX11_of_0 rfl rfl ?_
  refine a_get 2 cl_10 f_RX11_28_10 (by decide) (rfl) rfl 4 rfl dX11_of_1 ?_
  refine a_iload_n 1 5 rfl dX11_of_4 rfl rfl ?_
  refine a_callVN (as := [.int (nI j)]) (rest := []) (st2 := [.ref (g_ad G (38 + o))]) (u1 := 0) (v1 := 0) (u2 := 0) (v2 := 0) (r_at_in hf) (⟨_, _, _, _, rfl, rfl⟩) oX4_at q_446 q_448 q_9 rfl (by omega) (by decide) rfl (Nat.le_of_ble_eq_true rfl) 8 rfl dX11_of_5 rfl ?_
  refine a_astore_n (lv' := [(3, .ref (g_ad G (38 + o))), (0, .ref (g_ad G 0)), (1, .int (nI j)), (2, .int 2)]) 9 rfl dX11_of_8 rfl (by decide) rfl ?_
  refine a_aload_n 0 10 rfl dX11_of_9 rfl rfl ?_
  refine a_ifnonnull 15 dX11_of_10 (by decide) ?_
  refine a_aload_n 1 16 rfl dX11_of_15 rfl rfl ?_
  refine a_get 0 cl_10 f_RX11_12_10 (by decide) (rfl) rfl 19 rfl dX11_of_16 ?_
  refine a_aload_n 0 20 rfl dX11_of_19 rfl rfl ?_
  refine a_callVN (as := [.ref (g_ad G (38 + o))]) (rest := []) (st2 := [.long (f_so C T)]) (u1 := 0) (v1 := 0) (u2 := 0) (v2 := 0) (r_so hf hn) (⟨_, _, _, _, rfl, rfl⟩) oX3_setsOf q_467 q_469 q_13 rfl (by omega) (by decide) rfl (Nat.le_of_ble_eq_true rfl) 23 rfl dX11_of_20 rfl ?_
  refine a_lstore (lv' := [(4, .long (f_so C T)), (3, .ref (g_ad G (38 + o))), (0, .ref (g_ad G 0)), (1, .int (nI j)), (2, .int 2)]) 25 rfl dX11_of_23 (by decide) rfl ?_
  refine a_iload_n 4 26 rfl dX11_of_25 rfl rfl ?_
  refine a_tableIn (off := 52) 78 dX11_of_26 (by decide) (by decide) (by decide) (by decide) ?_
  refine a_lload 0 80 rfl dX11_of_78 rfl ?_
  refine a_callS (as := [.long (f_so C T)]) (rest := []) (st2 := [.int (f_bcL (f_so C T))]) (u1 := 0) (v1 := 0) (u2 := 0) (v2 := 0) (f_bit) oJ13_bitCount_95d88 q_521 q_522 rfl (by omega) (by decide) rfl (Nat.le_of_ble_eq_true rfl) 83 rfl dX11_of_80 rfl ?_
  exact a_ireturn .int rfl rfl (rfl) (rfl) dX11_of_83

theorem r_X11_of3 (hf : f_is G C tl j o T) (hn : C.1 0 ≤ 6) : g_Run G mX11_of 5 0 0 [.ref (g_ad G 0), .int (nI j), .int 3] (g_hp G C tl) (some (.int (f_bcL (f_shadow (f_so C T) (C.1 0))))) (g_hp G C tl) := by
  refine g_Run.of (lv := [(0, .ref (g_ad G 0)), (1, .int (nI j)), (2, .int 3)]) (by decide) (Nat.le_of_ble_eq_true rfl) rfl ?_
  refine a_aload_n 0 1 rfl dX11_of_0 rfl rfl ?_
  refine a_get 2 cl_10 f_RX11_28_10 (by decide) (rfl) rfl 4 rfl dX11_of_1 ?_
  refine a_iload_n 1 5 rfl dX11_of_4 rfl rfl ?_
  refine a_callVN (as := [.int (nI j)]) (rest := []) (st2 := [.ref (g_ad G (38 + o))]) (u1 := 0) (v1 := 0) (u2 := 0) (v2 := 0) (r_at_in hf) (⟨_, _, _, _, rfl, rfl⟩) oX4_at q_446 q_448 q_9 rfl (by omega) (by decide) rfl (Nat.le_of_ble_eq_true rfl) 8 rfl dX11_of_5 rfl ?_
  refine a_astore_n (lv' := [(3, .ref (g_ad G (38 + o))), (0, .ref (g_ad G 0)), (1, .int (nI j)), (2, .int 3)]) 9 rfl dX11_of_8 rfl (by decide) rfl ?_
  refine a_aload_n 0 10 rfl dX11_of_9 rfl rfl ?_
  refine a_ifnonnull 15 dX11_of_10 (by decide) ?_
  refine a_aload_n 1 16 rfl dX11_of_15 rfl rfl ?_
  refine a_get 0 cl_10 f_RX11_12_10 (by decide) (rfl) rfl 19 rfl dX11_of_16 ?_
  refine a_aload_n 0 20 rfl dX11_of_19 rfl rfl ?_
  refine a_callVN (as := [.ref (g_ad G (38 + o))]) (rest := []) (st2 := [.long (f_so C T)]) (u1 := 0) (v1 := 0) (u2 := 0) (v2 := 0) (r_so hf hn) (⟨_, _, _, _, rfl, rfl⟩) oX3_setsOf q_467 q_469 q_13 rfl (by omega) (by decide) rfl (Nat.le_of_ble_eq_true rfl) 23 rfl dX11_of_20 rfl ?_
  refine a_lstore (lv' := [(4, .long (f_so C T)), (3, .ref (g_ad G (38 + o))), (0, .ref (g_ad G 0)), (1, .int (nI j)), (2, .int 3)]) 25 rfl dX11_of_23 (by decide) rfl ?_
  refine a_iload_n 4 26 rfl dX11_of_25 rfl rfl ?_
  refine a_tableIn (off := 58) 84 dX11_of_26 (by decide) (by decide) (by decide) (by decide) ?_
  refine a_aload_n 2 85 rfl dX11_of_84 rfl rfl ?_
  refine a_get 0 cl_10 f_RX11_12_10 (by decide) (rfl) rfl 88 rfl dX11_of_85 ?_
  refine a_lload 0 90 rfl dX11_of_88 rfl ?_
  refine a_callVN (as := [.long (f_so C T)]) (rest := []) (st2 := [.long (f_shadow (f_so C T) (C.1 0))]) (u1 := 0) (v1 := 0) (u2 := 0) (v2 := 0) (r_X3_shadowOf (n := C.1 0) rfl hn) (⟨_, _, _, _, rfl, rfl⟩) oX3_shadowOf q_503 q_505 q_18 rfl (by omega) (by decide) rfl (Nat.le_of_ble_eq_true rfl) 93 rfl dX11_of_90 rfl ?_
  refine a_callS (as := [.long (f_shadow (f_so C T) (C.1 0))]) (rest := []) (st2 := [.int (f_bcL (f_shadow (f_so C T) (C.1 0)))]) (u1 := 0) (v1 := 0) (u2 := 0) (v2 := 0) (f_bit) oJ13_bitCount_95d88 q_521 q_522 rfl (by omega) (by decide) rfl (Nat.le_of_ble_eq_true rfl) 96 rfl dX11_of_93 rfl ?_
  exact a_ireturn .int rfl rfl (rfl) (rfl) dX11_of_96

theorem r_X11_of4 (hf : f_is G C tl j o T) (hn : C.1 0 ≤ 6) : g_Run G mX11_of 5 0 0 [.ref (g_ad G 0), .int (nI j), .int 4] (g_hp G C tl) (some (.int (f_bcL (f_upper (f_so C T) (C.1 0))))) (g_hp G C tl) := by
  refine g_Run.of (lv := [(0, .ref (g_ad G 0)), (1, .int (nI j)), (2, .int 4)]) (by decide) (Nat.le_of_ble_eq_true rfl) rfl ?_
  refine a_aload_n 0 1 rfl dX11_of_0 rfl rfl ?_
  refine a_get 2 cl_10 f_RX11_28_10 (by decide) (rfl) rfl 4 rfl dX11_of_1 ?_
  refine a_iload_n 1 5 rfl dX11_of_4 rfl rfl ?_
  refine a_callVN (as := [.int (nI j)]) (rest := []) (st2 := [.ref (g_ad G (38 + o))]) (u1 := 0) (v1 := 0) (u2 := 0) (v2 := 0) (r_at_in hf) (⟨_, _, _, _, rfl, rfl⟩) oX4_at q_446 q_448 q_9 rfl (by omega) (by decide) rfl (Nat.le_of_ble_eq_true rfl) 8 rfl dX11_of_5 rfl ?_
  refine a_astore_n (lv' := [(3, .ref (g_ad G (38 + o))), (0, .ref (g_ad G 0)), (1, .int (nI j)), (2, .int 4)]) 9 rfl dX11_of_8 rfl (by decide) rfl ?_
  refine a_aload_n 0 10 rfl dX11_of_9 rfl rfl ?_
  refine a_ifnonnull 15 dX11_of_10 (by decide) ?_
  refine a_aload_n 1 16 rfl dX11_of_15 rfl rfl ?_
  refine a_get 0 cl_10 f_RX11_12_10 (by decide) (rfl) rfl 19 rfl dX11_of_16 ?_
  refine a_aload_n 0 20 rfl dX11_of_19 rfl rfl ?_
  refine a_callVN (as := [.ref (g_ad G (38 + o))]) (rest := []) (st2 := [.long (f_so C T)]) (u1 := 0) (v1 := 0) (u2 := 0) (v2 := 0) (r_so hf hn) (⟨_, _, _, _, rfl, rfl⟩) oX3_setsOf q_467 q_469 q_13 rfl (by omega) (by decide) rfl (Nat.le_of_ble_eq_true rfl) 23 rfl dX11_of_20 rfl ?_
  refine a_lstore (lv' := [(4, .long (f_so C T)), (3, .ref (g_ad G (38 + o))), (0, .ref (g_ad G 0)), (1, .int (nI j)), (2, .int 4)]) 25 rfl dX11_of_23 (by decide) rfl ?_
  refine a_iload_n 4 26 rfl dX11_of_25 rfl rfl ?_
  refine a_tableIn (off := 71) 97 dX11_of_26 (by decide) (by decide) (by decide) (by decide) ?_
  refine a_aload_n 2 98 rfl dX11_of_97 rfl rfl ?_
  refine a_get 0 cl_10 f_RX11_12_10 (by decide) (rfl) rfl 101 rfl dX11_of_98 ?_
  refine a_lload 0 103 rfl dX11_of_101 rfl ?_
  refine a_callVN (as := [.long (f_so C T)]) (rest := []) (st2 := [.long (f_upper (f_so C T) (C.1 0))]) (u1 := 0) (v1 := 0) (u2 := 0) (v2 := 0) (r_X3_upperShadowOf (n := C.1 0) rfl hn) (⟨_, _, _, _, rfl, rfl⟩) oX3_upperShadowOf q_507 q_509 q_19 rfl (by omega) (by decide) rfl (Nat.le_of_ble_eq_true rfl) 106 rfl dX11_of_103 rfl ?_
  refine a_callS (as := [.long (f_upper (f_so C T) (C.1 0))]) (rest := []) (st2 := [.int (f_bcL (f_upper (f_so C T) (C.1 0)))]) (u1 := 0) (v1 := 0) (u2 := 0) (v2 := 0) (f_bit) oJ13_bitCount_95d88 q_521 q_522 rfl (by omega) (by decide) rfl (Nat.le_of_ble_eq_true rfl) 109 rfl dX11_of_106 rfl ?_
  exact a_ireturn .int rfl rfl (rfl) (rfl) dX11_of_109

theorem r_X11_of5 (hf : f_is G C tl j o T) (hn : C.1 0 ≤ 6) : g_Run G mX11_of 5 0 0 [.ref (g_ad G 0), .int (nI j), .int 5] (g_hp G C tl) (some (.int (f_bcL (f_border (f_so C T) (C.1 0))))) (g_hp G C tl) := by
  refine g_Run.of (lv := [(0, .ref (g_ad G 0)), (1, .int (nI j)), (2, .int 5)]) (by decide) (Nat.le_of_ble_eq_true rfl) rfl ?_
  refine a_aload_n 0 1 rfl dX11_of_0 rfl rfl ?_
  refine a_get 2 cl_10 f_RX11_28_10 (by decide) (rfl) rfl 4 rfl dX11_of_1 ?_
  refine a_iload_n 1 5 rfl dX11_of_4 rfl rfl ?_
  refine a_callVN (as := [.int (nI j)]) (rest := []) (st2 := [.ref (g_ad G (38 + o))]) (u1 := 0) (v1 := 0) (u2 := 0) (v2 := 0) (r_at_in hf) (⟨_, _, _, _, rfl, rfl⟩) oX4_at q_446 q_448 q_9 rfl (by omega) (by decide) rfl (Nat.le_of_ble_eq_true rfl) 8 rfl dX11_of_5 rfl ?_
  refine a_astore_n (lv' := [(3, .ref (g_ad G (38 + o))), (0, .ref (g_ad G 0)), (1, .int (nI j)), (2, .int 5)]) 9 rfl dX11_of_8 rfl (by decide) rfl ?_
  refine a_aload_n 0 10 rfl dX11_of_9 rfl rfl ?_
  refine a_ifnonnull 15 dX11_of_10 (by decide) ?_
  refine a_aload_n 1 16 rfl dX11_of_15 rfl rfl ?_
  refine a_get 0 cl_10 f_RX11_12_10 (by decide) (rfl) rfl 19 rfl dX11_of_16 ?_
  refine a_aload_n 0 20 rfl dX11_of_19 rfl rfl ?_
  refine a_callVN (as := [.ref (g_ad G (38 + o))]) (rest := []) (st2 := [.long (f_so C T)]) (u1 := 0) (v1 := 0) (u2 := 0) (v2 := 0) (r_so hf hn) (⟨_, _, _, _, rfl, rfl⟩) oX3_setsOf q_467 q_469 q_13 rfl (by omega) (by decide) rfl (Nat.le_of_ble_eq_true rfl) 23 rfl dX11_of_20 rfl ?_
  refine a_lstore (lv' := [(4, .long (f_so C T)), (3, .ref (g_ad G (38 + o))), (0, .ref (g_ad G 0)), (1, .int (nI j)), (2, .int 5)]) 25 rfl dX11_of_23 (by decide) rfl ?_
  refine a_iload_n 4 26 rfl dX11_of_25 rfl rfl ?_
  refine a_tableIn (off := 84) 110 dX11_of_26 (by decide) (by decide) (by decide) (by decide) ?_
  refine a_aload_n 2 111 rfl dX11_of_110 rfl rfl ?_
  refine a_get 0 cl_10 f_RX11_12_10 (by decide) (rfl) rfl 114 rfl dX11_of_111 ?_
  refine a_lload 0 116 rfl dX11_of_114 rfl ?_
  refine a_callVN (as := [.long (f_so C T)]) (rest := []) (st2 := [.long (f_border (f_so C T) (C.1 0))]) (u1 := 0) (v1 := 0) (u2 := 0) (v2 := 0) (r_X3_borderOf (n := C.1 0) rfl hn) (⟨_, _, _, _, rfl, rfl⟩) oX3_borderOf q_511 q_513 q_20 rfl (by omega) (by decide) rfl (Nat.le_of_ble_eq_true rfl) 119 rfl dX11_of_116 rfl ?_
  refine a_callS (as := [.long (f_border (f_so C T) (C.1 0))]) (rest := []) (st2 := [.int (f_bcL (f_border (f_so C T) (C.1 0)))]) (u1 := 0) (v1 := 0) (u2 := 0) (v2 := 0) (f_bit) oJ13_bitCount_95d88 q_521 q_522 rfl (by omega) (by decide) rfl (Nat.le_of_ble_eq_true rfl) 122 rfl dX11_of_119 rfl ?_
  exact a_ireturn .int rfl rfl (rfl) (rfl) dX11_of_122

theorem r_X11_of6 (hf : f_is G C tl j o T) (hn : C.1 0 ≤ 6) : g_Run G mX11_of 5 0 0 [.ref (g_ad G 0), .int (nI j), .int 6] (g_hp G C tl) (some (.int (f_edges (f_so C T) (C.1 0) (C.1 0)))) (g_hp G C tl) := by
  refine g_Run.of (lv := [(0, .ref (g_ad G 0)), (1, .int (nI j)), (2, .int 6)]) (by decide) (Nat.le_of_ble_eq_true rfl) rfl ?_
  refine a_aload_n 0 1 rfl dX11_of_0 rfl rfl ?_
  refine a_get 2 cl_10 f_RX11_28_10 (by decide) (rfl) rfl 4 rfl dX11_of_1 ?_
  refine a_iload_n 1 5 rfl dX11_of_4 rfl rfl ?_
  refine a_callVN (as := [.int (nI j)]) (rest := []) (st2 := [.ref (g_ad G (38 + o))]) (u1 := 0) (v1 := 0) (u2 := 0) (v2 := 0) (r_at_in hf) (⟨_, _, _, _, rfl, rfl⟩) oX4_at q_446 q_448 q_9 rfl (by omega) (by decide) rfl (Nat.le_of_ble_eq_true rfl) 8 rfl dX11_of_5 rfl ?_
  refine a_astore_n (lv' := [(3, .ref (g_ad G (38 + o))), (0, .ref (g_ad G 0)), (1, .int (nI j)), (2, .int 6)]) 9 rfl dX11_of_8 rfl (by decide) rfl ?_
  refine a_aload_n 0 10 rfl dX11_of_9 rfl rfl ?_
  refine a_ifnonnull 15 dX11_of_10 (by decide) ?_
  refine a_aload_n 1 16 rfl dX11_of_15 rfl rfl ?_
  refine a_get 0 cl_10 f_RX11_12_10 (by decide) (rfl) rfl 19 rfl dX11_of_16 ?_
  refine a_aload_n 0 20 rfl dX11_of_19 rfl rfl ?_
  refine a_callVN (as := [.ref (g_ad G (38 + o))]) (rest := []) (st2 := [.long (f_so C T)]) (u1 := 0) (v1 := 0) (u2 := 0) (v2 := 0) (r_so hf hn) (⟨_, _, _, _, rfl, rfl⟩) oX3_setsOf q_467 q_469 q_13 rfl (by omega) (by decide) rfl (Nat.le_of_ble_eq_true rfl) 23 rfl dX11_of_20 rfl ?_
  refine a_lstore (lv' := [(4, .long (f_so C T)), (3, .ref (g_ad G (38 + o))), (0, .ref (g_ad G 0)), (1, .int (nI j)), (2, .int 6)]) 25 rfl dX11_of_23 (by decide) rfl ?_
  refine a_iload_n 4 26 rfl dX11_of_25 rfl rfl ?_
  refine a_tableIn (off := 97) 123 dX11_of_26 (by decide) (by decide) (by decide) (by decide) ?_
  refine a_aload_n 2 124 rfl dX11_of_123 rfl rfl ?_
  refine a_get 0 cl_10 f_RX11_12_10 (by decide) (rfl) rfl 127 rfl dX11_of_124 ?_
  refine a_lload 0 129 rfl dX11_of_127 rfl ?_
  refine a_callVN (as := [.long (f_so C T)]) (rest := []) (st2 := [.int (f_edges (f_so C T) (C.1 0) (C.1 0))]) (u1 := 0) (v1 := 0) (u2 := 0) (v2 := 0) (r_X3_edgesOf (n := C.1 0) rfl hn) (⟨_, _, _, _, rfl, rfl⟩) oX3_edgesOf q_527 q_529 q_21 rfl (by omega) (by decide) rfl (Nat.le_of_ble_eq_true rfl) 132 rfl dX11_of_129 rfl ?_
  exact a_ireturn .int rfl rfl (rfl) (rfl) dX11_of_132
theorem r_X11_of_out (hf : f_is G C tl j o T) (hn : C.1 0 ≤ 6) (hy : y.toInt < 0 ∨ 6 < y.toInt) : g_Run G mX11_of 5 0 0 [.ref (g_ad G 0), .int (nI j), .int y] (g_hp G C tl) (some (.int (-1))) (g_hp G C tl) := by
  refine g_Run.of (lv := [(0, .ref (g_ad G 0)), (1, .int (nI j)), (2, .int y)]) (by decide) (Nat.le_of_ble_eq_true rfl) rfl ?_
  refine a_aload_n 0 1 rfl dX11_of_0 rfl rfl ?_
  refine a_get 2 cl_10 f_RX11_28_10 (by decide) (rfl) rfl 4 rfl dX11_of_1 ?_
  refine a_iload_n 1 5 rfl dX11_of_4 rfl rfl ?_
  refine a_callVN (as := [.int (nI j)]) (rest := []) (st2 := [.ref (g_ad G (38 + o))]) (u1 := 0) (v1 := 0) (u2 := 0) (v2 := 0) (r_at_in hf) (⟨_, _, _, _, rfl, rfl⟩) oX4_at q_446 q_448 q_9 rfl (by omega) (by decide) rfl (Nat.le_of_ble_eq_true rfl) 8 rfl dX11_of_5 rfl ?_
  refine a_astore_n (lv' := [(3, .ref (g_ad G (38 + o))), (0, .ref (g_ad G 0)), (1, .int (nI j)), (2, .int y)]) 9 rfl dX11_of_8 rfl (by decide) rfl ?_
  refine a_aload_n 0 10 rfl dX11_of_9 rfl rfl ?_
  refine a_ifnonnull 15 dX11_of_10 (by decide) ?_
  refine a_aload_n 1 16 rfl dX11_of_15 rfl rfl ?_
  refine a_get 0 cl_10 f_RX11_12_10 (by decide) (rfl) rfl 19 rfl dX11_of_16 ?_
  refine a_aload_n 0 20 rfl dX11_of_19 rfl rfl ?_
  refine a_callVN (as := [.ref (g_ad G (38 + o))]) (rest := []) (st2 := [.long (f_so C T)]) (u1 := 0) (v1 := 0) (u2 := 0) (v2 := 0) (r_so hf hn) (⟨_, _, _, _, rfl, rfl⟩) oX3_setsOf q_467 q_469 q_13 rfl (by omega) (by decide) rfl (Nat.le_of_ble_eq_true rfl) 23 rfl dX11_of_20 rfl ?_
  refine a_lstore (lv' := [(4, .long (f_so C T)), (3, .ref (g_ad G (38 + o))), (0, .ref (g_ad G 0)), (1, .int (nI j)), (2, .int y)]) 25 rfl dX11_of_23 (by decide) rfl ?_
  refine a_iload_n 4 26 rfl dX11_of_25 rfl rfl ?_
  refine a_tableOut 133 dX11_of_26 (hy) (by decide) ?_
  refine a_iconst (x := (-1)) 134 rfl dX11_of_133 (by decide) ?_
  exact a_ireturn .int rfl rfl (rfl) (rfl) dX11_of_134
theorem r_yes {h : List va_E} {P : Prop} [Decidable P] : g_Run G mX11_yesOrNo 1 0 0 [.int (if P then 1 else 0)] h (some (.int (if P then 1 else 0))) h := by
  refine g_Run.of (lv := [(0, .int (if P then 1 else 0))]) (by decide) (Nat.le_of_ble_eq_true rfl) rfl ?_
  by_cases hP : P
  · skip
    refine a_iload_n 0 1 rfl dX11_yesOrNo_0 rfl rfl ?_
    refine a_if_eq 8 4 rfl dX11_yesOrNo_1 (by decide) (fun hc => absurd hc ((by rw [if_pos hP]; decide))) (fun _ => ?_)
    refine a_iconst (x := 1) 5 rfl dX11_yesOrNo_4 (by decide) ?_
    refine a_goto 9 dX11_yesOrNo_5 (by decide) ?_
    exact a_ireturn .int rfl rfl ((by rw [if_pos hP])) (rfl) dX11_yesOrNo_9
  · skip
    refine a_iload_n 0 1 rfl dX11_yesOrNo_0 rfl rfl ?_
    refine a_if_eq 8 4 rfl dX11_yesOrNo_1 (by decide) (fun _ => ?_) (fun hc => absurd ((by rw [if_neg hP])) hc)
    refine a_iconst (x := 0) 9 rfl dX11_yesOrNo_8 (by decide) ?_
    exact a_ireturn .int rfl rfl ((by rw [if_neg hP])) (rfl) dX11_yesOrNo_9
theorem r_yes1 {h : List va_E} : g_Run G mX11_yesOrNo 1 0 0 [.int 1] h (some (.int 1)) h := by
  refine g_Run.of (lv := [(0, .int 1)]) (by decide) (Nat.le_of_ble_eq_true rfl) rfl ?_
  refine a_iload_n 0 1 rfl dX11_yesOrNo_0 rfl rfl ?_
  refine a_if_eq 8 4 rfl dX11_yesOrNo_1 (by decide) (fun hc => absurd hc ((by decide))) (fun _ => ?_)
  refine a_iconst (x := 1) 5 rfl dX11_yesOrNo_4 (by decide) ?_
  refine a_goto 9 dX11_yesOrNo_5 (by decide) ?_
  exact a_ireturn .int rfl rfl (rfl) (rfl) dX11_yesOrNo_9
theorem r_yes0 {h : List va_E} : g_Run G mX11_yesOrNo 1 0 0 [.int 0] h (some (.int 0)) h := by
  refine g_Run.of (lv := [(0, .int 0)]) (by decide) (Nat.le_of_ble_eq_true rfl) rfl ?_
  refine a_iload_n 0 1 rfl dX11_yesOrNo_0 rfl rfl ?_
  refine a_if_eq 8 4 rfl dX11_yesOrNo_1 (by decide) (fun _ => ?_) (fun hc => absurd (rfl) hc)
  refine a_iconst (x := 0) 9 rfl dX11_yesOrNo_8 (by decide) ?_
  exact a_ireturn .int rfl rfl (rfl) (rfl) dX11_yesOrNo_9
theorem r_X11_is0 (hf : f_is G C tl j o T) (hn : C.1 0 ≤ 6) : g_Run G mX11_is 5 0 0 [.ref (g_ad G 0), .int (nI j), .int 0] (g_hp G C tl) (some (.int (if f_parts (f_shadow (f_so C T) (C.1 0)) (C.1 0) &&& f_so C T = 0 then 1 else 0))) (g_hp G C tl) := by
  refine g_Run.of (lv := [(0, .ref (g_ad G 0)), (1, .int (nI j)), (2, .int 0)]) (by decide) (Nat.le_of_ble_eq_true rfl) rfl ?_
  refine a_aload_n 0 1 rfl dX11_is_0 rfl rfl ?_
  refine a_get 2 cl_10 f_RX11_28_10 (by decide) (rfl) rfl 4 rfl dX11_is_1 ?_
  refine a_iload_n 1 5 rfl dX11_is_4 rfl rfl ?_
  refine a_callVN (as := [.int (nI j)]) (rest := []) (st2 := [.ref (g_ad G (38 + o))]) (u1 := 0) (v1 := 0) (u2 := 0) (v2 := 0) (r_at_in hf) (⟨_, _, _, _, rfl, rfl⟩) oX4_at q_446 q_448 q_9 rfl (by omega) (by decide) rfl (Nat.le_of_ble_eq_true rfl) 8 rfl dX11_is_5 rfl ?_
  refine a_astore_n (lv' := [(3, .ref (g_ad G (38 + o))), (0, .ref (g_ad G 0)), (1, .int (nI j)), (2, .int 0)]) 9 rfl dX11_is_8 rfl (by decide) rfl ?_
  refine a_aload_n 0 10 rfl dX11_is_9 rfl rfl ?_
  refine a_ifnonnull 15 dX11_is_10 (by decide) ?_
  refine a_aload_n 1 16 rfl dX11_is_15 rfl rfl ?_
  refine a_get 0 cl_10 f_RX11_12_10 (by decide) (rfl) rfl 19 rfl dX11_is_16 ?_
  refine a_aload_n 0 20 rfl dX11_is_19 rfl rfl ?_
  refine a_callVN (as := [.ref (g_ad G (38 + o))]) (rest := []) (st2 := [.long (f_so C T)]) (u1 := 0) (v1 := 0) (u2 := 0) (v2 := 0) (r_so hf hn) (⟨_, _, _, _, rfl, rfl⟩) oX3_setsOf q_467 q_469 q_13 rfl (by omega) (by decide) rfl (Nat.le_of_ble_eq_true rfl) 23 rfl dX11_is_20 rfl ?_
  refine a_lstore (lv' := [(4, .long (f_so C T)), (3, .ref (g_ad G (38 + o))), (0, .ref (g_ad G 0)), (1, .int (nI j)), (2, .int 0)]) 25 rfl dX11_is_23 (by decide) rfl ?_
  refine a_iload_n 4 26 rfl dX11_is_25 rfl rfl ?_
  refine a_tableIn (off := 30) 56 dX11_is_26 (by decide) (by decide) (by decide) (by decide) ?_
  refine a_aload_n 2 57 rfl dX11_is_56 rfl rfl ?_
  refine a_get 0 cl_10 f_RX11_12_10 (by decide) (rfl) rfl 60 rfl dX11_is_57 ?_
  refine a_lload 0 62 rfl dX11_is_60 rfl ?_
  refine a_callVN (as := [.long (f_so C T)]) (rest := []) (st2 := [.int (if f_parts (f_shadow (f_so C T) (C.1 0)) (C.1 0) &&& f_so C T = 0 then 1 else 0)]) (u1 := 0) (v1 := 0) (u2 := 0) (v2 := 0) (r_X3_isAntichain (n := C.1 0) rfl hn) (⟨_, _, _, _, rfl, rfl⟩) oX3_isAntichain q_536 q_538 q_22 rfl (by omega) (by decide) rfl (Nat.le_of_ble_eq_true rfl) 65 rfl dX11_is_62 rfl ?_
  refine a_callS (as := [.int (if f_parts (f_shadow (f_so C T) (C.1 0)) (C.1 0) &&& f_so C T = 0 then 1 else 0)]) (rest := []) (st2 := [.int (if f_parts (f_shadow (f_so C T) (C.1 0)) (C.1 0) &&& f_so C T = 0 then 1 else 0)]) (u1 := 0) (v1 := 0) (u2 := 0) (v2 := 0) (r_yes) oX11_yesOrNo q_540 q_541 rfl (by omega) (by decide) rfl (Nat.le_of_ble_eq_true rfl) 68 rfl dX11_is_65 rfl ?_
  exact a_ireturn .int rfl rfl (rfl) (rfl) dX11_is_68

theorem r_X11_is1 (hf : f_is G C tl j o T) (hn : C.1 0 ≤ 6) : g_Run G mX11_is 5 0 0 [.ref (g_ad G 0), .int (nI j), .int 1] (g_hp G C tl) (some (.int (if f_parts (f_turned (f_so C T) (C.1 0)) (C.1 0) &&& f_so C T = 0 then 1 else 0))) (g_hp G C tl) := by
  refine g_Run.of (lv := [(0, .ref (g_ad G 0)), (1, .int (nI j)), (2, .int 1)]) (by decide) (Nat.le_of_ble_eq_true rfl) rfl ?_
  refine a_aload_n 0 1 rfl dX11_is_0 rfl rfl ?_
  refine a_get 2 cl_10 f_RX11_28_10 (by decide) (rfl) rfl 4 rfl dX11_is_1 ?_
  refine a_iload_n 1 5 rfl dX11_is_4 rfl rfl ?_
  refine a_callVN (as := [.int (nI j)]) (rest := []) (st2 := [.ref (g_ad G (38 + o))]) (u1 := 0) (v1 := 0) (u2 := 0) (v2 := 0) (r_at_in hf) (⟨_, _, _, _, rfl, rfl⟩) oX4_at q_446 q_448 q_9 rfl (by omega) (by decide) rfl (Nat.le_of_ble_eq_true rfl) 8 rfl dX11_is_5 rfl ?_
  refine a_astore_n (lv' := [(3, .ref (g_ad G (38 + o))), (0, .ref (g_ad G 0)), (1, .int (nI j)), (2, .int 1)]) 9 rfl dX11_is_8 rfl (by decide) rfl ?_
  refine a_aload_n 0 10 rfl dX11_is_9 rfl rfl ?_
  refine a_ifnonnull 15 dX11_is_10 (by decide) ?_
  refine a_aload_n 1 16 rfl dX11_is_15 rfl rfl ?_
  refine a_get 0 cl_10 f_RX11_12_10 (by decide) (rfl) rfl 19 rfl dX11_is_16 ?_
  refine a_aload_n 0 20 rfl dX11_is_19 rfl rfl ?_
  refine a_callVN (as := [.ref (g_ad G (38 + o))]) (rest := []) (st2 := [.long (f_so C T)]) (u1 := 0) (v1 := 0) (u2 := 0) (v2 := 0) (r_so hf hn) (⟨_, _, _, _, rfl, rfl⟩) oX3_setsOf q_467 q_469 q_13 rfl (by omega) (by decide) rfl (Nat.le_of_ble_eq_true rfl) 23 rfl dX11_is_20 rfl ?_
  refine a_lstore (lv' := [(4, .long (f_so C T)), (3, .ref (g_ad G (38 + o))), (0, .ref (g_ad G 0)), (1, .int (nI j)), (2, .int 1)]) 25 rfl dX11_is_23 (by decide) rfl ?_
  refine a_iload_n 4 26 rfl dX11_is_25 rfl rfl ?_
  refine a_tableIn (off := 43) 69 dX11_is_26 (by decide) (by decide) (by decide) (by decide) ?_
  refine a_aload_n 2 70 rfl dX11_is_69 rfl rfl ?_
  refine a_get 0 cl_10 f_RX11_12_10 (by decide) (rfl) rfl 73 rfl dX11_is_70 ?_
  refine a_lload 0 75 rfl dX11_is_73 rfl ?_
  refine a_callVN (as := [.long (f_so C T)]) (rest := []) (st2 := [.int (if f_parts (f_turned (f_so C T) (C.1 0)) (C.1 0) &&& f_so C T = 0 then 1 else 0)]) (u1 := 0) (v1 := 0) (u2 := 0) (v2 := 0) (r_X3_isIntersecting (n := C.1 0) rfl hn) (⟨_, _, _, _, rfl, rfl⟩) oX3_isIntersecting q_543 q_545 q_23 rfl (by omega) (by decide) rfl (Nat.le_of_ble_eq_true rfl) 78 rfl dX11_is_75 rfl ?_
  refine a_callS (as := [.int (if f_parts (f_turned (f_so C T) (C.1 0)) (C.1 0) &&& f_so C T = 0 then 1 else 0)]) (rest := []) (st2 := [.int (if f_parts (f_turned (f_so C T) (C.1 0)) (C.1 0) &&& f_so C T = 0 then 1 else 0)]) (u1 := 0) (v1 := 0) (u2 := 0) (v2 := 0) (r_yes) oX11_yesOrNo q_540 q_541 rfl (by omega) (by decide) rfl (Nat.le_of_ble_eq_true rfl) 81 rfl dX11_is_78 rfl ?_
  exact a_ireturn .int rfl rfl (rfl) (rfl) dX11_is_81

theorem r_X11_is2 (hf : f_is G C tl j o T) (hn0 : 0 < C.1 0) (hn : C.1 0 ≤ 6) : g_Run G mX11_is 5 0 0 [.ref (g_ad G 0), .int (nI j), .int 2] (g_hp G C tl) (some (.int (if f_parts (f_so C T) (C.1 0) = f_so C T then 1 else 0))) (g_hp G C tl) := by
  refine g_Run.of (lv := [(0, .ref (g_ad G 0)), (1, .int (nI j)), (2, .int 2)]) (by decide) (Nat.le_of_ble_eq_true rfl) rfl ?_
  refine a_aload_n 0 1 rfl dX11_is_0 rfl rfl ?_
  refine a_get 2 cl_10 f_RX11_28_10 (by decide) (rfl) rfl 4 rfl dX11_is_1 ?_
  refine a_iload_n 1 5 rfl dX11_is_4 rfl rfl ?_
  refine a_callVN (as := [.int (nI j)]) (rest := []) (st2 := [.ref (g_ad G (38 + o))]) (u1 := 0) (v1 := 0) (u2 := 0) (v2 := 0) (r_at_in hf) (⟨_, _, _, _, rfl, rfl⟩) oX4_at q_446 q_448 q_9 rfl (by omega) (by decide) rfl (Nat.le_of_ble_eq_true rfl) 8 rfl dX11_is_5 rfl ?_
  refine a_astore_n (lv' := [(3, .ref (g_ad G (38 + o))), (0, .ref (g_ad G 0)), (1, .int (nI j)), (2, .int 2)]) 9 rfl dX11_is_8 rfl (by decide) rfl ?_
  refine a_aload_n 0 10 rfl dX11_is_9 rfl rfl ?_
  refine a_ifnonnull 15 dX11_is_10 (by decide) ?_
  refine a_aload_n 1 16 rfl dX11_is_15 rfl rfl ?_
  refine a_get 0 cl_10 f_RX11_12_10 (by decide) (rfl) rfl 19 rfl dX11_is_16 ?_
  refine a_aload_n 0 20 rfl dX11_is_19 rfl rfl ?_
  refine a_callVN (as := [.ref (g_ad G (38 + o))]) (rest := []) (st2 := [.long (f_so C T)]) (u1 := 0) (v1 := 0) (u2 := 0) (v2 := 0) (r_so hf hn) (⟨_, _, _, _, rfl, rfl⟩) oX3_setsOf q_467 q_469 q_13 rfl (by omega) (by decide) rfl (Nat.le_of_ble_eq_true rfl) 23 rfl dX11_is_20 rfl ?_
  refine a_lstore (lv' := [(4, .long (f_so C T)), (3, .ref (g_ad G (38 + o))), (0, .ref (g_ad G 0)), (1, .int (nI j)), (2, .int 2)]) 25 rfl dX11_is_23 (by decide) rfl ?_
  refine a_iload_n 4 26 rfl dX11_is_25 rfl rfl ?_
  refine a_tableIn (off := 56) 82 dX11_is_26 (by decide) (by decide) (by decide) (by decide) ?_
  refine a_aload_n 2 83 rfl dX11_is_82 rfl rfl ?_
  refine a_get 0 cl_10 f_RX11_12_10 (by decide) (rfl) rfl 86 rfl dX11_is_83 ?_
  refine a_lload 0 88 rfl dX11_is_86 rfl ?_
  refine a_callVN (as := [.long (f_so C T)]) (rest := []) (st2 := [.long (f_parts (f_so C T) (C.1 0))]) (u1 := 0) (v1 := 0) (u2 := 0) (v2 := 0) (r_X3_withParts (n := C.1 0) rfl hn) (⟨_, _, _, _, rfl, rfl⟩) oX3_withParts q_547 q_497 q_16 rfl (by omega) (by decide) rfl (Nat.le_of_ble_eq_true rfl) 91 rfl dX11_is_88 rfl ?_
  refine a_lload 0 93 rfl dX11_is_91 rfl ?_
  refine a_lcmp 94 rfl dX11_is_93 ?_
  by_cases e9 : f_parts (f_so C T) (C.1 0) = f_so C T
  · skip
    refine a_if_ne 101 97 rfl dX11_is_94 (by decide) (fun hc => absurd ((g_cmp_eq.mpr e9)) hc) (fun _ => ?_)
    refine a_iconst (x := 1) 98 rfl dX11_is_97 (by decide) ?_
    refine a_goto 102 dX11_is_98 (by decide) ?_
    refine a_callS (as := [.int 1]) (rest := []) (st2 := [.int 1]) (u1 := 0) (v1 := 0) (u2 := 0) (v2 := 0) (r_yes1) oX11_yesOrNo q_540 q_541 rfl (by omega) (by decide) rfl (Nat.le_of_ble_eq_true rfl) 105 rfl dX11_is_102 rfl ?_
    exact a_ireturn .int rfl rfl ((by rw [if_pos e9])) (rfl) dX11_is_105
  · skip
    refine a_if_ne 101 97 rfl dX11_is_94 (by decide) (fun _ => ?_) (fun hc => absurd hc ((g_cmp_ne.mpr e9)))
    refine a_iconst (x := 0) 102 rfl dX11_is_101 (by decide) ?_
    refine a_callS (as := [.int 0]) (rest := []) (st2 := [.int 0]) (u1 := 0) (v1 := 0) (u2 := 0) (v2 := 0) (r_yes0) oX11_yesOrNo q_540 q_541 rfl (by omega) (by decide) rfl (Nat.le_of_ble_eq_true rfl) 105 rfl dX11_is_102 rfl ?_
    exact a_ireturn .int rfl rfl ((by rw [if_neg e9])) (rfl) dX11_is_105

theorem r_X11_is3 (hf : f_is G C tl j o T) (hn0 : 0 < C.1 0) (hn : C.1 0 ≤ 6) : g_Run G mX11_is 5 0 0 [.ref (g_ad G 0), .int (nI j), .int 3] (g_hp G C tl) (some (.int (if f_pressAll (f_so C T) (C.1 0) = f_so C T then 1 else 0))) (g_hp G C tl) := by
  refine g_Run.of (lv := [(0, .ref (g_ad G 0)), (1, .int (nI j)), (2, .int 3)]) (by decide) (Nat.le_of_ble_eq_true rfl) rfl ?_
  refine a_aload_n 0 1 rfl dX11_is_0 rfl rfl ?_
  refine a_get 2 cl_10 f_RX11_28_10 (by decide) (rfl) rfl 4 rfl dX11_is_1 ?_
  refine a_iload_n 1 5 rfl dX11_is_4 rfl rfl ?_
  refine a_callVN (as := [.int (nI j)]) (rest := []) (st2 := [.ref (g_ad G (38 + o))]) (u1 := 0) (v1 := 0) (u2 := 0) (v2 := 0) (r_at_in hf) (⟨_, _, _, _, rfl, rfl⟩) oX4_at q_446 q_448 q_9 rfl (by omega) (by decide) rfl (Nat.le_of_ble_eq_true rfl) 8 rfl dX11_is_5 rfl ?_
  refine a_astore_n (lv' := [(3, .ref (g_ad G (38 + o))), (0, .ref (g_ad G 0)), (1, .int (nI j)), (2, .int 3)]) 9 rfl dX11_is_8 rfl (by decide) rfl ?_
  refine a_aload_n 0 10 rfl dX11_is_9 rfl rfl ?_
  refine a_ifnonnull 15 dX11_is_10 (by decide) ?_
  refine a_aload_n 1 16 rfl dX11_is_15 rfl rfl ?_
  refine a_get 0 cl_10 f_RX11_12_10 (by decide) (rfl) rfl 19 rfl dX11_is_16 ?_
  refine a_aload_n 0 20 rfl dX11_is_19 rfl rfl ?_
  refine a_callVN (as := [.ref (g_ad G (38 + o))]) (rest := []) (st2 := [.long (f_so C T)]) (u1 := 0) (v1 := 0) (u2 := 0) (v2 := 0) (r_so hf hn) (⟨_, _, _, _, rfl, rfl⟩) oX3_setsOf q_467 q_469 q_13 rfl (by omega) (by decide) rfl (Nat.le_of_ble_eq_true rfl) 23 rfl dX11_is_20 rfl ?_
  refine a_lstore (lv' := [(4, .long (f_so C T)), (3, .ref (g_ad G (38 + o))), (0, .ref (g_ad G 0)), (1, .int (nI j)), (2, .int 3)]) 25 rfl dX11_is_23 (by decide) rfl ?_
  refine a_iload_n 4 26 rfl dX11_is_25 rfl rfl ?_
  refine a_tableIn (off := 80) 106 dX11_is_26 (by decide) (by decide) (by decide) (by decide) ?_
  refine a_aload_n 2 107 rfl dX11_is_106 rfl rfl ?_
  refine a_get 0 cl_10 f_RX11_12_10 (by decide) (rfl) rfl 110 rfl dX11_is_107 ?_
  refine a_lload 0 112 rfl dX11_is_110 rfl ?_
  refine a_callVN (as := [.long (f_so C T)]) (rest := []) (st2 := [.long (f_pressAll (f_so C T) (C.1 0))]) (u1 := 0) (v1 := 0) (u2 := 0) (v2 := 0) (r_X3_pressedByAll (n := C.1 0) rfl hn0 hn) (⟨_, _, _, _, rfl, rfl⟩) oX3_pressedByAll q_548 q_550 q_24 rfl (by omega) (by decide) rfl (Nat.le_of_ble_eq_true rfl) 115 rfl dX11_is_112 rfl ?_
  refine a_lload 0 117 rfl dX11_is_115 rfl ?_
  refine a_lcmp 118 rfl dX11_is_117 ?_
  by_cases e9 : f_pressAll (f_so C T) (C.1 0) = f_so C T
  · skip
    refine a_if_ne 125 121 rfl dX11_is_118 (by decide) (fun hc => absurd ((g_cmp_eq.mpr e9)) hc) (fun _ => ?_)
    refine a_iconst (x := 1) 122 rfl dX11_is_121 (by decide) ?_
    refine a_goto 126 dX11_is_122 (by decide) ?_
    refine a_callS (as := [.int 1]) (rest := []) (st2 := [.int 1]) (u1 := 0) (v1 := 0) (u2 := 0) (v2 := 0) (r_yes1) oX11_yesOrNo q_540 q_541 rfl (by omega) (by decide) rfl (Nat.le_of_ble_eq_true rfl) 129 rfl dX11_is_126 rfl ?_
    exact a_ireturn .int rfl rfl ((by rw [if_pos e9])) (rfl) dX11_is_129
  · skip
    refine a_if_ne 125 121 rfl dX11_is_118 (by decide) (fun _ => ?_) (fun hc => absurd hc ((g_cmp_ne.mpr e9)))
    refine a_iconst (x := 0) 126 rfl dX11_is_125 (by decide) ?_
    refine a_callS (as := [.int 0]) (rest := []) (st2 := [.int 0]) (u1 := 0) (v1 := 0) (u2 := 0) (v2 := 0) (r_yes0) oX11_yesOrNo q_540 q_541 rfl (by omega) (by decide) rfl (Nat.le_of_ble_eq_true rfl) 129 rfl dX11_is_126 rfl ?_
    exact a_ireturn .int rfl rfl ((by rw [if_neg e9])) (rfl) dX11_is_129

theorem r_X11_is_out (hf : f_is G C tl j o T) (hn : C.1 0 ≤ 6) (hy : y.toInt < 0 ∨ 3 < y.toInt) : g_Run G mX11_is 5 0 0 [.ref (g_ad G 0), .int (nI j), .int y] (g_hp G C tl) (some (.int (-1))) (g_hp G C tl) := by
  refine g_Run.of (lv := [(0, .ref (g_ad G 0)), (1, .int (nI j)), (2, .int y)]) (by decide) (Nat.le_of_ble_eq_true rfl) rfl ?_
  refine a_aload_n 0 1 rfl dX11_is_0 rfl rfl ?_
  refine a_get 2 cl_10 f_RX11_28_10 (by decide) (rfl) rfl 4 rfl dX11_is_1 ?_
  refine a_iload_n 1 5 rfl dX11_is_4 rfl rfl ?_
  refine a_callVN (as := [.int (nI j)]) (rest := []) (st2 := [.ref (g_ad G (38 + o))]) (u1 := 0) (v1 := 0) (u2 := 0) (v2 := 0) (r_at_in hf) (⟨_, _, _, _, rfl, rfl⟩) oX4_at q_446 q_448 q_9 rfl (by omega) (by decide) rfl (Nat.le_of_ble_eq_true rfl) 8 rfl dX11_is_5 rfl ?_
  refine a_astore_n (lv' := [(3, .ref (g_ad G (38 + o))), (0, .ref (g_ad G 0)), (1, .int (nI j)), (2, .int y)]) 9 rfl dX11_is_8 rfl (by decide) rfl ?_
  refine a_aload_n 0 10 rfl dX11_is_9 rfl rfl ?_
  refine a_ifnonnull 15 dX11_is_10 (by decide) ?_
  refine a_aload_n 1 16 rfl dX11_is_15 rfl rfl ?_
  refine a_get 0 cl_10 f_RX11_12_10 (by decide) (rfl) rfl 19 rfl dX11_is_16 ?_
  refine a_aload_n 0 20 rfl dX11_is_19 rfl rfl ?_
  refine a_callVN (as := [.ref (g_ad G (38 + o))]) (rest := []) (st2 := [.long (f_so C T)]) (u1 := 0) (v1 := 0) (u2 := 0) (v2 := 0) (r_so hf hn) (⟨_, _, _, _, rfl, rfl⟩) oX3_setsOf q_467 q_469 q_13 rfl (by omega) (by decide) rfl (Nat.le_of_ble_eq_true rfl) 23 rfl dX11_is_20 rfl ?_
  refine a_lstore (lv' := [(4, .long (f_so C T)), (3, .ref (g_ad G (38 + o))), (0, .ref (g_ad G 0)), (1, .int (nI j)), (2, .int y)]) 25 rfl dX11_is_23 (by decide) rfl ?_
  refine a_iload_n 4 26 rfl dX11_is_25 rfl rfl ?_
  refine a_tableOut 130 dX11_is_26 (hy) (by decide) ?_
  refine a_iconst (x := (-1)) 131 rfl dX11_is_130 (by decide) ?_
  exact a_ireturn .int rfl rfl (rfl) (rfl) dX11_is_131
theorem r_X11_profile (hf : f_is G C tl j o T) (hn : C.1 0 ≤ 6) (h0 : ¬ y < 0) (h1 : y ≤ nI (C.1 0)) : g_Run G mX11_profile 5 0 0 [.ref (g_ad G 0), .int (nI j), .int y] (g_hp G C tl) (some (.int (f_bcL (f_so C T &&& f_ofSize y 64)))) (g_hp G C tl) := by
  refine g_Run.of (lv := [(0, .ref (g_ad G 0)), (1, .int (nI j)), (2, .int y)]) (by decide) (Nat.le_of_ble_eq_true rfl) rfl ?_
  refine a_aload_n 0 1 rfl dX11_profile_0 rfl rfl ?_
  refine a_get 2 cl_10 f_RX11_28_10 (by decide) (rfl) rfl 4 rfl dX11_profile_1 ?_
  refine a_iload_n 1 5 rfl dX11_profile_4 rfl rfl ?_
  refine a_callVN (as := [.int (nI j)]) (rest := []) (st2 := [.ref (g_ad G (38 + o))]) (u1 := 0) (v1 := 0) (u2 := 0) (v2 := 0) (r_at_in hf) (⟨_, _, _, _, rfl, rfl⟩) oX4_at q_446 q_448 q_9 rfl (by omega) (by decide) rfl (Nat.le_of_ble_eq_true rfl) 8 rfl dX11_profile_5 rfl ?_
  refine a_astore_n (lv' := [(3, .ref (g_ad G (38 + o))), (0, .ref (g_ad G 0)), (1, .int (nI j)), (2, .int y)]) 9 rfl dX11_profile_8 rfl (by decide) rfl ?_
  refine a_aload_n 0 10 rfl dX11_profile_9 rfl rfl ?_
  refine a_ifnull 13 rfl dX11_profile_10 ?_
  refine a_iload_n 3 14 rfl dX11_profile_13 rfl rfl ?_
  refine a_if_lt 28 17 rfl dX11_profile_14 (by decide) (fun hc => absurd hc (h0)) (fun _ => ?_)
  refine a_iload_n 3 18 rfl dX11_profile_17 rfl rfl ?_
  refine a_aload_n 1 19 rfl dX11_profile_18 rfl rfl ?_
  refine a_get 0 cl_10 f_RX11_12_10 (by decide) (rfl) rfl 22 rfl dX11_profile_19 ?_
  refine a_callVN (as := []) (rest := [.int y]) (st2 := [.int (nI (C.1 0)), .int y]) (u1 := 0) (v1 := 0) (u2 := 0) (v2 := 0) (r_X3_elements rfl) (⟨_, _, _, _, rfl, rfl⟩) oX3_elements q_352 q_354 q_0 rfl (by omega) (by decide) rfl (Nat.le_of_ble_eq_true rfl) 25 rfl dX11_profile_22 rfl ?_
  refine a_icmp_le 30 28 rfl dX11_profile_25 (by decide) (fun _ => ?_) (fun hc => absurd (h1) hc)
  refine a_aload_n 1 31 rfl dX11_profile_30 rfl rfl ?_
  refine a_get 0 cl_10 f_RX11_12_10 (by decide) (rfl) rfl 34 rfl dX11_profile_31 ?_
  refine a_aload_n 1 35 rfl dX11_profile_34 rfl rfl ?_
  refine a_get 0 cl_10 f_RX11_12_10 (by decide) (rfl) rfl 38 rfl dX11_profile_35 ?_
  refine a_aload_n 0 39 rfl dX11_profile_38 rfl rfl ?_
  refine a_callVN (as := [.ref (g_ad G (38 + o))]) (rest := [.ref (g_ad G 1)]) (st2 := [.long (f_so C T), .ref (g_ad G 1)]) (u1 := 0) (v1 := 0) (u2 := 0) (v2 := 0) (r_so hf hn) (⟨_, _, _, _, rfl, rfl⟩) oX3_setsOf q_467 q_469 q_13 rfl (by omega) (by decide) rfl (Nat.le_of_ble_eq_true rfl) 42 rfl dX11_profile_39 rfl ?_
  refine a_iload_n 3 43 rfl dX11_profile_42 rfl rfl ?_
  refine a_callVN (as := [.long (f_so C T), .int y]) (rest := []) (st2 := [.int (f_bcL (f_so C T &&& f_ofSize y 64))]) (u1 := 0) (v1 := 0) (u2 := 0) (v2 := 0) (r_X3_manyOfSize (n := C.1 0) rfl) (⟨_, _, _, _, rfl, rfl⟩) oX3_manyOfSize q_560 q_562 q_26 rfl (by omega) (by decide) rfl (Nat.le_of_ble_eq_true rfl) 46 rfl dX11_profile_43 rfl ?_
  exact a_ireturn .int rfl rfl (rfl) (rfl) dX11_profile_46
theorem r_X11_profile_out (hf : f_is G C tl j o T) (hy : y < 0 ∨ ¬ y ≤ nI (C.1 0)) : g_Run G mX11_profile 5 0 0 [.ref (g_ad G 0), .int (nI j), .int y] (g_hp G C tl) (some (.int (-1))) (g_hp G C tl) := by
  refine g_Run.of (lv := [(0, .ref (g_ad G 0)), (1, .int (nI j)), (2, .int y)]) (by decide) (Nat.le_of_ble_eq_true rfl) rfl ?_
  refine a_aload_n 0 1 rfl dX11_profile_0 rfl rfl ?_
  refine a_get 2 cl_10 f_RX11_28_10 (by decide) (rfl) rfl 4 rfl dX11_profile_1 ?_
  refine a_iload_n 1 5 rfl dX11_profile_4 rfl rfl ?_
  refine a_callVN (as := [.int (nI j)]) (rest := []) (st2 := [.ref (g_ad G (38 + o))]) (u1 := 0) (v1 := 0) (u2 := 0) (v2 := 0) (r_at_in hf) (⟨_, _, _, _, rfl, rfl⟩) oX4_at q_446 q_448 q_9 rfl (by omega) (by decide) rfl (Nat.le_of_ble_eq_true rfl) 8 rfl dX11_profile_5 rfl ?_
  refine a_astore_n (lv' := [(3, .ref (g_ad G (38 + o))), (0, .ref (g_ad G 0)), (1, .int (nI j)), (2, .int y)]) 9 rfl dX11_profile_8 rfl (by decide) rfl ?_
  refine a_aload_n 0 10 rfl dX11_profile_9 rfl rfl ?_
  refine a_ifnull 13 rfl dX11_profile_10 ?_
  refine a_iload_n 3 14 rfl dX11_profile_13 rfl rfl ?_
  refine a_if_lt 28 17 rfl dX11_profile_14 (by decide) (fun c14 => ?_) (fun c14 => ?_)
  refine a_iconst (x := (-1)) 29 rfl dX11_profile_28 (by decide) ?_
  exact a_ireturn .int rfl rfl (rfl) (rfl) dX11_profile_29
  refine a_iload_n 3 18 rfl dX11_profile_17 rfl rfl ?_
  refine a_aload_n 1 19 rfl dX11_profile_18 rfl rfl ?_
  refine a_get 0 cl_10 f_RX11_12_10 (by decide) (rfl) rfl 22 rfl dX11_profile_19 ?_
  refine a_callVN (as := []) (rest := [.int y]) (st2 := [.int (nI (C.1 0)), .int y]) (u1 := 0) (v1 := 0) (u2 := 0) (v2 := 0) (r_X3_elements rfl) (⟨_, _, _, _, rfl, rfl⟩) oX3_elements q_352 q_354 q_0 rfl (by omega) (by decide) rfl (Nat.le_of_ble_eq_true rfl) 25 rfl dX11_profile_22 rfl ?_
  refine a_icmp_le 30 28 rfl dX11_profile_25 (by decide) (fun hc => absurd hc ((hy.resolve_left c14))) (fun _ => ?_)
  refine a_iconst (x := (-1)) 29 rfl dX11_profile_28 (by decide) ?_
  exact a_ireturn .int rfl rfl (rfl) (rfl) dX11_profile_29
theorem r_X11_pressed_bad (hm : C.1 3 ≤ 8) (hi : ¬ vp_in y (C.1 3)) : g_Run G mX11_pressed 5 0 0 [.ref (g_ad G 0), .int y, .int y2, .int y3] (g_hp G C tl) (some (.long (-9223372036854775808))) (g_hp G C tl) := by
  refine g_Run.of (lv := [(0, .ref (g_ad G 0)), (1, .int y), (2, .int y2), (3, .int y3)]) (by decide) (Nat.le_of_ble_eq_true rfl) rfl ?_
  refine a_aload_n 0 1 rfl dX11_pressed_0 rfl rfl ?_
  refine a_get 2 cl_10 f_RX11_28_10 (by decide) (rfl) rfl 4 rfl dX11_pressed_1 ?_
  refine a_iload_n 1 5 rfl dX11_pressed_4 rfl rfl ?_
  refine a_callVN (as := [.int y]) (rest := []) (st2 := [.null]) (u1 := 0) (v1 := 0) (u2 := 0) (v2 := 0) (r_at_out hm hi) (⟨_, _, _, _, rfl, rfl⟩) oX4_at q_446 q_448 q_9 rfl (by omega) (by decide) rfl (Nat.le_of_ble_eq_true rfl) 8 rfl dX11_pressed_5 rfl ?_
  refine a_astoreN (lv' := [(4, .null), (0, .ref (g_ad G 0)), (1, .int y), (2, .int y2), (3, .int y3)]) 10 rfl dX11_pressed_8 (by decide) rfl ?_
  refine a_aloadN 0 12 rfl dX11_pressed_10 rfl ?_
  refine a_ifnullN 35 dX11_pressed_12 (by decide) ?_
  refine a_ldc2 q_466 38 rfl dX11_pressed_35 ?_
  exact a_lreturn rfl (rfl) (rfl) dX11_pressed_38
theorem r_X11_pressed {i9 j9 : Nat} (hf : f_is G C tl j o T) (hn : C.1 0 ≤ 6) (h1 : i9 < j9) (h2 : j9 < C.1 0) : g_Run G mX11_pressed 5 0 0 [.ref (g_ad G 0), .int (nI j), .int (nI i9), .int (nI j9)] (g_hp G C tl) (some (.long (f_pressed (f_so C T) i9 j9))) (g_hp G C tl) := by
  refine g_Run.of (lv := [(0, .ref (g_ad G 0)), (1, .int (nI j)), (2, .int (nI i9)), (3, .int (nI j9))]) (by decide) (Nat.le_of_ble_eq_true rfl) rfl ?_
  refine a_aload_n 0 1 rfl dX11_pressed_0 rfl rfl ?_
  refine a_get 2 cl_10 f_RX11_28_10 (by decide) (rfl) rfl 4 rfl dX11_pressed_1 ?_
  refine a_iload_n 1 5 rfl dX11_pressed_4 rfl rfl ?_
  refine a_callVN (as := [.int (nI j)]) (rest := []) (st2 := [.ref (g_ad G (38 + o))]) (u1 := 0) (v1 := 0) (u2 := 0) (v2 := 0) (r_at_in hf) (⟨_, _, _, _, rfl, rfl⟩) oX4_at q_446 q_448 q_9 rfl (by omega) (by decide) rfl (Nat.le_of_ble_eq_true rfl) 8 rfl dX11_pressed_5 rfl ?_
  refine a_astore (lv' := [(4, .ref (g_ad G (38 + o))), (0, .ref (g_ad G 0)), (1, .int (nI j)), (2, .int (nI i9)), (3, .int (nI j9))]) 10 rfl dX11_pressed_8 (by decide) rfl ?_
  refine a_aload 0 12 rfl dX11_pressed_10 rfl ?_
  refine a_ifnull 15 rfl dX11_pressed_12 ?_
  refine a_iload_n 3 16 rfl dX11_pressed_15 rfl rfl ?_
  refine a_if_lt 35 19 rfl dX11_pressed_16 (by decide) (fun hc => absurd hc (nI_pos (by omega))) (fun _ => ?_)
  refine a_iload_n 3 20 rfl dX11_pressed_19 rfl rfl ?_
  refine a_iload_n 4 21 rfl dX11_pressed_20 rfl rfl ?_
  refine a_icmp_ge 35 24 rfl dX11_pressed_21 (by decide) (fun hc => absurd hc (nI_ge h1 (by omega))) (fun _ => ?_)
  refine a_iload_n 4 25 rfl dX11_pressed_24 rfl rfl ?_
  refine a_aload_n 1 26 rfl dX11_pressed_25 rfl rfl ?_
  refine a_get 0 cl_10 f_RX11_12_10 (by decide) (rfl) rfl 29 rfl dX11_pressed_26 ?_
  refine a_callVN (as := []) (rest := [.int (nI j9)]) (st2 := [.int (nI (C.1 0)), .int (nI j9)]) (u1 := 0) (v1 := 0) (u2 := 0) (v2 := 0) (r_X3_elements rfl) (⟨_, _, _, _, rfl, rfl⟩) oX3_elements q_352 q_354 q_0 rfl (by omega) (by decide) rfl (Nat.le_of_ble_eq_true rfl) 32 rfl dX11_pressed_29 rfl ?_
  refine a_icmp_lt 39 35 rfl dX11_pressed_32 (by decide) (fun _ => ?_) (fun hc => absurd (nI_lt h2 (by omega)) hc)
  refine a_aload_n 1 40 rfl dX11_pressed_39 rfl rfl ?_
  refine a_get 0 cl_10 f_RX11_12_10 (by decide) (rfl) rfl 43 rfl dX11_pressed_40 ?_
  refine a_aload_n 1 44 rfl dX11_pressed_43 rfl rfl ?_
  refine a_get 0 cl_10 f_RX11_12_10 (by decide) (rfl) rfl 47 rfl dX11_pressed_44 ?_
  refine a_aload 0 49 rfl dX11_pressed_47 rfl ?_
  refine a_callVN (as := [.ref (g_ad G (38 + o))]) (rest := [.ref (g_ad G 1)]) (st2 := [.long (f_so C T), .ref (g_ad G 1)]) (u1 := 0) (v1 := 0) (u2 := 0) (v2 := 0) (r_so hf hn) (⟨_, _, _, _, rfl, rfl⟩) oX3_setsOf q_467 q_469 q_13 rfl (by omega) (by decide) rfl (Nat.le_of_ble_eq_true rfl) 52 rfl dX11_pressed_49 rfl ?_
  refine a_iload_n 3 53 rfl dX11_pressed_52 rfl rfl ?_
  refine a_iload_n 4 54 rfl dX11_pressed_53 rfl rfl ?_
  refine a_callVN (as := [.long (f_so C T), .int (nI i9), .int (nI j9)]) (rest := []) (st2 := [.long (f_pressed (f_so C T) i9 j9)]) (u1 := 0) (v1 := 0) (u2 := 0) (v2 := 0) (r_X3_pressedBy (by omega) (by omega)) (⟨_, _, _, _, rfl, rfl⟩) oX3_pressedBy q_568 q_554 q_25 rfl (by omega) (by decide) rfl (Nat.le_of_ble_eq_true rfl) 57 rfl dX11_pressed_54 rfl ?_
  exact a_lreturn rfl (rfl) (rfl) dX11_pressed_57
theorem r_X11_pressed_out (hf : f_is G C tl j o T) (hy : y2 < 0 ∨ y3 ≤ y2 ∨ ¬ y3 < nI (C.1 0)) : g_Run G mX11_pressed 5 0 0 [.ref (g_ad G 0), .int (nI j), .int y2, .int y3] (g_hp G C tl) (some (.long (-9223372036854775808))) (g_hp G C tl) := by
  refine g_Run.of (lv := [(0, .ref (g_ad G 0)), (1, .int (nI j)), (2, .int y2), (3, .int y3)]) (by decide) (Nat.le_of_ble_eq_true rfl) rfl ?_
  refine a_aload_n 0 1 rfl dX11_pressed_0 rfl rfl ?_
  refine a_get 2 cl_10 f_RX11_28_10 (by decide) (rfl) rfl 4 rfl dX11_pressed_1 ?_
  refine a_iload_n 1 5 rfl dX11_pressed_4 rfl rfl ?_
  refine a_callVN (as := [.int (nI j)]) (rest := []) (st2 := [.ref (g_ad G (38 + o))]) (u1 := 0) (v1 := 0) (u2 := 0) (v2 := 0) (r_at_in hf) (⟨_, _, _, _, rfl, rfl⟩) oX4_at q_446 q_448 q_9 rfl (by omega) (by decide) rfl (Nat.le_of_ble_eq_true rfl) 8 rfl dX11_pressed_5 rfl ?_
  refine a_astore (lv' := [(4, .ref (g_ad G (38 + o))), (0, .ref (g_ad G 0)), (1, .int (nI j)), (2, .int y2), (3, .int y3)]) 10 rfl dX11_pressed_8 (by decide) rfl ?_
  refine a_aload 0 12 rfl dX11_pressed_10 rfl ?_
  refine a_ifnull 15 rfl dX11_pressed_12 ?_
  refine a_iload_n 3 16 rfl dX11_pressed_15 rfl rfl ?_
  refine a_if_lt 35 19 rfl dX11_pressed_16 (by decide) (fun c16 => ?_) (fun c16 => ?_)
  refine a_ldc2 q_466 38 rfl dX11_pressed_35 ?_
  exact a_lreturn rfl (rfl) (rfl) dX11_pressed_38
  refine a_iload_n 3 20 rfl dX11_pressed_19 rfl rfl ?_
  refine a_iload_n 4 21 rfl dX11_pressed_20 rfl rfl ?_
  refine a_icmp_ge 35 24 rfl dX11_pressed_21 (by decide) (fun c21 => ?_) (fun c21 => ?_)
  refine a_ldc2 q_466 38 rfl dX11_pressed_35 ?_
  exact a_lreturn rfl (rfl) (rfl) dX11_pressed_38
  refine a_iload_n 4 25 rfl dX11_pressed_24 rfl rfl ?_
  refine a_aload_n 1 26 rfl dX11_pressed_25 rfl rfl ?_
  refine a_get 0 cl_10 f_RX11_12_10 (by decide) (rfl) rfl 29 rfl dX11_pressed_26 ?_
  refine a_callVN (as := []) (rest := [.int y3]) (st2 := [.int (nI (C.1 0)), .int y3]) (u1 := 0) (v1 := 0) (u2 := 0) (v2 := 0) (r_X3_elements rfl) (⟨_, _, _, _, rfl, rfl⟩) oX3_elements q_352 q_354 q_0 rfl (by omega) (by decide) rfl (Nat.le_of_ble_eq_true rfl) 32 rfl dX11_pressed_29 rfl ?_
  refine a_icmp_lt 39 35 rfl dX11_pressed_32 (by decide) (fun hc => absurd hc (((hy.resolve_left c16).resolve_left c21))) (fun _ => ?_)
  refine a_ldc2 q_466 38 rfl dX11_pressed_35 ?_
  exact a_lreturn rfl (rfl) (rfl) dX11_pressed_38
end AS1
