/-! weight: the class's call, the model's call -/
section WG2
variable {G : g_G} {C : f_C} {tl : List va_E} {x : Int64} {y y2 y3 : Int32} {j o : Nat} {T : f_T}
theorem r_X11_weight_bad (hm : C.1 3 ≤ 8) (hi : ¬ vp_in y (C.1 3)) : g_Run G mX11_weight 5 0 0 [.ref (g_ad G 0), .int y] (g_hp G C tl) (some (.long (-9223372036854775808))) (g_hp G C tl) := by
  refine g_Run.of (lv := [(0, .ref (g_ad G 0)), (1, .int y)]) (by decide) (Nat.le_of_ble_eq_true rfl) rfl ?_
  refine a_aload_n 0 1 rfl dX11_weight_0 rfl rfl ?_
  refine a_get 2 cl_10 f_RX11_28_10 (by decide) (rfl) rfl 4 rfl dX11_weight_1 ?_
  refine a_iload_n 1 5 rfl dX11_weight_4 rfl rfl ?_
  refine a_callVN (as := [.int y]) (rest := []) (st2 := [.null]) (u1 := 0) (v1 := 0) (u2 := 0) (v2 := 0) (r_at_out hm hi) (⟨_, _, _, _, rfl, rfl⟩) oX4_at q_446 q_448 q_9 rfl (by omega) (by decide) rfl (Nat.le_of_ble_eq_true rfl) 8 rfl dX11_weight_5 rfl ?_
  refine a_astore_nN (lv' := [(2, .null), (0, .ref (g_ad G 0)), (1, .int y)]) 9 rfl dX11_weight_8 rfl (by decide) rfl ?_
  refine a_aload_nN 0 10 rfl dX11_weight_9 rfl rfl ?_
  refine a_ifnonnullN 13 rfl dX11_weight_10 ?_
  refine a_ldc2 q_466 16 rfl dX11_weight_13 ?_
  refine a_goto 37 dX11_weight_16 (by decide) ?_
  exact a_lreturn rfl (rfl) (rfl) dX11_weight_37
theorem r_X11_weight (hf : f_is G C tl j o T) (hn : C.1 0 ≤ 6) : g_Run G mX11_weight 5 0 0 [.ref (g_ad G 0), .int (nI j)] (g_hp G C tl) (some (.long (lN (f_wt (f_so C T) (C.1 0) (2 ^ C.1 0)).toNat))) (g_hp G C tl) := by
  refine g_Run.of (lv := [(0, .ref (g_ad G 0)), (1, .int (nI j))]) (by decide) (Nat.le_of_ble_eq_true rfl) rfl ?_
  refine a_aload_n 0 1 rfl dX11_weight_0 rfl rfl ?_
  refine a_get 2 cl_10 f_RX11_28_10 (by decide) (rfl) rfl 4 rfl dX11_weight_1 ?_
  refine a_iload_n 1 5 rfl dX11_weight_4 rfl rfl ?_
  refine a_callVN (as := [.int (nI j)]) (rest := []) (st2 := [.ref (g_ad G (38 + o))]) (u1 := 0) (v1 := 0) (u2 := 0) (v2 := 0) (r_at_in hf) (⟨_, _, _, _, rfl, rfl⟩) oX4_at q_446 q_448 q_9 rfl (by omega) (by decide) rfl (Nat.le_of_ble_eq_true rfl) 8 rfl dX11_weight_5 rfl ?_
  refine a_astore_n (lv' := [(2, .ref (g_ad G (38 + o))), (0, .ref (g_ad G 0)), (1, .int (nI j))]) 9 rfl dX11_weight_8 rfl (by decide) rfl ?_
  refine a_aload_n 0 10 rfl dX11_weight_9 rfl rfl ?_
  refine a_ifnonnull 19 dX11_weight_10 (by decide) ?_
  refine a_aload_n 1 20 rfl dX11_weight_19 rfl rfl ?_
  refine a_get 0 cl_10 f_RX11_12_10 (by decide) (rfl) rfl 23 rfl dX11_weight_20 ?_
  refine a_aload_n 1 24 rfl dX11_weight_23 rfl rfl ?_
  refine a_get 0 cl_10 f_RX11_12_10 (by decide) (rfl) rfl 27 rfl dX11_weight_24 ?_
  refine a_aload_n 0 28 rfl dX11_weight_27 rfl rfl ?_
  refine a_callVN (as := [.ref (g_ad G (38 + o))]) (rest := [.ref (g_ad G 1)]) (st2 := [.long (f_so C T), .ref (g_ad G 1)]) (u1 := 0) (v1 := 0) (u2 := 0) (v2 := 0) (r_so hf hn) (⟨_, _, _, _, rfl, rfl⟩) oX3_setsOf q_467 q_469 q_13 rfl (by omega) (by decide) rfl (Nat.le_of_ble_eq_true rfl) 31 rfl dX11_weight_28 rfl ?_
  refine a_callVN (as := [.long (f_so C T)]) (rest := []) (st2 := [.double (f_wt (f_so C T) (C.1 0) (2 ^ C.1 0))]) (u1 := 0) (v1 := 0) (u2 := 0) (v2 := 0) (r_X3_weightOf (n := C.1 0) rfl hn) (⟨_, _, _, _, rfl, rfl⟩) oX3_weightOf q_817 q_819 q_42 rfl (by omega) (by decide) rfl (Nat.le_of_ble_eq_true rfl) 34 rfl dX11_weight_31 rfl ?_
  refine a_callS (as := [.double (f_wt (f_so C T) (C.1 0) (2 ^ C.1 0))]) (rest := []) (st2 := [.long (lN (f_wt (f_so C T) (C.1 0) (2 ^ C.1 0)).toNat)]) (u1 := 0) (v1 := 0) (u2 := 0) (v2 := 0) (r_bodw (n := C.1 0) (s := 2 ^ C.1 0) hn (Nat.le_refl _)) oX11_bitsOfDouble q_823 q_824 rfl (by omega) (by decide) rfl (Nat.le_of_ble_eq_true rfl) 37 rfl dX11_weight_34 rfl ?_
  exact a_lreturn rfl (rfl) (rfl) dX11_weight_37
end WG2
section WG3
variable {G : g_G} {C : f_C} {M : f_M} {ob h : List va_E} {x : Int64} {y y2 y3 : Int32} {i j : Nat} {T : f_T}
theorem r_weightM_out (hm : M.1 1 ≤ 8) (hi : ¬ vp_in y (M.1 1)) : g_Run G mX12_weight 6 0 0 [.ref (g_ad G 38), .int y] (g_hp G C (g_hm G M ++ ob)) (some (.long (-9223372036854775808))) (g_hp G C (g_hm G M ++ ob)) := by
  refine g_Run.of (lv := [(0, .ref (g_ad G 38)), (1, .int y)]) (by decide) (Nat.le_of_ble_eq_true rfl) rfl ?_
  refine a_aload_n 0 1 rfl dX12_weight_0 rfl rfl ?_
  refine a_iload_n 1 2 rfl dX12_weight_1 rfl rfl ?_
  refine a_callV (as := [.int y]) (rest := []) (st2 := [.int 0]) (u1 := 0) (v1 := 0) (u2 := 0) (v2 := 0) (r_isFam_out hm hi) (⟨_, _, _, _, rfl, rfl⟩) oX12_isFamily q_1273 q_1275 q_87 rfl (by omega) (by decide) rfl (Nat.le_of_ble_eq_true rfl) 5 rfl dX12_weight_2 rfl ?_
  refine a_if_ne 12 8 rfl dX12_weight_5 (by decide) (fun hc => absurd (rfl) hc) (fun _ => ?_)
  refine a_ldc2 q_1295 11 rfl dX12_weight_8 ?_
  exact a_lreturn rfl (rfl) (rfl) dX12_weight_11
end WG3
