/-! The class's calls on orders, on what is least, on the grid, on cascades -/
section FI1
variable {G : g_G} {C : f_C} {tl : List va_E} {x z9 : Int64} {y y2 y3 : Int32} {j o : Nat} {T : f_T}
theorem r_X11_least_ref (hn : C.1 0 ≤ 6) (hr : ¬ f_ref2 (C.1 0) y y2 y3 = 0) : g_Run G mX11_least 6 0 0 [.ref (g_ad G 0), .int y, .int y2, .int y3] (g_hp G C tl) (some (.int (f_ref2 (C.1 0) y y2 y3))) (g_hp G C tl) := by
  refine g_Run.of (lv := [(0, .ref (g_ad G 0)), (1, .int y), (2, .int y2), (3, .int y3)]) (by decide) (Nat.le_of_ble_eq_true rfl) rfl ?_
  refine a_aload_n 0 1 rfl dX11_least_0 rfl rfl ?_
  refine a_iload_n 1 2 rfl dX11_least_1 rfl rfl ?_
  refine a_iload_n 2 3 rfl dX11_least_2 rfl rfl ?_
  refine a_iload_n 3 4 rfl dX11_least_3 rfl rfl ?_
  refine a_callV (as := [.int y, .int y2, .int y3]) (rest := []) (st2 := [.int (f_ref2 (C.1 0) y y2 y3)]) (u1 := 0) (v1 := 0) (u2 := 0) (v2 := 0) (r_ref2 hn) (⟨_, _, _, _, rfl, rfl⟩) oX11_refusalOfLeast q_634 q_636 q_29 rfl (by omega) (by decide) rfl (Nat.le_of_ble_eq_true rfl) 7 rfl dX11_least_4 rfl ?_
  refine a_istore (lv' := [(4, .int (f_ref2 (C.1 0) y y2 y3)), (0, .ref (g_ad G 0)), (1, .int y), (2, .int y2), (3, .int y3)]) 9 rfl dX11_least_7 (by decide) rfl ?_
  refine a_iload 0 11 rfl dX11_least_9 rfl ?_
  refine a_if_eq 19 14 rfl dX11_least_11 (by decide) (fun hc => absurd hc (hr)) (fun _ => ?_)
  refine a_iload 0 16 rfl dX11_least_14 rfl ?_
  refine a_goto 42 dX11_least_16 (by decide) ?_
  exact a_ireturn .int rfl rfl (rfl) (rfl) dX11_least_42
theorem r_X11_leastSets_ref (hn : C.1 0 ≤ 6) (hr : ¬ f_ref2 (C.1 0) y y2 y3 = 0) : g_Run G mX11_leastSets 6 0 0 [.ref (g_ad G 0), .int y, .int y2, .int y3] (g_hp G C tl) (some (.long (-9223372036854775808))) (g_hp G C tl) := by
  refine g_Run.of (lv := [(0, .ref (g_ad G 0)), (1, .int y), (2, .int y2), (3, .int y3)]) (by decide) (Nat.le_of_ble_eq_true rfl) rfl ?_
  refine a_aload_n 0 1 rfl dX11_leastSets_0 rfl rfl ?_
  refine a_iload_n 1 2 rfl dX11_leastSets_1 rfl rfl ?_
  refine a_iload_n 2 3 rfl dX11_leastSets_2 rfl rfl ?_
  refine a_iload_n 3 4 rfl dX11_leastSets_3 rfl rfl ?_
  refine a_callV (as := [.int y, .int y2, .int y3]) (rest := []) (st2 := [.int (f_ref2 (C.1 0) y y2 y3)]) (u1 := 0) (v1 := 0) (u2 := 0) (v2 := 0) (r_ref2 hn) (⟨_, _, _, _, rfl, rfl⟩) oX11_refusalOfLeast q_634 q_636 q_29 rfl (by omega) (by decide) rfl (Nat.le_of_ble_eq_true rfl) 7 rfl dX11_leastSets_4 rfl ?_
  refine a_if_eq 16 10 rfl dX11_leastSets_7 (by decide) (fun hc => absurd hc (hr)) (fun _ => ?_)
  refine a_ldc2 q_466 13 rfl dX11_leastSets_10 ?_
  refine a_goto 31 dX11_leastSets_13 (by decide) ?_
  exact a_lreturn rfl (rfl) (rfl) dX11_leastSets_31
theorem r_X11_leastSets0 (hn : C.1 0 ≤ 6) (hr : f_ref2 (C.1 0) 0 y2 y3 = 0) : g_Run G mX11_leastSets 6 0 0 [.ref (g_ad G 0), .int 0, .int y2, .int y3] (g_hp G C tl) (some (.long (f_lo (fun x => f_bcL (f_border x (C.1 0))) y2 (f_am (C.1 0) 0 y3)))) (g_hp G C tl) := by
  refine g_Run.of (lv := [(0, .ref (g_ad G 0)), (1, .int 0), (2, .int y2), (3, .int y3)]) (by decide) (Nat.le_of_ble_eq_true rfl) rfl ?_
  refine a_aload_n 0 1 rfl dX11_leastSets_0 rfl rfl ?_
  refine a_iload_n 1 2 rfl dX11_leastSets_1 rfl rfl ?_
  refine a_iload_n 2 3 rfl dX11_leastSets_2 rfl rfl ?_
  refine a_iload_n 3 4 rfl dX11_leastSets_3 rfl rfl ?_
  refine a_callV (as := [.int 0, .int y2, .int y3]) (rest := []) (st2 := [.int (f_ref2 (C.1 0) 0 y2 y3)]) (u1 := 0) (v1 := 0) (u2 := 0) (v2 := 0) (r_ref2 hn) (⟨_, _, _, _, rfl, rfl⟩) oX11_refusalOfLeast q_634 q_636 q_29 rfl (by omega) (by decide) rfl (Nat.le_of_ble_eq_true rfl) 7 rfl dX11_leastSets_4 rfl ?_
  refine a_if_eq 16 10 rfl dX11_leastSets_7 (by decide) (fun _ => ?_) (fun hc => absurd (hr) hc)
  refine a_aload_n 0 17 rfl dX11_leastSets_16 rfl rfl ?_
  refine a_get 0 cl_10 f_RX11_12_10 (by decide) (rfl) rfl 20 rfl dX11_leastSets_17 ?_
  refine a_iload_n 1 21 rfl dX11_leastSets_20 rfl rfl ?_
  refine a_iload_n 2 22 rfl dX11_leastSets_21 rfl rfl ?_
  refine a_aload_n 0 23 rfl dX11_leastSets_22 rfl rfl ?_
  refine a_iload_n 1 24 rfl dX11_leastSets_23 rfl rfl ?_
  refine a_iload_n 3 25 rfl dX11_leastSets_24 rfl rfl ?_
  refine a_callV (as := [.int 0, .int y3]) (rest := [.int y2, .int 0, .ref (g_ad G 1)]) (st2 := [.long (f_am (C.1 0) 0 y3), .int y2, .int 0, .ref (g_ad G 1)]) (u1 := 0) (v1 := 0) (u2 := 0) (v2 := 0) (r_am hn) (⟨_, _, _, _, rfl, rfl⟩) oX11_amongWhich q_642 q_644 q_30 rfl (by omega) (by decide) rfl (Nat.le_of_ble_eq_true rfl) 28 rfl dX11_leastSets_25 rfl ?_
  refine a_callU (as := [.int 0, .int y2, .long (f_am (C.1 0) 0 y3)]) (C := RX3) (owner := "LeastShadows$Ground") (x := ⟨"LeastShadows$Cube", "leastOf", "(IIJ)J"⟩) (rest := []) (st2 := [.long (f_lo (fun x => f_bcL (f_border x (C.1 0))) y2 (f_am (C.1 0) 0 y3))]) (u1 := 0) (v1 := 0) (u2 := 0) (v2 := 0) (r_lo_cube0 hn) (⟨_, _, _, _, rfl, rfl⟩) oX7_leastOf ⟨q_648, q_649, q_651, q_652, ⟨by decide, by decide⟩, Or.inl rfl⟩ rfl (by omega) (by decide) rfl (Nat.le_of_ble_eq_true rfl) 31 rfl dX11_leastSets_28 rfl ?_
  exact a_lreturn rfl (rfl) (rfl) dX11_leastSets_31
theorem r_X11_least0 (hn : C.1 0 ≤ 6) (hr : f_ref2 (C.1 0) 0 y2 y3 = 0) : g_Run G mX11_least 6 0 0 [.ref (g_ad G 0), .int 0, .int y2, .int y3] (g_hp G C tl) (some (.int ((fun x => f_bcL (f_border x (C.1 0))) (f_lo (fun x => f_bcL (f_border x (C.1 0))) y2 (f_am (C.1 0) 0 y3))))) (g_hp G C tl) := by
  refine g_Run.of (lv := [(0, .ref (g_ad G 0)), (1, .int 0), (2, .int y2), (3, .int y3)]) (by decide) (Nat.le_of_ble_eq_true rfl) rfl ?_
  refine a_aload_n 0 1 rfl dX11_least_0 rfl rfl ?_
  refine a_iload_n 1 2 rfl dX11_least_1 rfl rfl ?_
  refine a_iload_n 2 3 rfl dX11_least_2 rfl rfl ?_
  refine a_iload_n 3 4 rfl dX11_least_3 rfl rfl ?_
  refine a_callV (as := [.int 0, .int y2, .int y3]) (rest := []) (st2 := [.int (f_ref2 (C.1 0) 0 y2 y3)]) (u1 := 0) (v1 := 0) (u2 := 0) (v2 := 0) (r_ref2 hn) (⟨_, _, _, _, rfl, rfl⟩) oX11_refusalOfLeast q_634 q_636 q_29 rfl (by omega) (by decide) rfl (Nat.le_of_ble_eq_true rfl) 7 rfl dX11_least_4 rfl ?_
  refine a_istore (lv' := [(4, .int (f_ref2 (C.1 0) 0 y2 y3)), (0, .ref (g_ad G 0)), (1, .int 0), (2, .int y2), (3, .int y3)]) 9 rfl dX11_least_7 (by decide) rfl ?_
  refine a_iload 0 11 rfl dX11_least_9 rfl ?_
  refine a_if_eq 19 14 rfl dX11_least_11 (by decide) (fun _ => ?_) (fun hc => absurd (hr) hc)
  refine a_aload_n 1 20 rfl dX11_least_19 rfl rfl ?_
  refine a_get 0 cl_10 f_RX11_12_10 (by decide) (rfl) rfl 23 rfl dX11_least_20 ?_
  refine a_iload_n 2 24 rfl dX11_least_23 rfl rfl ?_
  refine a_aload_n 1 25 rfl dX11_least_24 rfl rfl ?_
  refine a_get 0 cl_10 f_RX11_12_10 (by decide) (rfl) rfl 28 rfl dX11_least_25 ?_
  refine a_iload_n 2 29 rfl dX11_least_28 rfl rfl ?_
  refine a_iload_n 3 30 rfl dX11_least_29 rfl rfl ?_
  refine a_aload_n 1 31 rfl dX11_least_30 rfl rfl ?_
  refine a_iload_n 2 32 rfl dX11_least_31 rfl rfl ?_
  refine a_iload_n 4 33 rfl dX11_least_32 rfl rfl ?_
  refine a_callV (as := [.int 0, .int y3]) (rest := [.int y2, .int 0, .ref (g_ad G 1), .int 0, .ref (g_ad G 1)]) (st2 := [.long (f_am (C.1 0) 0 y3), .int y2, .int 0, .ref (g_ad G 1), .int 0, .ref (g_ad G 1)]) (u1 := 0) (v1 := 0) (u2 := 0) (v2 := 0) (r_am hn) (⟨_, _, _, _, rfl, rfl⟩) oX11_amongWhich q_642 q_644 q_30 rfl (by omega) (by decide) rfl (Nat.le_of_ble_eq_true rfl) 36 rfl dX11_least_33 rfl ?_
  refine a_callU (as := [.int 0, .int y2, .long (f_am (C.1 0) 0 y3)]) (C := RX3) (owner := "LeastShadows$Ground") (x := ⟨"LeastShadows$Cube", "leastOf", "(IIJ)J"⟩) (rest := [.int 0, .ref (g_ad G 1)]) (st2 := [.long (f_lo (fun x => f_bcL (f_border x (C.1 0))) y2 (f_am (C.1 0) 0 y3)), .int 0, .ref (g_ad G 1)]) (u1 := 0) (v1 := 0) (u2 := 0) (v2 := 0) (r_lo_cube0 hn) (⟨_, _, _, _, rfl, rfl⟩) oX7_leastOf ⟨q_648, q_649, q_651, q_652, ⟨by decide, by decide⟩, Or.inl rfl⟩ rfl (by omega) (by decide) rfl (Nat.le_of_ble_eq_true rfl) 39 rfl dX11_least_36 rfl ?_
  refine a_callV (as := [.int 0, .long (f_lo (fun x => f_bcL (f_border x (C.1 0))) y2 (f_am (C.1 0) 0 y3))]) (rest := []) (st2 := [.int ((fun x => f_bcL (f_border x (C.1 0))) (f_lo (fun x => f_bcL (f_border x (C.1 0))) y2 (f_am (C.1 0) 0 y3)))]) (u1 := 0) (v1 := 0) (u2 := 0) (v2 := 0) (r_X3_measure0 (n := C.1 0) rfl hn) (⟨_, _, _, _, rfl, rfl⟩) oX3_measure q_689 q_662 q_1664 rfl (by omega) (by decide) rfl (Nat.le_of_ble_eq_true rfl) 42 rfl dX11_least_39 rfl ?_
  exact a_ireturn .int rfl rfl (rfl) (rfl) dX11_least_42

theorem r_X11_leastSets1 (hn : C.1 0 ≤ 6) (hr : f_ref2 (C.1 0) 1 y2 y3 = 0) : g_Run G mX11_leastSets 6 0 0 [.ref (g_ad G 0), .int 1, .int y2, .int y3] (g_hp G C tl) (some (.long (f_lo (fun x => f_edges x (C.1 0) (C.1 0)) y2 (f_am (C.1 0) 1 y3)))) (g_hp G C tl) := by
  refine g_Run.of (lv := [(0, .ref (g_ad G 0)), (1, .int 1), (2, .int y2), (3, .int y3)]) (by decide) (Nat.le_of_ble_eq_true rfl) rfl ?_
  refine a_aload_n 0 1 rfl dX11_leastSets_0 rfl rfl ?_
  refine a_iload_n 1 2 rfl dX11_leastSets_1 rfl rfl ?_
  refine a_iload_n 2 3 rfl dX11_leastSets_2 rfl rfl ?_
  refine a_iload_n 3 4 rfl dX11_leastSets_3 rfl rfl ?_
  refine a_callV (as := [.int 1, .int y2, .int y3]) (rest := []) (st2 := [.int (f_ref2 (C.1 0) 1 y2 y3)]) (u1 := 0) (v1 := 0) (u2 := 0) (v2 := 0) (r_ref2 hn) (⟨_, _, _, _, rfl, rfl⟩) oX11_refusalOfLeast q_634 q_636 q_29 rfl (by omega) (by decide) rfl (Nat.le_of_ble_eq_true rfl) 7 rfl dX11_leastSets_4 rfl ?_
  refine a_if_eq 16 10 rfl dX11_leastSets_7 (by decide) (fun _ => ?_) (fun hc => absurd (hr) hc)
  refine a_aload_n 0 17 rfl dX11_leastSets_16 rfl rfl ?_
  refine a_get 0 cl_10 f_RX11_12_10 (by decide) (rfl) rfl 20 rfl dX11_leastSets_17 ?_
  refine a_iload_n 1 21 rfl dX11_leastSets_20 rfl rfl ?_
  refine a_iload_n 2 22 rfl dX11_leastSets_21 rfl rfl ?_
  refine a_aload_n 0 23 rfl dX11_leastSets_22 rfl rfl ?_
  refine a_iload_n 1 24 rfl dX11_leastSets_23 rfl rfl ?_
  refine a_iload_n 3 25 rfl dX11_leastSets_24 rfl rfl ?_
  refine a_callV (as := [.int 1, .int y3]) (rest := [.int y2, .int 1, .ref (g_ad G 1)]) (st2 := [.long (f_am (C.1 0) 1 y3), .int y2, .int 1, .ref (g_ad G 1)]) (u1 := 0) (v1 := 0) (u2 := 0) (v2 := 0) (r_am hn) (⟨_, _, _, _, rfl, rfl⟩) oX11_amongWhich q_642 q_644 q_30 rfl (by omega) (by decide) rfl (Nat.le_of_ble_eq_true rfl) 28 rfl dX11_leastSets_25 rfl ?_
  refine a_callU (as := [.int 1, .int y2, .long (f_am (C.1 0) 1 y3)]) (C := RX3) (owner := "LeastShadows$Ground") (x := ⟨"LeastShadows$Cube", "leastOf", "(IIJ)J"⟩) (rest := []) (st2 := [.long (f_lo (fun x => f_edges x (C.1 0) (C.1 0)) y2 (f_am (C.1 0) 1 y3))]) (u1 := 0) (v1 := 0) (u2 := 0) (v2 := 0) (r_lo_cube1 hn) (⟨_, _, _, _, rfl, rfl⟩) oX7_leastOf ⟨q_648, q_649, q_651, q_652, ⟨by decide, by decide⟩, Or.inl rfl⟩ rfl (by omega) (by decide) rfl (Nat.le_of_ble_eq_true rfl) 31 rfl dX11_leastSets_28 rfl ?_
  exact a_lreturn rfl (rfl) (rfl) dX11_leastSets_31
theorem r_X11_least1 (hn : C.1 0 ≤ 6) (hr : f_ref2 (C.1 0) 1 y2 y3 = 0) : g_Run G mX11_least 6 0 0 [.ref (g_ad G 0), .int 1, .int y2, .int y3] (g_hp G C tl) (some (.int ((fun x => f_edges x (C.1 0) (C.1 0)) (f_lo (fun x => f_edges x (C.1 0) (C.1 0)) y2 (f_am (C.1 0) 1 y3))))) (g_hp G C tl) := by
  refine g_Run.of (lv := [(0, .ref (g_ad G 0)), (1, .int 1), (2, .int y2), (3, .int y3)]) (by decide) (Nat.le_of_ble_eq_true rfl) rfl ?_
  refine a_aload_n 0 1 rfl dX11_least_0 rfl rfl ?_
  refine a_iload_n 1 2 rfl dX11_least_1 rfl rfl ?_
  refine a_iload_n 2 3 rfl dX11_least_2 rfl rfl ?_
  refine a_iload_n 3 4 rfl dX11_least_3 rfl rfl ?_
  refine a_callV (as := [.int 1, .int y2, .int y3]) (rest := []) (st2 := [.int (f_ref2 (C.1 0) 1 y2 y3)]) (u1 := 0) (v1 := 0) (u2 := 0) (v2 := 0) (r_ref2 hn) (⟨_, _, _, _, rfl, rfl⟩) oX11_refusalOfLeast q_634 q_636 q_29 rfl (by omega) (by decide) rfl (Nat.le_of_ble_eq_true rfl) 7 rfl dX11_least_4 rfl ?_
  refine a_istore (lv' := [(4, .int (f_ref2 (C.1 0) 1 y2 y3)), (0, .ref (g_ad G 0)), (1, .int 1), (2, .int y2), (3, .int y3)]) 9 rfl dX11_least_7 (by decide) rfl ?_
  refine a_iload 0 11 rfl dX11_least_9 rfl ?_
  refine a_if_eq 19 14 rfl dX11_least_11 (by decide) (fun _ => ?_) (fun hc => absurd (hr) hc)
  refine a_aload_n 1 20 rfl dX11_least_19 rfl rfl ?_
  refine a_get 0 cl_10 f_RX11_12_10 (by decide) (rfl) rfl 23 rfl dX11_least_20 ?_
  refine a_iload_n 2 24 rfl dX11_least_23 rfl rfl ?_
  refine a_aload_n 1 25 rfl dX11_least_24 rfl rfl ?_
  refine a_get 0 cl_10 f_RX11_12_10 (by decide) (rfl) rfl 28 rfl dX11_least_25 ?_
  refine a_iload_n 2 29 rfl dX11_least_28 rfl rfl ?_
  refine a_iload_n 3 30 rfl dX11_least_29 rfl rfl ?_
  refine a_aload_n 1 31 rfl dX11_least_30 rfl rfl ?_
  refine a_iload_n 2 32 rfl dX11_least_31 rfl rfl ?_
  refine a_iload_n 4 33 rfl dX11_least_32 rfl rfl ?_
  refine a_callV (as := [.int 1, .int y3]) (rest := [.int y2, .int 1, .ref (g_ad G 1), .int 1, .ref (g_ad G 1)]) (st2 := [.long (f_am (C.1 0) 1 y3), .int y2, .int 1, .ref (g_ad G 1), .int 1, .ref (g_ad G 1)]) (u1 := 0) (v1 := 0) (u2 := 0) (v2 := 0) (r_am hn) (⟨_, _, _, _, rfl, rfl⟩) oX11_amongWhich q_642 q_644 q_30 rfl (by omega) (by decide) rfl (Nat.le_of_ble_eq_true rfl) 36 rfl dX11_least_33 rfl ?_
  refine a_callU (as := [.int 1, .int y2, .long (f_am (C.1 0) 1 y3)]) (C := RX3) (owner := "LeastShadows$Ground") (x := ⟨"LeastShadows$Cube", "leastOf", "(IIJ)J"⟩) (rest := [.int 1, .ref (g_ad G 1)]) (st2 := [.long (f_lo (fun x => f_edges x (C.1 0) (C.1 0)) y2 (f_am (C.1 0) 1 y3)), .int 1, .ref (g_ad G 1)]) (u1 := 0) (v1 := 0) (u2 := 0) (v2 := 0) (r_lo_cube1 hn) (⟨_, _, _, _, rfl, rfl⟩) oX7_leastOf ⟨q_648, q_649, q_651, q_652, ⟨by decide, by decide⟩, Or.inl rfl⟩ rfl (by omega) (by decide) rfl (Nat.le_of_ble_eq_true rfl) 39 rfl dX11_least_36 rfl ?_
  refine a_callV (as := [.int 1, .long (f_lo (fun x => f_edges x (C.1 0) (C.1 0)) y2 (f_am (C.1 0) 1 y3))]) (rest := []) (st2 := [.int ((fun x => f_edges x (C.1 0) (C.1 0)) (f_lo (fun x => f_edges x (C.1 0) (C.1 0)) y2 (f_am (C.1 0) 1 y3)))]) (u1 := 0) (v1 := 0) (u2 := 0) (v2 := 0) (r_X3_measure1 (n := C.1 0) rfl hn) (⟨_, _, _, _, rfl, rfl⟩) oX3_measure q_689 q_662 q_1664 rfl (by omega) (by decide) rfl (Nat.le_of_ble_eq_true rfl) 42 rfl dX11_least_39 rfl ?_
  exact a_ireturn .int rfl rfl (rfl) (rfl) dX11_least_42

theorem r_X11_leastSets2 (hn : C.1 0 ≤ 6) (hr : f_ref2 (C.1 0) 2 y2 y3 = 0) : g_Run G mX11_leastSets 6 0 0 [.ref (g_ad G 0), .int 2, .int y2, .int y3] (g_hp G C tl) (some (.long (f_lo (fun x => f_bcL (f_shadow x (C.1 0))) y2 (f_am (C.1 0) 2 y3)))) (g_hp G C tl) := by
  refine g_Run.of (lv := [(0, .ref (g_ad G 0)), (1, .int 2), (2, .int y2), (3, .int y3)]) (by decide) (Nat.le_of_ble_eq_true rfl) rfl ?_
  refine a_aload_n 0 1 rfl dX11_leastSets_0 rfl rfl ?_
  refine a_iload_n 1 2 rfl dX11_leastSets_1 rfl rfl ?_
  refine a_iload_n 2 3 rfl dX11_leastSets_2 rfl rfl ?_
  refine a_iload_n 3 4 rfl dX11_leastSets_3 rfl rfl ?_
  refine a_callV (as := [.int 2, .int y2, .int y3]) (rest := []) (st2 := [.int (f_ref2 (C.1 0) 2 y2 y3)]) (u1 := 0) (v1 := 0) (u2 := 0) (v2 := 0) (r_ref2 hn) (⟨_, _, _, _, rfl, rfl⟩) oX11_refusalOfLeast q_634 q_636 q_29 rfl (by omega) (by decide) rfl (Nat.le_of_ble_eq_true rfl) 7 rfl dX11_leastSets_4 rfl ?_
  refine a_if_eq 16 10 rfl dX11_leastSets_7 (by decide) (fun _ => ?_) (fun hc => absurd (hr) hc)
  refine a_aload_n 0 17 rfl dX11_leastSets_16 rfl rfl ?_
  refine a_get 0 cl_10 f_RX11_12_10 (by decide) (rfl) rfl 20 rfl dX11_leastSets_17 ?_
  refine a_iload_n 1 21 rfl dX11_leastSets_20 rfl rfl ?_
  refine a_iload_n 2 22 rfl dX11_leastSets_21 rfl rfl ?_
  refine a_aload_n 0 23 rfl dX11_leastSets_22 rfl rfl ?_
  refine a_iload_n 1 24 rfl dX11_leastSets_23 rfl rfl ?_
  refine a_iload_n 3 25 rfl dX11_leastSets_24 rfl rfl ?_
  refine a_callV (as := [.int 2, .int y3]) (rest := [.int y2, .int 2, .ref (g_ad G 1)]) (st2 := [.long (f_am (C.1 0) 2 y3), .int y2, .int 2, .ref (g_ad G 1)]) (u1 := 0) (v1 := 0) (u2 := 0) (v2 := 0) (r_am hn) (⟨_, _, _, _, rfl, rfl⟩) oX11_amongWhich q_642 q_644 q_30 rfl (by omega) (by decide) rfl (Nat.le_of_ble_eq_true rfl) 28 rfl dX11_leastSets_25 rfl ?_
  refine a_callU (as := [.int 2, .int y2, .long (f_am (C.1 0) 2 y3)]) (C := RX3) (owner := "LeastShadows$Ground") (x := ⟨"LeastShadows$Cube", "leastOf", "(IIJ)J"⟩) (rest := []) (st2 := [.long (f_lo (fun x => f_bcL (f_shadow x (C.1 0))) y2 (f_am (C.1 0) 2 y3))]) (u1 := 0) (v1 := 0) (u2 := 0) (v2 := 0) (r_lo_cube2 hn) (⟨_, _, _, _, rfl, rfl⟩) oX7_leastOf ⟨q_648, q_649, q_651, q_652, ⟨by decide, by decide⟩, Or.inl rfl⟩ rfl (by omega) (by decide) rfl (Nat.le_of_ble_eq_true rfl) 31 rfl dX11_leastSets_28 rfl ?_
  exact a_lreturn rfl (rfl) (rfl) dX11_leastSets_31
theorem r_X11_least2 (hn : C.1 0 ≤ 6) (hr : f_ref2 (C.1 0) 2 y2 y3 = 0) : g_Run G mX11_least 6 0 0 [.ref (g_ad G 0), .int 2, .int y2, .int y3] (g_hp G C tl) (some (.int ((fun x => f_bcL (f_shadow x (C.1 0))) (f_lo (fun x => f_bcL (f_shadow x (C.1 0))) y2 (f_am (C.1 0) 2 y3))))) (g_hp G C tl) := by
  refine g_Run.of (lv := [(0, .ref (g_ad G 0)), (1, .int 2), (2, .int y2), (3, .int y3)]) (by decide) (Nat.le_of_ble_eq_true rfl) rfl ?_
  refine a_aload_n 0 1 rfl dX11_least_0 rfl rfl ?_
  refine a_iload_n 1 2 rfl dX11_least_1 rfl rfl ?_
  refine a_iload_n 2 3 rfl dX11_least_2 rfl rfl ?_
  refine a_iload_n 3 4 rfl dX11_least_3 rfl rfl ?_
  refine a_callV (as := [.int 2, .int y2, .int y3]) (rest := []) (st2 := [.int (f_ref2 (C.1 0) 2 y2 y3)]) (u1 := 0) (v1 := 0) (u2 := 0) (v2 := 0) (r_ref2 hn) (⟨_, _, _, _, rfl, rfl⟩) oX11_refusalOfLeast q_634 q_636 q_29 rfl (by omega) (by decide) rfl (Nat.le_of_ble_eq_true rfl) 7 rfl dX11_least_4 rfl ?_
  refine a_istore (lv' := [(4, .int (f_ref2 (C.1 0) 2 y2 y3)), (0, .ref (g_ad G 0)), (1, .int 2), (2, .int y2), (3, .int y3)]) 9 rfl dX11_least_7 (by decide) rfl ?_
  refine a_iload 0 11 rfl dX11_least_9 rfl ?_
  refine a_if_eq 19 14 rfl dX11_least_11 (by decide) (fun _ => ?_) (fun hc => absurd (hr) hc)
  refine a_aload_n 1 20 rfl dX11_least_19 rfl rfl ?_
  refine a_get 0 cl_10 f_RX11_12_10 (by decide) (rfl) rfl 23 rfl dX11_least_20 ?_
  refine a_iload_n 2 24 rfl dX11_least_23 rfl rfl ?_
  refine a_aload_n 1 25 rfl dX11_least_24 rfl rfl ?_
  refine a_get 0 cl_10 f_RX11_12_10 (by decide) (rfl) rfl 28 rfl dX11_least_25 ?_
  refine a_iload_n 2 29 rfl dX11_least_28 rfl rfl ?_
  refine a_iload_n 3 30 rfl dX11_least_29 rfl rfl ?_
  refine a_aload_n 1 31 rfl dX11_least_30 rfl rfl ?_
  refine a_iload_n 2 32 rfl dX11_least_31 rfl rfl ?_
  refine a_iload_n 4 33 rfl dX11_least_32 rfl rfl ?_
  refine a_callV (as := [.int 2, .int y3]) (rest := [.int y2, .int 2, .ref (g_ad G 1), .int 2, .ref (g_ad G 1)]) (st2 := [.long (f_am (C.1 0) 2 y3), .int y2, .int 2, .ref (g_ad G 1), .int 2, .ref (g_ad G 1)]) (u1 := 0) (v1 := 0) (u2 := 0) (v2 := 0) (r_am hn) (⟨_, _, _, _, rfl, rfl⟩) oX11_amongWhich q_642 q_644 q_30 rfl (by omega) (by decide) rfl (Nat.le_of_ble_eq_true rfl) 36 rfl dX11_least_33 rfl ?_
  refine a_callU (as := [.int 2, .int y2, .long (f_am (C.1 0) 2 y3)]) (C := RX3) (owner := "LeastShadows$Ground") (x := ⟨"LeastShadows$Cube", "leastOf", "(IIJ)J"⟩) (rest := [.int 2, .ref (g_ad G 1)]) (st2 := [.long (f_lo (fun x => f_bcL (f_shadow x (C.1 0))) y2 (f_am (C.1 0) 2 y3)), .int 2, .ref (g_ad G 1)]) (u1 := 0) (v1 := 0) (u2 := 0) (v2 := 0) (r_lo_cube2 hn) (⟨_, _, _, _, rfl, rfl⟩) oX7_leastOf ⟨q_648, q_649, q_651, q_652, ⟨by decide, by decide⟩, Or.inl rfl⟩ rfl (by omega) (by decide) rfl (Nat.le_of_ble_eq_true rfl) 39 rfl dX11_least_36 rfl ?_
  refine a_callV (as := [.int 2, .long (f_lo (fun x => f_bcL (f_shadow x (C.1 0))) y2 (f_am (C.1 0) 2 y3))]) (rest := []) (st2 := [.int ((fun x => f_bcL (f_shadow x (C.1 0))) (f_lo (fun x => f_bcL (f_shadow x (C.1 0))) y2 (f_am (C.1 0) 2 y3)))]) (u1 := 0) (v1 := 0) (u2 := 0) (v2 := 0) (r_X3_measure2 (n := C.1 0) rfl hn) (⟨_, _, _, _, rfl, rfl⟩) oX3_measure q_689 q_662 q_1664 rfl (by omega) (by decide) rfl (Nat.le_of_ble_eq_true rfl) 42 rfl dX11_least_39 rfl ?_
  exact a_ireturn .int rfl rfl (rfl) (rfl) dX11_least_42

theorem r_meetsOn_cube_ref (hn : C.1 0 ≤ 6) (hr : ¬ f_ref1 (2 ^ C.1 0) y2 y3 = 0) : g_Run G mX11_meetsOn 6 0 0 [.ref (g_ad G 1), .int y, .int y2, .int y3] (g_hp G C tl) (some (.int (f_ref1 (2 ^ C.1 0) y2 y3))) (g_hp G C tl) := by
  refine g_Run.of (lv := [(0, .ref (g_ad G 1)), (1, .int y), (2, .int y2), (3, .int y3)]) (by decide) (Nat.le_of_ble_eq_true rfl) rfl ?_
  refine a_aload_n 0 1 rfl dX11_meetsOn_0 rfl rfl ?_
  refine a_iload_n 2 2 rfl dX11_meetsOn_1 rfl rfl ?_
  refine a_iload_n 3 3 rfl dX11_meetsOn_2 rfl rfl ?_
  refine a_callS (as := [.ref (g_ad G 1), .int y2, .int y3]) (rest := []) (st2 := [.int (f_ref1 (2 ^ C.1 0) y2 y3)]) (u1 := 0) (v1 := 0) (u2 := 0) (v2 := 0) (r_ref_cube hn) oX11_refusalOfLeastOn q_638 q_639 rfl (by omega) (by decide) rfl (Nat.le_of_ble_eq_true rfl) 6 rfl dX11_meetsOn_3 rfl ?_
  refine a_istore (lv' := [(4, .int (f_ref1 (2 ^ C.1 0) y2 y3)), (0, .ref (g_ad G 1)), (1, .int y), (2, .int y2), (3, .int y3)]) 8 rfl dX11_meetsOn_6 (by decide) rfl ?_
  refine a_iload 0 10 rfl dX11_meetsOn_8 rfl ?_
  refine a_if_eq 16 13 rfl dX11_meetsOn_10 (by decide) (fun hc => absurd hc (hr)) (fun _ => ?_)
  refine a_iload 0 15 rfl dX11_meetsOn_13 rfl ?_
  exact a_ireturn .int rfl rfl (rfl) (rfl) dX11_meetsOn_15
theorem r_X11_meets_ref (hn : C.1 0 ≤ 6) (h0 : ¬ y < 0) (h1 : y < 4) (hr : ¬ f_ref1 (2 ^ C.1 0) y2 y3 = 0) : g_Run G mX11_meets 7 0 0 [.ref (g_ad G 0), .int y, .int y2, .int y3] (g_hp G C tl) (some (.int (f_ref1 (2 ^ C.1 0) y2 y3))) (g_hp G C tl) := by
  refine g_Run.of (lv := [(0, .ref (g_ad G 0)), (1, .int y), (2, .int y2), (3, .int y3)]) (by decide) (Nat.le_of_ble_eq_true rfl) rfl ?_
  refine a_iload_n 1 1 rfl dX11_meets_0 rfl rfl ?_
  refine a_if_lt 9 4 rfl dX11_meets_1 (by decide) (fun hc => absurd hc (h0)) (fun _ => ?_)
  refine a_iload_n 1 5 rfl dX11_meets_4 rfl rfl ?_
  refine a_iconst (x := 4) 6 rfl dX11_meets_5 (by decide) ?_
  refine a_icmp_lt 13 9 rfl dX11_meets_6 (by decide) (fun _ => ?_) (fun hc => absurd (h1) hc)
  refine a_aload_n 0 14 rfl dX11_meets_13 rfl rfl ?_
  refine a_get 0 cl_10 f_RX11_12_10 (by decide) (rfl) rfl 17 rfl dX11_meets_14 ?_
  refine a_iload_n 1 18 rfl dX11_meets_17 rfl rfl ?_
  refine a_iload_n 2 19 rfl dX11_meets_18 rfl rfl ?_
  refine a_iload_n 3 20 rfl dX11_meets_19 rfl rfl ?_
  refine a_callS (as := [.ref (g_ad G 1), .int y, .int y2, .int y3]) (rest := []) (st2 := [.int (f_ref1 (2 ^ C.1 0) y2 y3)]) (u1 := 0) (v1 := 0) (u2 := 0) (v2 := 0) (r_meetsOn_cube_ref hn hr) oX11_meetsOn q_698 q_699 rfl (by omega) (by decide) rfl (Nat.le_of_ble_eq_true rfl) 23 rfl dX11_meets_20 rfl ?_
  exact a_ireturn .int rfl rfl (rfl) (rfl) dX11_meets_23
theorem r_X11_meets_out (hy : y < 0 ∨ ¬ y < 4) : g_Run G mX11_meets 7 0 0 [.ref (g_ad G 0), .int y, .int y2, .int y3] (g_hp G C tl) (some (.int (-1))) (g_hp G C tl) := by
  refine g_Run.of (lv := [(0, .ref (g_ad G 0)), (1, .int y), (2, .int y2), (3, .int y3)]) (by decide) (Nat.le_of_ble_eq_true rfl) rfl ?_
  refine a_iload_n 1 1 rfl dX11_meets_0 rfl rfl ?_
  refine a_if_lt 9 4 rfl dX11_meets_1 (by decide) (fun c1 => ?_) (fun c1 => ?_)
  refine a_iconst (x := (-1)) 10 rfl dX11_meets_9 (by decide) ?_
  refine a_goto 23 dX11_meets_10 (by decide) ?_
  exact a_ireturn .int rfl rfl (rfl) (rfl) dX11_meets_23
  refine a_iload_n 1 5 rfl dX11_meets_4 rfl rfl ?_
  refine a_iconst (x := 4) 6 rfl dX11_meets_5 (by decide) ?_
  refine a_icmp_lt 13 9 rfl dX11_meets_6 (by decide) (fun hc => absurd hc ((hy.resolve_left c1))) (fun _ => ?_)
  refine a_iconst (x := (-1)) 10 rfl dX11_meets_9 (by decide) ?_
  refine a_goto 23 dX11_meets_10 (by decide) ?_
  exact a_ireturn .int rfl rfl (rfl) (rfl) dX11_meets_23

theorem r_meetsOn_grid_ref (hp : C.1 1 * C.1 2 ≤ 64) (hr : ¬ f_ref1 (C.1 1 * C.1 2) y2 y3 = 0) : g_Run G mX11_meetsOn 6 0 0 [.ref (g_ad G 3), .int y, .int y2, .int y3] (g_hp G C tl) (some (.int (f_ref1 (C.1 1 * C.1 2) y2 y3))) (g_hp G C tl) := by
  refine g_Run.of (lv := [(0, .ref (g_ad G 3)), (1, .int y), (2, .int y2), (3, .int y3)]) (by decide) (Nat.le_of_ble_eq_true rfl) rfl ?_
  refine a_aload_n 0 1 rfl dX11_meetsOn_0 rfl rfl ?_
  refine a_iload_n 2 2 rfl dX11_meetsOn_1 rfl rfl ?_
  refine a_iload_n 3 3 rfl dX11_meetsOn_2 rfl rfl ?_
  refine a_callS (as := [.ref (g_ad G 3), .int y2, .int y3]) (rest := []) (st2 := [.int (f_ref1 (C.1 1 * C.1 2) y2 y3)]) (u1 := 0) (v1 := 0) (u2 := 0) (v2 := 0) (r_ref_grid hp) oX11_refusalOfLeastOn q_638 q_639 rfl (by omega) (by decide) rfl (Nat.le_of_ble_eq_true rfl) 6 rfl dX11_meetsOn_3 rfl ?_
  refine a_istore (lv' := [(4, .int (f_ref1 (C.1 1 * C.1 2) y2 y3)), (0, .ref (g_ad G 3)), (1, .int y), (2, .int y2), (3, .int y3)]) 8 rfl dX11_meetsOn_6 (by decide) rfl ?_
  refine a_iload 0 10 rfl dX11_meetsOn_8 rfl ?_
  refine a_if_eq 16 13 rfl dX11_meetsOn_10 (by decide) (fun hc => absurd hc (hr)) (fun _ => ?_)
  refine a_iload 0 15 rfl dX11_meetsOn_13 rfl ?_
  exact a_ireturn .int rfl rfl (rfl) (rfl) dX11_meetsOn_15
theorem r_X11_meetsCells_ref (hp : C.1 1 * C.1 2 ≤ 64) (h0 : ¬ y < 0) (h1 : y < 3) (hr : ¬ f_ref1 (C.1 1 * C.1 2) y2 y3 = 0) : g_Run G mX11_meetsCells 7 0 0 [.ref (g_ad G 0), .int y, .int y2, .int y3] (g_hp G C tl) (some (.int (f_ref1 (C.1 1 * C.1 2) y2 y3))) (g_hp G C tl) := by
  refine g_Run.of (lv := [(0, .ref (g_ad G 0)), (1, .int y), (2, .int y2), (3, .int y3)]) (by decide) (Nat.le_of_ble_eq_true rfl) rfl ?_
  refine a_iload_n 1 1 rfl dX11_meetsCells_0 rfl rfl ?_
  refine a_if_lt 9 4 rfl dX11_meetsCells_1 (by decide) (fun hc => absurd hc (h0)) (fun _ => ?_)
  refine a_iload_n 1 5 rfl dX11_meetsCells_4 rfl rfl ?_
  refine a_iconst (x := 3) 6 rfl dX11_meetsCells_5 (by decide) ?_
  refine a_icmp_lt 13 9 rfl dX11_meetsCells_6 (by decide) (fun _ => ?_) (fun hc => absurd (h1) hc)
  refine a_aload_n 0 14 rfl dX11_meetsCells_13 rfl rfl ?_
  refine a_get 1 cl_10 f_RX11_21_10 (by decide) (rfl) rfl 17 rfl dX11_meetsCells_14 ?_
  refine a_iload_n 1 18 rfl dX11_meetsCells_17 rfl rfl ?_
  refine a_iload_n 2 19 rfl dX11_meetsCells_18 rfl rfl ?_
  refine a_iload_n 3 20 rfl dX11_meetsCells_19 rfl rfl ?_
  refine a_callS (as := [.ref (g_ad G 3), .int y, .int y2, .int y3]) (rest := []) (st2 := [.int (f_ref1 (C.1 1 * C.1 2) y2 y3)]) (u1 := 0) (v1 := 0) (u2 := 0) (v2 := 0) (r_meetsOn_grid_ref hp hr) oX11_meetsOn q_698 q_699 rfl (by omega) (by decide) rfl (Nat.le_of_ble_eq_true rfl) 23 rfl dX11_meetsCells_20 rfl ?_
  exact a_ireturn .int rfl rfl (rfl) (rfl) dX11_meetsCells_23
theorem r_X11_meetsCells_out (hy : y < 0 ∨ ¬ y < 3) : g_Run G mX11_meetsCells 7 0 0 [.ref (g_ad G 0), .int y, .int y2, .int y3] (g_hp G C tl) (some (.int (-1))) (g_hp G C tl) := by
  refine g_Run.of (lv := [(0, .ref (g_ad G 0)), (1, .int y), (2, .int y2), (3, .int y3)]) (by decide) (Nat.le_of_ble_eq_true rfl) rfl ?_
  refine a_iload_n 1 1 rfl dX11_meetsCells_0 rfl rfl ?_
  refine a_if_lt 9 4 rfl dX11_meetsCells_1 (by decide) (fun c1 => ?_) (fun c1 => ?_)
  refine a_iconst (x := (-1)) 10 rfl dX11_meetsCells_9 (by decide) ?_
  refine a_goto 23 dX11_meetsCells_10 (by decide) ?_
  exact a_ireturn .int rfl rfl (rfl) (rfl) dX11_meetsCells_23
  refine a_iload_n 1 5 rfl dX11_meetsCells_4 rfl rfl ?_
  refine a_iconst (x := 3) 6 rfl dX11_meetsCells_5 (by decide) ?_
  refine a_icmp_lt 13 9 rfl dX11_meetsCells_6 (by decide) (fun hc => absurd hc ((hy.resolve_left c1))) (fun _ => ?_)
  refine a_iconst (x := (-1)) 10 rfl dX11_meetsCells_9 (by decide) ?_
  refine a_goto 23 dX11_meetsCells_10 (by decide) ?_
  exact a_ireturn .int rfl rfl (rfl) (rfl) dX11_meetsCells_23

theorem r_first_cube {o9 : Nat} (hn : C.1 0 ≤ 6) (ho : o9 < 4) : ∃ f2 : Nat → Int32, (∀ j, j < 2 ^ C.1 0 → f2 j = f_keyC (C.1 0) o9 (nI j)) ∧ g_Run G mX7_firstBy 5 0 0 [.ref (g_ad G 1), .int (nI o9), .int y] (g_hp G C tl) (some (.long (f_firsts f2 (2 ^ C.1 0) y (2 ^ C.1 0)))) (g_hp G (f_uI C 0 f2) tl) := by
  obtain ⟨f2, hk, w⟩ := r_firstBy_cube (G := G) (h := g_hp G C tl) (y := y) (n := C.1 0) (f := C.2.2.2.1 0) (a := 1) (ka := 2) rfl rfl (by decide) hn ho
  exact ⟨f2, hk, w⟩
theorem r_first_grid {o9 : Nat} (hp : C.1 1 * C.1 2 ≤ 64) (hw0 : 0 < C.1 1) (hw : C.1 1 ≤ 8) (ho : o9 < 3) : ∃ f2 : Nat → Int32, (∀ j, j < C.1 1 * C.1 2 → f2 j = f_keyG (C.1 1) o9 (nI j)) ∧ g_Run G mX7_firstBy 5 0 0 [.ref (g_ad G 3), .int (nI o9), .int y] (g_hp G C tl) (some (.long (f_firsts f2 (C.1 1 * C.1 2) y (C.1 1 * C.1 2)))) (g_hp G (f_uI C 1 f2) tl) := by
  obtain ⟨f2, hk, w⟩ := r_firstBy_grid (G := G) (h := g_hp G C tl) (y := y) (w9 := C.1 1) (t9 := C.1 2) (f := C.2.2.2.1 1) (a := 3) (ka := 4) rfl rfl (by decide) hp hw0 hw ho
  exact ⟨f2, hk, w⟩
theorem r_meetsOn_cube0 {o9 : Nat} (hn : C.1 0 ≤ 6) (ho : o9 < 4) (hr : f_ref1 (2 ^ C.1 0) 0 y3 = 0) : ∃ f2 : Nat → Int32, (∀ j, j < 2 ^ C.1 0 → f2 j = f_keyC (C.1 0) o9 (nI j)) ∧ g_Run G mX11_meetsOn 6 0 0 [.ref (g_ad G 1), .int (nI o9), .int 0, .int y3] (g_hp G C tl) (some (.int (if (fun x => f_bcL (f_border x (C.1 0))) (f_firsts f2 (2 ^ C.1 0) y3 (2 ^ C.1 0)) = (fun x => f_bcL (f_border x (C.1 0))) (f_lo (fun x => f_bcL (f_border x (C.1 0))) y3 (f_all (2 ^ C.1 0))) then 1 else 0))) (g_hp G (f_uI C 0 f2) tl) := by
  obtain ⟨f2, hk, w⟩ := r_first_cube (G := G) (tl := tl) (y := y3) hn ho
  refine ⟨f2, hk, ?_⟩
  refine g_Run.of (lv := [(0, .ref (g_ad G 1)), (1, .int (nI o9)), (2, .int 0), (3, .int y3)]) (by decide) (Nat.le_of_ble_eq_true rfl) rfl ?_
  refine a_aload_n 0 1 rfl dX11_meetsOn_0 rfl rfl ?_
  refine a_iload_n 2 2 rfl dX11_meetsOn_1 rfl rfl ?_
  refine a_iload_n 3 3 rfl dX11_meetsOn_2 rfl rfl ?_
  refine a_callS (as := [.ref (g_ad G 1), .int 0, .int y3]) (rest := []) (st2 := [.int (f_ref1 (2 ^ C.1 0) 0 y3)]) (u1 := 0) (v1 := 0) (u2 := 0) (v2 := 0) (r_ref_cube hn) oX11_refusalOfLeastOn q_638 q_639 rfl (by omega) (by decide) rfl (Nat.le_of_ble_eq_true rfl) 6 rfl dX11_meetsOn_3 rfl ?_
  refine a_istore (lv' := [(4, .int (f_ref1 (2 ^ C.1 0) 0 y3)), (0, .ref (g_ad G 1)), (1, .int (nI o9)), (2, .int 0), (3, .int y3)]) 8 rfl dX11_meetsOn_6 (by decide) rfl ?_
  refine a_iload 0 10 rfl dX11_meetsOn_8 rfl ?_
  refine a_if_eq 16 13 rfl dX11_meetsOn_10 (by decide) (fun _ => ?_) (fun hc => absurd (hr) hc)
  refine a_aload_n 1 17 rfl dX11_meetsOn_16 rfl rfl ?_
  refine a_iload_n 3 18 rfl dX11_meetsOn_17 rfl rfl ?_
  refine a_aload_n 1 19 rfl dX11_meetsOn_18 rfl rfl ?_
  refine a_iload_n 3 20 rfl dX11_meetsOn_19 rfl rfl ?_
  refine a_iload_n 4 21 rfl dX11_meetsOn_20 rfl rfl ?_
  refine a_aload_n 1 22 rfl dX11_meetsOn_21 rfl rfl ?_
  refine a_callU (as := []) (C := RX3) (owner := "LeastShadows$Ground") (x := ⟨"LeastShadows$Ground", "all", "()J"⟩) (rest := [.int y3, .int 0, .ref (g_ad G 1), .int 0, .ref (g_ad G 1)]) (st2 := [.long (f_all (2 ^ C.1 0)), .int y3, .int 0, .ref (g_ad G 1), .int 0, .ref (g_ad G 1)]) (u1 := 0) (v1 := 0) (u2 := 0) (v2 := 0) (r_all_cube (n := C.1 0) rfl hn) (⟨_, _, _, _, rfl, rfl⟩) oX7_all ⟨q_701, q_380, q_381, q_379, ⟨by decide, by decide⟩, Or.inl rfl⟩ rfl (by omega) (by decide) rfl (Nat.le_of_ble_eq_true rfl) 25 rfl dX11_meetsOn_22 rfl ?_
  refine a_callU (as := [.int 0, .int y3, .long (f_all (2 ^ C.1 0))]) (C := RX3) (owner := "LeastShadows$Ground") (x := ⟨"LeastShadows$Ground", "leastOf", "(IIJ)J"⟩) (rest := [.int 0, .ref (g_ad G 1)]) (st2 := [.long (f_lo (fun x => f_bcL (f_border x (C.1 0))) y3 (f_all (2 ^ C.1 0))), .int 0, .ref (g_ad G 1)]) (u1 := 0) (v1 := 0) (u2 := 0) (v2 := 0) (r_lo_cube0 hn) (⟨_, _, _, _, rfl, rfl⟩) oX7_leastOf ⟨q_702, q_1665, q_1666, q_652, ⟨by decide, by decide⟩, Or.inl rfl⟩ rfl (by omega) (by decide) rfl (Nat.le_of_ble_eq_true rfl) 28 rfl dX11_meetsOn_25 rfl ?_
  refine a_callU (as := [.int 0, .long (f_lo (fun x => f_bcL (f_border x (C.1 0))) y3 (f_all (2 ^ C.1 0)))]) (C := RX3) (owner := "LeastShadows$Ground") (x := ⟨"LeastShadows$Ground", "measure", "(IJ)I"⟩) (rest := []) (st2 := [.int ((fun x => f_bcL (f_border x (C.1 0))) (f_lo (fun x => f_bcL (f_border x (C.1 0))) y3 (f_all (2 ^ C.1 0))))]) (u1 := 0) (v1 := 0) (u2 := 0) (v2 := 0) (r_X3_measure0 (n := C.1 0) rfl hn) (⟨_, _, _, _, rfl, rfl⟩) oX3_measure ⟨q_703, q_660, q_661, q_662, ⟨by decide, by decide⟩, Or.inr q_659⟩ rfl (by omega) (by decide) rfl (Nat.le_of_ble_eq_true rfl) 31 rfl dX11_meetsOn_28 rfl ?_
  refine a_istore (lv' := [(5, .int ((fun x => f_bcL (f_border x (C.1 0))) (f_lo (fun x => f_bcL (f_border x (C.1 0))) y3 (f_all (2 ^ C.1 0))))), (4, .int (f_ref1 (2 ^ C.1 0) 0 y3)), (0, .ref (g_ad G 1)), (1, .int (nI o9)), (2, .int 0), (3, .int y3)]) 33 rfl dX11_meetsOn_31 (by decide) rfl ?_
  refine a_aload_n 2 34 rfl dX11_meetsOn_33 rfl rfl ?_
  refine a_iload_n 4 35 rfl dX11_meetsOn_34 rfl rfl ?_
  refine a_aload_n 2 36 rfl dX11_meetsOn_35 rfl rfl ?_
  refine a_iload_n 3 37 rfl dX11_meetsOn_36 rfl rfl ?_
  refine a_iload_n 5 38 rfl dX11_meetsOn_37 rfl rfl ?_
  refine a_callU (as := [.int (nI o9), .int y3]) (C := RX3) (owner := "LeastShadows$Ground") (x := ⟨"LeastShadows$Ground", "firstBy", "(II)J"⟩) (rest := [.int 0, .ref (g_ad G 1)]) (st2 := [.long (f_firsts f2 (2 ^ C.1 0) y3 (2 ^ C.1 0)), .int 0, .ref (g_ad G 1)]) (u1 := 0) (v1 := 0) (u2 := 0) (v2 := 0) (w) (⟨_, _, _, _, rfl, rfl⟩) oX7_firstBy ⟨q_704, q_1668, q_1669, q_628, ⟨by decide, by decide⟩, Or.inl rfl⟩ rfl (by omega) (by decide) rfl (Nat.le_of_ble_eq_true rfl) 41 rfl dX11_meetsOn_38 rfl ?_
  refine a_eq (h2 := g_hp G (f_uI C 0 f2) tl) rfl rfl rfl (rfl) ?_
  refine a_callU (as := [.int 0, .long (f_firsts f2 (2 ^ C.1 0) y3 (2 ^ C.1 0))]) (C := RX3) (owner := "LeastShadows$Ground") (x := ⟨"LeastShadows$Ground", "measure", "(IJ)I"⟩) (rest := []) (st2 := [.int ((fun x => f_bcL (f_border x (C.1 0))) (f_firsts f2 (2 ^ C.1 0) y3 (2 ^ C.1 0)))]) (u1 := 0) (v1 := 0) (u2 := 0) (v2 := 0) (r_X3_measure0 (n := C.1 0) rfl hn) (⟨_, _, _, _, rfl, rfl⟩) oX3_measure ⟨q_703, q_660, q_661, q_662, ⟨by decide, by decide⟩, Or.inr q_659⟩ rfl (by omega) (by decide) rfl (Nat.le_of_ble_eq_true rfl) 44 rfl dX11_meetsOn_41 rfl ?_
  refine a_iload 0 46 rfl dX11_meetsOn_44 rfl ?_
  by_cases e9 : (fun x => f_bcL (f_border x (C.1 0))) (f_firsts f2 (2 ^ C.1 0) y3 (2 ^ C.1 0)) = (fun x => f_bcL (f_border x (C.1 0))) (f_lo (fun x => f_bcL (f_border x (C.1 0))) y3 (f_all (2 ^ C.1 0)))
  · skip
    refine a_icmp_ne 53 49 rfl dX11_meetsOn_46 (by decide) (fun hc => absurd (e9) hc) (fun _ => ?_)
    refine a_iconst (x := 1) 50 rfl dX11_meetsOn_49 (by decide) ?_
    refine a_goto 54 dX11_meetsOn_50 (by decide) ?_
    refine a_callS (as := [.int 1]) (rest := []) (st2 := [.int 1]) (u1 := 0) (v1 := 0) (u2 := 0) (v2 := 0) (r_yes1) oX11_yesOrNo q_540 q_541 rfl (by omega) (by decide) rfl (Nat.le_of_ble_eq_true rfl) 57 rfl dX11_meetsOn_54 rfl ?_
    exact a_ireturn .int rfl rfl ((by rw [if_pos e9])) (rfl) dX11_meetsOn_57
  · skip
    refine a_icmp_ne 53 49 rfl dX11_meetsOn_46 (by decide) (fun _ => ?_) (fun hc => absurd hc (e9))
    refine a_iconst (x := 0) 54 rfl dX11_meetsOn_53 (by decide) ?_
    refine a_callS (as := [.int 0]) (rest := []) (st2 := [.int 0]) (u1 := 0) (v1 := 0) (u2 := 0) (v2 := 0) (r_yes0) oX11_yesOrNo q_540 q_541 rfl (by omega) (by decide) rfl (Nat.le_of_ble_eq_true rfl) 57 rfl dX11_meetsOn_54 rfl ?_
    exact a_ireturn .int rfl rfl ((by rw [if_neg e9])) (rfl) dX11_meetsOn_57
theorem r_X11_meets0 {o9 : Nat} (hn : C.1 0 ≤ 6) (ho : o9 < 4) (hr : f_ref1 (2 ^ C.1 0) 0 y3 = 0) : ∃ f2 : Nat → Int32, (∀ j, j < 2 ^ C.1 0 → f2 j = f_keyC (C.1 0) o9 (nI j)) ∧ g_Run G mX11_meets 7 0 0 [.ref (g_ad G 0), .int (nI o9), .int 0, .int y3] (g_hp G C tl) (some (.int (if (fun x => f_bcL (f_border x (C.1 0))) (f_firsts f2 (2 ^ C.1 0) y3 (2 ^ C.1 0)) = (fun x => f_bcL (f_border x (C.1 0))) (f_lo (fun x => f_bcL (f_border x (C.1 0))) y3 (f_all (2 ^ C.1 0))) then 1 else 0))) (g_hp G (f_uI C 0 f2) tl) := by
  obtain ⟨f2, hk, w⟩ := r_meetsOn_cube0 (G := G) (tl := tl) (y3 := y3) hn ho hr
  refine ⟨f2, hk, ?_⟩
  refine g_Run.of (lv := [(0, .ref (g_ad G 0)), (1, .int (nI o9)), (2, .int 0), (3, .int y3)]) (by decide) (Nat.le_of_ble_eq_true rfl) rfl ?_
  refine a_iload_n 1 1 rfl dX11_meets_0 rfl rfl ?_
  refine a_if_lt 9 4 rfl dX11_meets_1 (by decide) (fun hc => absurd hc (nI_pos (by omega))) (fun _ => ?_)
  refine a_iload_n 1 5 rfl dX11_meets_4 rfl rfl ?_
  refine a_iconst (x := 4) 6 rfl dX11_meets_5 (by decide) ?_
  refine a_icmp_lt 13 9 rfl dX11_meets_6 (by decide) (fun _ => ?_) (fun hc => absurd (nI_lt (b := 4) ho (by omega)) hc)
  refine a_aload_n 0 14 rfl dX11_meets_13 rfl rfl ?_
  refine a_get 0 cl_10 f_RX11_12_10 (by decide) (rfl) rfl 17 rfl dX11_meets_14 ?_
  refine a_iload_n 1 18 rfl dX11_meets_17 rfl rfl ?_
  refine a_iload_n 2 19 rfl dX11_meets_18 rfl rfl ?_
  refine a_iload_n 3 20 rfl dX11_meets_19 rfl rfl ?_
  refine a_callS (as := [.ref (g_ad G 1), .int (nI o9), .int 0, .int y3]) (rest := []) (st2 := [.int (if (fun x => f_bcL (f_border x (C.1 0))) (f_firsts f2 (2 ^ C.1 0) y3 (2 ^ C.1 0)) = (fun x => f_bcL (f_border x (C.1 0))) (f_lo (fun x => f_bcL (f_border x (C.1 0))) y3 (f_all (2 ^ C.1 0))) then 1 else 0)]) (u1 := 0) (v1 := 0) (u2 := 0) (v2 := 0) (w) oX11_meetsOn q_698 q_699 rfl (by omega) (by decide) rfl (Nat.le_of_ble_eq_true rfl) 23 rfl dX11_meets_20 rfl ?_
  refine a_eq (h2 := g_hp G (f_uI C 0 f2) tl) rfl rfl rfl (rfl) ?_
  exact a_ireturn .int rfl rfl (rfl) (rfl) dX11_meets_23

theorem r_meetsOn_cube1 {o9 : Nat} (hn : C.1 0 ≤ 6) (ho : o9 < 4) (hr : f_ref1 (2 ^ C.1 0) 1 y3 = 0) : ∃ f2 : Nat → Int32, (∀ j, j < 2 ^ C.1 0 → f2 j = f_keyC (C.1 0) o9 (nI j)) ∧ g_Run G mX11_meetsOn 6 0 0 [.ref (g_ad G 1), .int (nI o9), .int 1, .int y3] (g_hp G C tl) (some (.int (if (fun x => f_edges x (C.1 0) (C.1 0)) (f_firsts f2 (2 ^ C.1 0) y3 (2 ^ C.1 0)) = (fun x => f_edges x (C.1 0) (C.1 0)) (f_lo (fun x => f_edges x (C.1 0) (C.1 0)) y3 (f_all (2 ^ C.1 0))) then 1 else 0))) (g_hp G (f_uI C 0 f2) tl) := by
  obtain ⟨f2, hk, w⟩ := r_first_cube (G := G) (tl := tl) (y := y3) hn ho
  refine ⟨f2, hk, ?_⟩
  refine g_Run.of (lv := [(0, .ref (g_ad G 1)), (1, .int (nI o9)), (2, .int 1), (3, .int y3)]) (by decide) (Nat.le_of_ble_eq_true rfl) rfl ?_
  refine a_aload_n 0 1 rfl dX11_meetsOn_0 rfl rfl ?_
  refine a_iload_n 2 2 rfl dX11_meetsOn_1 rfl rfl ?_
  refine a_iload_n 3 3 rfl dX11_meetsOn_2 rfl rfl ?_
  refine a_callS (as := [.ref (g_ad G 1), .int 1, .int y3]) (rest := []) (st2 := [.int (f_ref1 (2 ^ C.1 0) 1 y3)]) (u1 := 0) (v1 := 0) (u2 := 0) (v2 := 0) (r_ref_cube hn) oX11_refusalOfLeastOn q_638 q_639 rfl (by omega) (by decide) rfl (Nat.le_of_ble_eq_true rfl) 6 rfl dX11_meetsOn_3 rfl ?_
  refine a_istore (lv' := [(4, .int (f_ref1 (2 ^ C.1 0) 1 y3)), (0, .ref (g_ad G 1)), (1, .int (nI o9)), (2, .int 1), (3, .int y3)]) 8 rfl dX11_meetsOn_6 (by decide) rfl ?_
  refine a_iload 0 10 rfl dX11_meetsOn_8 rfl ?_
  refine a_if_eq 16 13 rfl dX11_meetsOn_10 (by decide) (fun _ => ?_) (fun hc => absurd (hr) hc)
  refine a_aload_n 1 17 rfl dX11_meetsOn_16 rfl rfl ?_
  refine a_iload_n 3 18 rfl dX11_meetsOn_17 rfl rfl ?_
  refine a_aload_n 1 19 rfl dX11_meetsOn_18 rfl rfl ?_
  refine a_iload_n 3 20 rfl dX11_meetsOn_19 rfl rfl ?_
  refine a_iload_n 4 21 rfl dX11_meetsOn_20 rfl rfl ?_
  refine a_aload_n 1 22 rfl dX11_meetsOn_21 rfl rfl ?_
  refine a_callU (as := []) (C := RX3) (owner := "LeastShadows$Ground") (x := ⟨"LeastShadows$Ground", "all", "()J"⟩) (rest := [.int y3, .int 1, .ref (g_ad G 1), .int 1, .ref (g_ad G 1)]) (st2 := [.long (f_all (2 ^ C.1 0)), .int y3, .int 1, .ref (g_ad G 1), .int 1, .ref (g_ad G 1)]) (u1 := 0) (v1 := 0) (u2 := 0) (v2 := 0) (r_all_cube (n := C.1 0) rfl hn) (⟨_, _, _, _, rfl, rfl⟩) oX7_all ⟨q_701, q_380, q_381, q_379, ⟨by decide, by decide⟩, Or.inl rfl⟩ rfl (by omega) (by decide) rfl (Nat.le_of_ble_eq_true rfl) 25 rfl dX11_meetsOn_22 rfl ?_
  refine a_callU (as := [.int 1, .int y3, .long (f_all (2 ^ C.1 0))]) (C := RX3) (owner := "LeastShadows$Ground") (x := ⟨"LeastShadows$Ground", "leastOf", "(IIJ)J"⟩) (rest := [.int 1, .ref (g_ad G 1)]) (st2 := [.long (f_lo (fun x => f_edges x (C.1 0) (C.1 0)) y3 (f_all (2 ^ C.1 0))), .int 1, .ref (g_ad G 1)]) (u1 := 0) (v1 := 0) (u2 := 0) (v2 := 0) (r_lo_cube1 hn) (⟨_, _, _, _, rfl, rfl⟩) oX7_leastOf ⟨q_702, q_1665, q_1666, q_652, ⟨by decide, by decide⟩, Or.inl rfl⟩ rfl (by omega) (by decide) rfl (Nat.le_of_ble_eq_true rfl) 28 rfl dX11_meetsOn_25 rfl ?_
  refine a_callU (as := [.int 1, .long (f_lo (fun x => f_edges x (C.1 0) (C.1 0)) y3 (f_all (2 ^ C.1 0)))]) (C := RX3) (owner := "LeastShadows$Ground") (x := ⟨"LeastShadows$Ground", "measure", "(IJ)I"⟩) (rest := []) (st2 := [.int ((fun x => f_edges x (C.1 0) (C.1 0)) (f_lo (fun x => f_edges x (C.1 0) (C.1 0)) y3 (f_all (2 ^ C.1 0))))]) (u1 := 0) (v1 := 0) (u2 := 0) (v2 := 0) (r_X3_measure1 (n := C.1 0) rfl hn) (⟨_, _, _, _, rfl, rfl⟩) oX3_measure ⟨q_703, q_660, q_661, q_662, ⟨by decide, by decide⟩, Or.inr q_659⟩ rfl (by omega) (by decide) rfl (Nat.le_of_ble_eq_true rfl) 31 rfl dX11_meetsOn_28 rfl ?_
  refine a_istore (lv' := [(5, .int ((fun x => f_edges x (C.1 0) (C.1 0)) (f_lo (fun x => f_edges x (C.1 0) (C.1 0)) y3 (f_all (2 ^ C.1 0))))), (4, .int (f_ref1 (2 ^ C.1 0) 1 y3)), (0, .ref (g_ad G 1)), (1, .int (nI o9)), (2, .int 1), (3, .int y3)]) 33 rfl dX11_meetsOn_31 (by decide) rfl ?_
  refine a_aload_n 2 34 rfl dX11_meetsOn_33 rfl rfl ?_
  refine a_iload_n 4 35 rfl dX11_meetsOn_34 rfl rfl ?_
  refine a_aload_n 2 36 rfl dX11_meetsOn_35 rfl rfl ?_
  refine a_iload_n 3 37 rfl dX11_meetsOn_36 rfl rfl ?_
  refine a_iload_n 5 38 rfl dX11_meetsOn_37 rfl rfl ?_
  refine a_callU (as := [.int (nI o9), .int y3]) (C := RX3) (owner := "LeastShadows$Ground") (x := ⟨"LeastShadows$Ground", "firstBy", "(II)J"⟩) (rest := [.int 1, .ref (g_ad G 1)]) (st2 := [.long (f_firsts f2 (2 ^ C.1 0) y3 (2 ^ C.1 0)), .int 1, .ref (g_ad G 1)]) (u1 := 0) (v1 := 0) (u2 := 0) (v2 := 0) (w) (⟨_, _, _, _, rfl, rfl⟩) oX7_firstBy ⟨q_704, q_1668, q_1669, q_628, ⟨by decide, by decide⟩, Or.inl rfl⟩ rfl (by omega) (by decide) rfl (Nat.le_of_ble_eq_true rfl) 41 rfl dX11_meetsOn_38 rfl ?_
  refine a_eq (h2 := g_hp G (f_uI C 0 f2) tl) rfl rfl rfl (rfl) ?_
  refine a_callU (as := [.int 1, .long (f_firsts f2 (2 ^ C.1 0) y3 (2 ^ C.1 0))]) (C := RX3) (owner := "LeastShadows$Ground") (x := ⟨"LeastShadows$Ground", "measure", "(IJ)I"⟩) (rest := []) (st2 := [.int ((fun x => f_edges x (C.1 0) (C.1 0)) (f_firsts f2 (2 ^ C.1 0) y3 (2 ^ C.1 0)))]) (u1 := 0) (v1 := 0) (u2 := 0) (v2 := 0) (r_X3_measure1 (n := C.1 0) rfl hn) (⟨_, _, _, _, rfl, rfl⟩) oX3_measure ⟨q_703, q_660, q_661, q_662, ⟨by decide, by decide⟩, Or.inr q_659⟩ rfl (by omega) (by decide) rfl (Nat.le_of_ble_eq_true rfl) 44 rfl dX11_meetsOn_41 rfl ?_
  refine a_iload 0 46 rfl dX11_meetsOn_44 rfl ?_
  by_cases e9 : (fun x => f_edges x (C.1 0) (C.1 0)) (f_firsts f2 (2 ^ C.1 0) y3 (2 ^ C.1 0)) = (fun x => f_edges x (C.1 0) (C.1 0)) (f_lo (fun x => f_edges x (C.1 0) (C.1 0)) y3 (f_all (2 ^ C.1 0)))
  · skip
    refine a_icmp_ne 53 49 rfl dX11_meetsOn_46 (by decide) (fun hc => absurd (e9) hc) (fun _ => ?_)
    refine a_iconst (x := 1) 50 rfl dX11_meetsOn_49 (by decide) ?_
    refine a_goto 54 dX11_meetsOn_50 (by decide) ?_
    refine a_callS (as := [.int 1]) (rest := []) (st2 := [.int 1]) (u1 := 0) (v1 := 0) (u2 := 0) (v2 := 0) (r_yes1) oX11_yesOrNo q_540 q_541 rfl (by omega) (by decide) rfl (Nat.le_of_ble_eq_true rfl) 57 rfl dX11_meetsOn_54 rfl ?_
    exact a_ireturn .int rfl rfl ((by rw [if_pos e9])) (rfl) dX11_meetsOn_57
  · skip
    refine a_icmp_ne 53 49 rfl dX11_meetsOn_46 (by decide) (fun _ => ?_) (fun hc => absurd hc (e9))
    refine a_iconst (x := 0) 54 rfl dX11_meetsOn_53 (by decide) ?_
    refine a_callS (as := [.int 0]) (rest := []) (st2 := [.int 0]) (u1 := 0) (v1 := 0) (u2 := 0) (v2 := 0) (r_yes0) oX11_yesOrNo q_540 q_541 rfl (by omega) (by decide) rfl (Nat.le_of_ble_eq_true rfl) 57 rfl dX11_meetsOn_54 rfl ?_
    exact a_ireturn .int rfl rfl ((by rw [if_neg e9])) (rfl) dX11_meetsOn_57
theorem r_X11_meets1 {o9 : Nat} (hn : C.1 0 ≤ 6) (ho : o9 < 4) (hr : f_ref1 (2 ^ C.1 0) 1 y3 = 0) : ∃ f2 : Nat → Int32, (∀ j, j < 2 ^ C.1 0 → f2 j = f_keyC (C.1 0) o9 (nI j)) ∧ g_Run G mX11_meets 7 0 0 [.ref (g_ad G 0), .int (nI o9), .int 1, .int y3] (g_hp G C tl) (some (.int (if (fun x => f_edges x (C.1 0) (C.1 0)) (f_firsts f2 (2 ^ C.1 0) y3 (2 ^ C.1 0)) = (fun x => f_edges x (C.1 0) (C.1 0)) (f_lo (fun x => f_edges x (C.1 0) (C.1 0)) y3 (f_all (2 ^ C.1 0))) then 1 else 0))) (g_hp G (f_uI C 0 f2) tl) := by
  obtain ⟨f2, hk, w⟩ := r_meetsOn_cube1 (G := G) (tl := tl) (y3 := y3) hn ho hr
  refine ⟨f2, hk, ?_⟩
  refine g_Run.of (lv := [(0, .ref (g_ad G 0)), (1, .int (nI o9)), (2, .int 1), (3, .int y3)]) (by decide) (Nat.le_of_ble_eq_true rfl) rfl ?_
  refine a_iload_n 1 1 rfl dX11_meets_0 rfl rfl ?_
  refine a_if_lt 9 4 rfl dX11_meets_1 (by decide) (fun hc => absurd hc (nI_pos (by omega))) (fun _ => ?_)
  refine a_iload_n 1 5 rfl dX11_meets_4 rfl rfl ?_
  refine a_iconst (x := 4) 6 rfl dX11_meets_5 (by decide) ?_
  refine a_icmp_lt 13 9 rfl dX11_meets_6 (by decide) (fun _ => ?_) (fun hc => absurd (nI_lt (b := 4) ho (by omega)) hc)
  refine a_aload_n 0 14 rfl dX11_meets_13 rfl rfl ?_
  refine a_get 0 cl_10 f_RX11_12_10 (by decide) (rfl) rfl 17 rfl dX11_meets_14 ?_
  refine a_iload_n 1 18 rfl dX11_meets_17 rfl rfl ?_
  refine a_iload_n 2 19 rfl dX11_meets_18 rfl rfl ?_
  refine a_iload_n 3 20 rfl dX11_meets_19 rfl rfl ?_
  refine a_callS (as := [.ref (g_ad G 1), .int (nI o9), .int 1, .int y3]) (rest := []) (st2 := [.int (if (fun x => f_edges x (C.1 0) (C.1 0)) (f_firsts f2 (2 ^ C.1 0) y3 (2 ^ C.1 0)) = (fun x => f_edges x (C.1 0) (C.1 0)) (f_lo (fun x => f_edges x (C.1 0) (C.1 0)) y3 (f_all (2 ^ C.1 0))) then 1 else 0)]) (u1 := 0) (v1 := 0) (u2 := 0) (v2 := 0) (w) oX11_meetsOn q_698 q_699 rfl (by omega) (by decide) rfl (Nat.le_of_ble_eq_true rfl) 23 rfl dX11_meets_20 rfl ?_
  refine a_eq (h2 := g_hp G (f_uI C 0 f2) tl) rfl rfl rfl (rfl) ?_
  exact a_ireturn .int rfl rfl (rfl) (rfl) dX11_meets_23

theorem r_meetsOn_grid0 {o9 : Nat} (hp : C.1 1 * C.1 2 ≤ 64) (ht : C.1 2 ≤ 8) (hw0 : 0 < C.1 1) (hw : C.1 1 ≤ 8) (ho : o9 < 3) (hr : f_ref1 (C.1 1 * C.1 2) 0 y3 = 0) : ∃ f2 : Nat → Int32, (∀ j, j < C.1 1 * C.1 2 → f2 j = f_keyG (C.1 1) o9 (nI j)) ∧ g_Run G mX11_meetsOn 6 0 0 [.ref (g_ad G 3), .int (nI o9), .int 0, .int y3] (g_hp G C tl) (some (.int (if (fun x => f_bcL (f_borderG (C.1 1) (C.1 2) x)) (f_firsts f2 (C.1 1 * C.1 2) y3 (C.1 1 * C.1 2)) = (fun x => f_bcL (f_borderG (C.1 1) (C.1 2) x)) (f_lo (fun x => f_bcL (f_borderG (C.1 1) (C.1 2) x)) y3 (f_all (C.1 1 * C.1 2))) then 1 else 0))) (g_hp G (f_uI C 1 f2) tl) := by
  obtain ⟨f2, hk, w⟩ := r_first_grid (G := G) (tl := tl) (y := y3) hp hw0 hw ho
  refine ⟨f2, hk, ?_⟩
  refine g_Run.of (lv := [(0, .ref (g_ad G 3)), (1, .int (nI o9)), (2, .int 0), (3, .int y3)]) (by decide) (Nat.le_of_ble_eq_true rfl) rfl ?_
  refine a_aload_n 0 1 rfl dX11_meetsOn_0 rfl rfl ?_
  refine a_iload_n 2 2 rfl dX11_meetsOn_1 rfl rfl ?_
  refine a_iload_n 3 3 rfl dX11_meetsOn_2 rfl rfl ?_
  refine a_callS (as := [.ref (g_ad G 3), .int 0, .int y3]) (rest := []) (st2 := [.int (f_ref1 (C.1 1 * C.1 2) 0 y3)]) (u1 := 0) (v1 := 0) (u2 := 0) (v2 := 0) (r_ref_grid hp) oX11_refusalOfLeastOn q_638 q_639 rfl (by omega) (by decide) rfl (Nat.le_of_ble_eq_true rfl) 6 rfl dX11_meetsOn_3 rfl ?_
  refine a_istore (lv' := [(4, .int (f_ref1 (C.1 1 * C.1 2) 0 y3)), (0, .ref (g_ad G 3)), (1, .int (nI o9)), (2, .int 0), (3, .int y3)]) 8 rfl dX11_meetsOn_6 (by decide) rfl ?_
  refine a_iload 0 10 rfl dX11_meetsOn_8 rfl ?_
  refine a_if_eq 16 13 rfl dX11_meetsOn_10 (by decide) (fun _ => ?_) (fun hc => absurd (hr) hc)
  refine a_aload_n 1 17 rfl dX11_meetsOn_16 rfl rfl ?_
  refine a_iload_n 3 18 rfl dX11_meetsOn_17 rfl rfl ?_
  refine a_aload_n 1 19 rfl dX11_meetsOn_18 rfl rfl ?_
  refine a_iload_n 3 20 rfl dX11_meetsOn_19 rfl rfl ?_
  refine a_iload_n 4 21 rfl dX11_meetsOn_20 rfl rfl ?_
  refine a_aload_n 1 22 rfl dX11_meetsOn_21 rfl rfl ?_
  refine a_callU (as := []) (C := RX6) (owner := "LeastShadows$Ground") (x := ⟨"LeastShadows$Ground", "all", "()J"⟩) (rest := [.int y3, .int 0, .ref (g_ad G 3), .int 0, .ref (g_ad G 3)]) (st2 := [.long (f_all (C.1 1 * C.1 2)), .int y3, .int 0, .ref (g_ad G 3), .int 0, .ref (g_ad G 3)]) (u1 := 0) (v1 := 0) (u2 := 0) (v2 := 0) (r_all_grid (w9 := C.1 1) (t9 := C.1 2) rfl hp) (⟨_, _, _, _, rfl, rfl⟩) oX7_all ⟨q_701, q_380, q_382, q_379, ⟨by decide, by decide⟩, Or.inl rfl⟩ rfl (by omega) (by decide) rfl (Nat.le_of_ble_eq_true rfl) 25 rfl dX11_meetsOn_22 rfl ?_
  refine a_callU (as := [.int 0, .int y3, .long (f_all (C.1 1 * C.1 2))]) (C := RX6) (owner := "LeastShadows$Ground") (x := ⟨"LeastShadows$Ground", "leastOf", "(IIJ)J"⟩) (rest := [.int 0, .ref (g_ad G 3)]) (st2 := [.long (f_lo (fun x => f_bcL (f_borderG (C.1 1) (C.1 2) x)) y3 (f_all (C.1 1 * C.1 2))), .int 0, .ref (g_ad G 3)]) (u1 := 0) (v1 := 0) (u2 := 0) (v2 := 0) (r_lo_grid0 hp ht) (⟨_, _, _, _, rfl, rfl⟩) oX7_leastOf ⟨q_702, q_1665, q_1667, q_652, ⟨by decide, by decide⟩, Or.inl rfl⟩ rfl (by omega) (by decide) rfl (Nat.le_of_ble_eq_true rfl) 28 rfl dX11_meetsOn_25 rfl ?_
  refine a_callU (as := [.int 0, .long (f_lo (fun x => f_bcL (f_borderG (C.1 1) (C.1 2) x)) y3 (f_all (C.1 1 * C.1 2)))]) (C := RX6) (owner := "LeastShadows$Ground") (x := ⟨"LeastShadows$Ground", "measure", "(IJ)I"⟩) (rest := []) (st2 := [.int ((fun x => f_bcL (f_borderG (C.1 1) (C.1 2) x)) (f_lo (fun x => f_bcL (f_borderG (C.1 1) (C.1 2) x)) y3 (f_all (C.1 1 * C.1 2))))]) (u1 := 0) (v1 := 0) (u2 := 0) (v2 := 0) (r_X6_measure0 (w9 := C.1 1) (t9 := C.1 2) rfl hp ht) (⟨_, _, _, _, rfl, rfl⟩) oX6_measure ⟨q_703, q_660, q_666, q_667, ⟨by decide, by decide⟩, Or.inr q_659⟩ rfl (by omega) (by decide) rfl (Nat.le_of_ble_eq_true rfl) 31 rfl dX11_meetsOn_28 rfl ?_
  refine a_istore (lv' := [(5, .int ((fun x => f_bcL (f_borderG (C.1 1) (C.1 2) x)) (f_lo (fun x => f_bcL (f_borderG (C.1 1) (C.1 2) x)) y3 (f_all (C.1 1 * C.1 2))))), (4, .int (f_ref1 (C.1 1 * C.1 2) 0 y3)), (0, .ref (g_ad G 3)), (1, .int (nI o9)), (2, .int 0), (3, .int y3)]) 33 rfl dX11_meetsOn_31 (by decide) rfl ?_
  refine a_aload_n 2 34 rfl dX11_meetsOn_33 rfl rfl ?_
  refine a_iload_n 4 35 rfl dX11_meetsOn_34 rfl rfl ?_
  refine a_aload_n 2 36 rfl dX11_meetsOn_35 rfl rfl ?_
  refine a_iload_n 3 37 rfl dX11_meetsOn_36 rfl rfl ?_
  refine a_iload_n 5 38 rfl dX11_meetsOn_37 rfl rfl ?_
  refine a_callU (as := [.int (nI o9), .int y3]) (C := RX6) (owner := "LeastShadows$Ground") (x := ⟨"LeastShadows$Ground", "firstBy", "(II)J"⟩) (rest := [.int 0, .ref (g_ad G 3)]) (st2 := [.long (f_firsts f2 (C.1 1 * C.1 2) y3 (C.1 1 * C.1 2)), .int 0, .ref (g_ad G 3)]) (u1 := 0) (v1 := 0) (u2 := 0) (v2 := 0) (w) (⟨_, _, _, _, rfl, rfl⟩) oX7_firstBy ⟨q_704, q_1668, q_1670, q_628, ⟨by decide, by decide⟩, Or.inl rfl⟩ rfl (by omega) (by decide) rfl (Nat.le_of_ble_eq_true rfl) 41 rfl dX11_meetsOn_38 rfl ?_
  refine a_eq (h2 := g_hp G (f_uI C 1 f2) tl) rfl rfl rfl (rfl) ?_
  refine a_callU (as := [.int 0, .long (f_firsts f2 (C.1 1 * C.1 2) y3 (C.1 1 * C.1 2))]) (C := RX6) (owner := "LeastShadows$Ground") (x := ⟨"LeastShadows$Ground", "measure", "(IJ)I"⟩) (rest := []) (st2 := [.int ((fun x => f_bcL (f_borderG (C.1 1) (C.1 2) x)) (f_firsts f2 (C.1 1 * C.1 2) y3 (C.1 1 * C.1 2)))]) (u1 := 0) (v1 := 0) (u2 := 0) (v2 := 0) (r_X6_measure0 (w9 := C.1 1) (t9 := C.1 2) rfl hp ht) (⟨_, _, _, _, rfl, rfl⟩) oX6_measure ⟨q_703, q_660, q_666, q_667, ⟨by decide, by decide⟩, Or.inr q_659⟩ rfl (by omega) (by decide) rfl (Nat.le_of_ble_eq_true rfl) 44 rfl dX11_meetsOn_41 rfl ?_
  refine a_iload 0 46 rfl dX11_meetsOn_44 rfl ?_
  by_cases e9 : (fun x => f_bcL (f_borderG (C.1 1) (C.1 2) x)) (f_firsts f2 (C.1 1 * C.1 2) y3 (C.1 1 * C.1 2)) = (fun x => f_bcL (f_borderG (C.1 1) (C.1 2) x)) (f_lo (fun x => f_bcL (f_borderG (C.1 1) (C.1 2) x)) y3 (f_all (C.1 1 * C.1 2)))
  · skip
    refine a_icmp_ne 53 49 rfl dX11_meetsOn_46 (by decide) (fun hc => absurd (e9) hc) (fun _ => ?_)
    refine a_iconst (x := 1) 50 rfl dX11_meetsOn_49 (by decide) ?_
    refine a_goto 54 dX11_meetsOn_50 (by decide) ?_
    refine a_callS (as := [.int 1]) (rest := []) (st2 := [.int 1]) (u1 := 0) (v1 := 0) (u2 := 0) (v2 := 0) (r_yes1) oX11_yesOrNo q_540 q_541 rfl (by omega) (by decide) rfl (Nat.le_of_ble_eq_true rfl) 57 rfl dX11_meetsOn_54 rfl ?_
    exact a_ireturn .int rfl rfl ((by rw [if_pos e9])) (rfl) dX11_meetsOn_57
  · skip
    refine a_icmp_ne 53 49 rfl dX11_meetsOn_46 (by decide) (fun _ => ?_) (fun hc => absurd hc (e9))
    refine a_iconst (x := 0) 54 rfl dX11_meetsOn_53 (by decide) ?_
    refine a_callS (as := [.int 0]) (rest := []) (st2 := [.int 0]) (u1 := 0) (v1 := 0) (u2 := 0) (v2 := 0) (r_yes0) oX11_yesOrNo q_540 q_541 rfl (by omega) (by decide) rfl (Nat.le_of_ble_eq_true rfl) 57 rfl dX11_meetsOn_54 rfl ?_
    exact a_ireturn .int rfl rfl ((by rw [if_neg e9])) (rfl) dX11_meetsOn_57
theorem r_X11_meetsCells0 {o9 : Nat} (hp : C.1 1 * C.1 2 ≤ 64) (ht : C.1 2 ≤ 8) (hw0 : 0 < C.1 1) (hw : C.1 1 ≤ 8) (ho : o9 < 3) (hr : f_ref1 (C.1 1 * C.1 2) 0 y3 = 0) : ∃ f2 : Nat → Int32, (∀ j, j < C.1 1 * C.1 2 → f2 j = f_keyG (C.1 1) o9 (nI j)) ∧ g_Run G mX11_meetsCells 7 0 0 [.ref (g_ad G 0), .int (nI o9), .int 0, .int y3] (g_hp G C tl) (some (.int (if (fun x => f_bcL (f_borderG (C.1 1) (C.1 2) x)) (f_firsts f2 (C.1 1 * C.1 2) y3 (C.1 1 * C.1 2)) = (fun x => f_bcL (f_borderG (C.1 1) (C.1 2) x)) (f_lo (fun x => f_bcL (f_borderG (C.1 1) (C.1 2) x)) y3 (f_all (C.1 1 * C.1 2))) then 1 else 0))) (g_hp G (f_uI C 1 f2) tl) := by
  obtain ⟨f2, hk, w⟩ := r_meetsOn_grid0 (G := G) (tl := tl) (y3 := y3) hp ht hw0 hw ho hr
  refine ⟨f2, hk, ?_⟩
  refine g_Run.of (lv := [(0, .ref (g_ad G 0)), (1, .int (nI o9)), (2, .int 0), (3, .int y3)]) (by decide) (Nat.le_of_ble_eq_true rfl) rfl ?_
  refine a_iload_n 1 1 rfl dX11_meetsCells_0 rfl rfl ?_
  refine a_if_lt 9 4 rfl dX11_meetsCells_1 (by decide) (fun hc => absurd hc (nI_pos (by omega))) (fun _ => ?_)
  refine a_iload_n 1 5 rfl dX11_meetsCells_4 rfl rfl ?_
  refine a_iconst (x := 3) 6 rfl dX11_meetsCells_5 (by decide) ?_
  refine a_icmp_lt 13 9 rfl dX11_meetsCells_6 (by decide) (fun _ => ?_) (fun hc => absurd (nI_lt (b := 3) ho (by omega)) hc)
  refine a_aload_n 0 14 rfl dX11_meetsCells_13 rfl rfl ?_
  refine a_get 1 cl_10 f_RX11_21_10 (by decide) (rfl) rfl 17 rfl dX11_meetsCells_14 ?_
  refine a_iload_n 1 18 rfl dX11_meetsCells_17 rfl rfl ?_
  refine a_iload_n 2 19 rfl dX11_meetsCells_18 rfl rfl ?_
  refine a_iload_n 3 20 rfl dX11_meetsCells_19 rfl rfl ?_
  refine a_callS (as := [.ref (g_ad G 3), .int (nI o9), .int 0, .int y3]) (rest := []) (st2 := [.int (if (fun x => f_bcL (f_borderG (C.1 1) (C.1 2) x)) (f_firsts f2 (C.1 1 * C.1 2) y3 (C.1 1 * C.1 2)) = (fun x => f_bcL (f_borderG (C.1 1) (C.1 2) x)) (f_lo (fun x => f_bcL (f_borderG (C.1 1) (C.1 2) x)) y3 (f_all (C.1 1 * C.1 2))) then 1 else 0)]) (u1 := 0) (v1 := 0) (u2 := 0) (v2 := 0) (w) oX11_meetsOn q_698 q_699 rfl (by omega) (by decide) rfl (Nat.le_of_ble_eq_true rfl) 23 rfl dX11_meetsCells_20 rfl ?_
  refine a_eq (h2 := g_hp G (f_uI C 1 f2) tl) rfl rfl rfl (rfl) ?_
  exact a_ireturn .int rfl rfl (rfl) (rfl) dX11_meetsCells_23

theorem r_meetsOn_grid1 {o9 : Nat} (hp : C.1 1 * C.1 2 ≤ 64) (ht : C.1 2 ≤ 8) (hw0 : 0 < C.1 1) (hw : C.1 1 ≤ 8) (ho : o9 < 3) (hr : f_ref1 (C.1 1 * C.1 2) 1 y3 = 0) : ∃ f2 : Nat → Int32, (∀ j, j < C.1 1 * C.1 2 → f2 j = f_keyG (C.1 1) o9 (nI j)) ∧ g_Run G mX11_meetsOn 6 0 0 [.ref (g_ad G 3), .int (nI o9), .int 1, .int y3] (g_hp G C tl) (some (.int (if (f_edgesG (C.1 1) (C.1 2)) (f_firsts f2 (C.1 1 * C.1 2) y3 (C.1 1 * C.1 2)) = (f_edgesG (C.1 1) (C.1 2)) (f_lo (f_edgesG (C.1 1) (C.1 2)) y3 (f_all (C.1 1 * C.1 2))) then 1 else 0))) (g_hp G (f_uI C 1 f2) tl) := by
  obtain ⟨f2, hk, w⟩ := r_first_grid (G := G) (tl := tl) (y := y3) hp hw0 hw ho
  refine ⟨f2, hk, ?_⟩
  refine g_Run.of (lv := [(0, .ref (g_ad G 3)), (1, .int (nI o9)), (2, .int 1), (3, .int y3)]) (by decide) (Nat.le_of_ble_eq_true rfl) rfl ?_
  refine a_aload_n 0 1 rfl dX11_meetsOn_0 rfl rfl ?_
  refine a_iload_n 2 2 rfl dX11_meetsOn_1 rfl rfl ?_
  refine a_iload_n 3 3 rfl dX11_meetsOn_2 rfl rfl ?_
  refine a_callS (as := [.ref (g_ad G 3), .int 1, .int y3]) (rest := []) (st2 := [.int (f_ref1 (C.1 1 * C.1 2) 1 y3)]) (u1 := 0) (v1 := 0) (u2 := 0) (v2 := 0) (r_ref_grid hp) oX11_refusalOfLeastOn q_638 q_639 rfl (by omega) (by decide) rfl (Nat.le_of_ble_eq_true rfl) 6 rfl dX11_meetsOn_3 rfl ?_
  refine a_istore (lv' := [(4, .int (f_ref1 (C.1 1 * C.1 2) 1 y3)), (0, .ref (g_ad G 3)), (1, .int (nI o9)), (2, .int 1), (3, .int y3)]) 8 rfl dX11_meetsOn_6 (by decide) rfl ?_
  refine a_iload 0 10 rfl dX11_meetsOn_8 rfl ?_
  refine a_if_eq 16 13 rfl dX11_meetsOn_10 (by decide) (fun _ => ?_) (fun hc => absurd (hr) hc)
  refine a_aload_n 1 17 rfl dX11_meetsOn_16 rfl rfl ?_
  refine a_iload_n 3 18 rfl dX11_meetsOn_17 rfl rfl ?_
  refine a_aload_n 1 19 rfl dX11_meetsOn_18 rfl rfl ?_
  refine a_iload_n 3 20 rfl dX11_meetsOn_19 rfl rfl ?_
  refine a_iload_n 4 21 rfl dX11_meetsOn_20 rfl rfl ?_
  refine a_aload_n 1 22 rfl dX11_meetsOn_21 rfl rfl ?_
  refine a_callU (as := []) (C := RX6) (owner := "LeastShadows$Ground") (x := ⟨"LeastShadows$Ground", "all", "()J"⟩) (rest := [.int y3, .int 1, .ref (g_ad G 3), .int 1, .ref (g_ad G 3)]) (st2 := [.long (f_all (C.1 1 * C.1 2)), .int y3, .int 1, .ref (g_ad G 3), .int 1, .ref (g_ad G 3)]) (u1 := 0) (v1 := 0) (u2 := 0) (v2 := 0) (r_all_grid (w9 := C.1 1) (t9 := C.1 2) rfl hp) (⟨_, _, _, _, rfl, rfl⟩) oX7_all ⟨q_701, q_380, q_382, q_379, ⟨by decide, by decide⟩, Or.inl rfl⟩ rfl (by omega) (by decide) rfl (Nat.le_of_ble_eq_true rfl) 25 rfl dX11_meetsOn_22 rfl ?_
  refine a_callU (as := [.int 1, .int y3, .long (f_all (C.1 1 * C.1 2))]) (C := RX6) (owner := "LeastShadows$Ground") (x := ⟨"LeastShadows$Ground", "leastOf", "(IIJ)J"⟩) (rest := [.int 1, .ref (g_ad G 3)]) (st2 := [.long (f_lo (f_edgesG (C.1 1) (C.1 2)) y3 (f_all (C.1 1 * C.1 2))), .int 1, .ref (g_ad G 3)]) (u1 := 0) (v1 := 0) (u2 := 0) (v2 := 0) (r_lo_grid1 hp ht) (⟨_, _, _, _, rfl, rfl⟩) oX7_leastOf ⟨q_702, q_1665, q_1667, q_652, ⟨by decide, by decide⟩, Or.inl rfl⟩ rfl (by omega) (by decide) rfl (Nat.le_of_ble_eq_true rfl) 28 rfl dX11_meetsOn_25 rfl ?_
  refine a_callU (as := [.int 1, .long (f_lo (f_edgesG (C.1 1) (C.1 2)) y3 (f_all (C.1 1 * C.1 2)))]) (C := RX6) (owner := "LeastShadows$Ground") (x := ⟨"LeastShadows$Ground", "measure", "(IJ)I"⟩) (rest := []) (st2 := [.int ((f_edgesG (C.1 1) (C.1 2)) (f_lo (f_edgesG (C.1 1) (C.1 2)) y3 (f_all (C.1 1 * C.1 2))))]) (u1 := 0) (v1 := 0) (u2 := 0) (v2 := 0) (r_X6_measure1 (w9 := C.1 1) (t9 := C.1 2) rfl hp ht) (⟨_, _, _, _, rfl, rfl⟩) oX6_measure ⟨q_703, q_660, q_666, q_667, ⟨by decide, by decide⟩, Or.inr q_659⟩ rfl (by omega) (by decide) rfl (Nat.le_of_ble_eq_true rfl) 31 rfl dX11_meetsOn_28 rfl ?_
  refine a_istore (lv' := [(5, .int ((f_edgesG (C.1 1) (C.1 2)) (f_lo (f_edgesG (C.1 1) (C.1 2)) y3 (f_all (C.1 1 * C.1 2))))), (4, .int (f_ref1 (C.1 1 * C.1 2) 1 y3)), (0, .ref (g_ad G 3)), (1, .int (nI o9)), (2, .int 1), (3, .int y3)]) 33 rfl dX11_meetsOn_31 (by decide) rfl ?_
  refine a_aload_n 2 34 rfl dX11_meetsOn_33 rfl rfl ?_
  refine a_iload_n 4 35 rfl dX11_meetsOn_34 rfl rfl ?_
  refine a_aload_n 2 36 rfl dX11_meetsOn_35 rfl rfl ?_
  refine a_iload_n 3 37 rfl dX11_meetsOn_36 rfl rfl ?_
  refine a_iload_n 5 38 rfl dX11_meetsOn_37 rfl rfl ?_
  refine a_callU (as := [.int (nI o9), .int y3]) (C := RX6) (owner := "LeastShadows$Ground") (x := ⟨"LeastShadows$Ground", "firstBy", "(II)J"⟩) (rest := [.int 1, .ref (g_ad G 3)]) (st2 := [.long (f_firsts f2 (C.1 1 * C.1 2) y3 (C.1 1 * C.1 2)), .int 1, .ref (g_ad G 3)]) (u1 := 0) (v1 := 0) (u2 := 0) (v2 := 0) (w) (⟨_, _, _, _, rfl, rfl⟩) oX7_firstBy ⟨q_704, q_1668, q_1670, q_628, ⟨by decide, by decide⟩, Or.inl rfl⟩ rfl (by omega) (by decide) rfl (Nat.le_of_ble_eq_true rfl) 41 rfl dX11_meetsOn_38 rfl ?_
  refine a_eq (h2 := g_hp G (f_uI C 1 f2) tl) rfl rfl rfl (rfl) ?_
  refine a_callU (as := [.int 1, .long (f_firsts f2 (C.1 1 * C.1 2) y3 (C.1 1 * C.1 2))]) (C := RX6) (owner := "LeastShadows$Ground") (x := ⟨"LeastShadows$Ground", "measure", "(IJ)I"⟩) (rest := []) (st2 := [.int ((f_edgesG (C.1 1) (C.1 2)) (f_firsts f2 (C.1 1 * C.1 2) y3 (C.1 1 * C.1 2)))]) (u1 := 0) (v1 := 0) (u2 := 0) (v2 := 0) (r_X6_measure1 (w9 := C.1 1) (t9 := C.1 2) rfl hp ht) (⟨_, _, _, _, rfl, rfl⟩) oX6_measure ⟨q_703, q_660, q_666, q_667, ⟨by decide, by decide⟩, Or.inr q_659⟩ rfl (by omega) (by decide) rfl (Nat.le_of_ble_eq_true rfl) 44 rfl dX11_meetsOn_41 rfl ?_
  refine a_iload 0 46 rfl dX11_meetsOn_44 rfl ?_
  by_cases e9 : (f_edgesG (C.1 1) (C.1 2)) (f_firsts f2 (C.1 1 * C.1 2) y3 (C.1 1 * C.1 2)) = (f_edgesG (C.1 1) (C.1 2)) (f_lo (f_edgesG (C.1 1) (C.1 2)) y3 (f_all (C.1 1 * C.1 2)))
  · skip
    refine a_icmp_ne 53 49 rfl dX11_meetsOn_46 (by decide) (fun hc => absurd (e9) hc) (fun _ => ?_)
    refine a_iconst (x := 1) 50 rfl dX11_meetsOn_49 (by decide) ?_
    refine a_goto 54 dX11_meetsOn_50 (by decide) ?_
    refine a_callS (as := [.int 1]) (rest := []) (st2 := [.int 1]) (u1 := 0) (v1 := 0) (u2 := 0) (v2 := 0) (r_yes1) oX11_yesOrNo q_540 q_541 rfl (by omega) (by decide) rfl (Nat.le_of_ble_eq_true rfl) 57 rfl dX11_meetsOn_54 rfl ?_
    exact a_ireturn .int rfl rfl ((by rw [if_pos e9])) (rfl) dX11_meetsOn_57
  · skip
    refine a_icmp_ne 53 49 rfl dX11_meetsOn_46 (by decide) (fun _ => ?_) (fun hc => absurd hc (e9))
    refine a_iconst (x := 0) 54 rfl dX11_meetsOn_53 (by decide) ?_
    refine a_callS (as := [.int 0]) (rest := []) (st2 := [.int 0]) (u1 := 0) (v1 := 0) (u2 := 0) (v2 := 0) (r_yes0) oX11_yesOrNo q_540 q_541 rfl (by omega) (by decide) rfl (Nat.le_of_ble_eq_true rfl) 57 rfl dX11_meetsOn_54 rfl ?_
    exact a_ireturn .int rfl rfl ((by rw [if_neg e9])) (rfl) dX11_meetsOn_57
theorem r_X11_meetsCells1 {o9 : Nat} (hp : C.1 1 * C.1 2 ≤ 64) (ht : C.1 2 ≤ 8) (hw0 : 0 < C.1 1) (hw : C.1 1 ≤ 8) (ho : o9 < 3) (hr : f_ref1 (C.1 1 * C.1 2) 1 y3 = 0) : ∃ f2 : Nat → Int32, (∀ j, j < C.1 1 * C.1 2 → f2 j = f_keyG (C.1 1) o9 (nI j)) ∧ g_Run G mX11_meetsCells 7 0 0 [.ref (g_ad G 0), .int (nI o9), .int 1, .int y3] (g_hp G C tl) (some (.int (if (f_edgesG (C.1 1) (C.1 2)) (f_firsts f2 (C.1 1 * C.1 2) y3 (C.1 1 * C.1 2)) = (f_edgesG (C.1 1) (C.1 2)) (f_lo (f_edgesG (C.1 1) (C.1 2)) y3 (f_all (C.1 1 * C.1 2))) then 1 else 0))) (g_hp G (f_uI C 1 f2) tl) := by
  obtain ⟨f2, hk, w⟩ := r_meetsOn_grid1 (G := G) (tl := tl) (y3 := y3) hp ht hw0 hw ho hr
  refine ⟨f2, hk, ?_⟩
  refine g_Run.of (lv := [(0, .ref (g_ad G 0)), (1, .int (nI o9)), (2, .int 1), (3, .int y3)]) (by decide) (Nat.le_of_ble_eq_true rfl) rfl ?_
  refine a_iload_n 1 1 rfl dX11_meetsCells_0 rfl rfl ?_
  refine a_if_lt 9 4 rfl dX11_meetsCells_1 (by decide) (fun hc => absurd hc (nI_pos (by omega))) (fun _ => ?_)
  refine a_iload_n 1 5 rfl dX11_meetsCells_4 rfl rfl ?_
  refine a_iconst (x := 3) 6 rfl dX11_meetsCells_5 (by decide) ?_
  refine a_icmp_lt 13 9 rfl dX11_meetsCells_6 (by decide) (fun _ => ?_) (fun hc => absurd (nI_lt (b := 3) ho (by omega)) hc)
  refine a_aload_n 0 14 rfl dX11_meetsCells_13 rfl rfl ?_
  refine a_get 1 cl_10 f_RX11_21_10 (by decide) (rfl) rfl 17 rfl dX11_meetsCells_14 ?_
  refine a_iload_n 1 18 rfl dX11_meetsCells_17 rfl rfl ?_
  refine a_iload_n 2 19 rfl dX11_meetsCells_18 rfl rfl ?_
  refine a_iload_n 3 20 rfl dX11_meetsCells_19 rfl rfl ?_
  refine a_callS (as := [.ref (g_ad G 3), .int (nI o9), .int 1, .int y3]) (rest := []) (st2 := [.int (if (f_edgesG (C.1 1) (C.1 2)) (f_firsts f2 (C.1 1 * C.1 2) y3 (C.1 1 * C.1 2)) = (f_edgesG (C.1 1) (C.1 2)) (f_lo (f_edgesG (C.1 1) (C.1 2)) y3 (f_all (C.1 1 * C.1 2))) then 1 else 0)]) (u1 := 0) (v1 := 0) (u2 := 0) (v2 := 0) (w) oX11_meetsOn q_698 q_699 rfl (by omega) (by decide) rfl (Nat.le_of_ble_eq_true rfl) 23 rfl dX11_meetsCells_20 rfl ?_
  refine a_eq (h2 := g_hp G (f_uI C 1 f2) tl) rfl rfl rfl (rfl) ?_
  exact a_ireturn .int rfl rfl (rfl) (rfl) dX11_meetsCells_23

end FI1
