/-! The class's calls: tape, paper, lists, counts, acts -/
section TX1
variable {G : g_G} {C : f_C} {tl : List va_E} {x z9 : Int64} {y y2 y3 : Int32} {j o : Nat} {T : f_T}
theorem r_X11_wipe : g_Run G mX11_wipe 2 0 0 [.ref (g_ad G 0)] (g_hp G C tl) (some (.int (nI (C.1 10)))) (g_hp G (f_un C 10 0) tl) := by
  refine g_Run.of (lv := [(0, .ref (g_ad G 0))]) (by decide) (Nat.le_of_ble_eq_true rfl) rfl ?_
  refine a_aload_n 0 1 rfl dX11_wipe_0 rfl rfl ?_
  refine a_get 8 cl_10 f_RX11_61_10 (by decide) (rfl) rfl 4 rfl dX11_wipe_1 ?_
  refine a_callVN (as := []) (rest := []) (st2 := [.int (nI (C.1 10))]) (u1 := 0) (v1 := 0) (u2 := 0) (v2 := 0) (r_X10_length rfl) (⟨_, _, _, _, rfl, rfl⟩) oX10_length q_864 q_866 q_48 rfl (by omega) (by decide) rfl (Nat.le_of_ble_eq_true rfl) 7 rfl dX11_wipe_4 rfl ?_
  refine a_istore_n (lv' := [(1, .int (nI (C.1 10))), (0, .ref (g_ad G 0))]) 8 rfl dX11_wipe_7 rfl (by decide) rfl ?_
  refine a_aload_n 1 9 rfl dX11_wipe_8 rfl rfl ?_
  refine a_get 8 cl_10 f_RX11_61_10 (by decide) (rfl) rfl 12 rfl dX11_wipe_9 ?_
  refine a_callVN (as := []) (rest := []) (st2 := []) (u1 := 0) (v1 := 0) (u2 := 0) (v2 := 0) (r_X10_clear rfl) (⟨_, _, _, _, rfl, rfl⟩) oX10_clear q_872 q_874 q_49 rfl (by omega) (by decide) rfl (Nat.le_of_ble_eq_true rfl) 15 rfl dX11_wipe_12 rfl ?_
  refine a_eq (h2 := g_hp G (f_un C 10 0) tl) rfl rfl rfl (rfl) ?_
  refine a_iload_n 0 16 rfl dX11_wipe_15 rfl rfl ?_
  exact a_ireturn .int rfl rfl (rfl) (rfl) dX11_wipe_16
theorem r_X11_feed_out (hy : y < 32 ∨ ¬ y ≤ 126) : g_Run G mX11_feed 2 0 0 [.ref (g_ad G 0), .int y] (g_hp G C tl) (some (.int (-1))) (g_hp G C tl) := by
  refine g_Run.of (lv := [(0, .ref (g_ad G 0)), (1, .int y)]) (by decide) (Nat.le_of_ble_eq_true rfl) rfl ?_
  refine a_iload_n 1 1 rfl dX11_feed_0 rfl rfl ?_
  refine a_bipush (x := 32) 3 rfl dX11_feed_1 (by decide) ?_
  refine a_icmp_lt 12 6 rfl dX11_feed_3 (by decide) (fun c3 => ?_) (fun c3 => ?_)
  refine a_iconst (x := (-1)) 13 rfl dX11_feed_12 (by decide) ?_
  exact a_ireturn .int rfl rfl (rfl) (rfl) dX11_feed_13
  refine a_iload_n 1 7 rfl dX11_feed_6 rfl rfl ?_
  refine a_bipush (x := 126) 9 rfl dX11_feed_7 (by decide) ?_
  refine a_icmp_le 14 12 rfl dX11_feed_9 (by decide) (fun hc => absurd hc ((hy.resolve_left c3))) (fun _ => ?_)
  refine a_iconst (x := (-1)) 13 rfl dX11_feed_12 (by decide) ?_
  exact a_ireturn .int rfl rfl (rfl) (rfl) dX11_feed_13
theorem r_X11_feed_full (h1 : ¬ y < 32) (h2 : y ≤ 126) (hn : C.1 10 = 80) : g_Run G mX11_feed 2 0 0 [.ref (g_ad G 0), .int y] (g_hp G C tl) (some (.int (-3))) (g_hp G C tl) := by
  refine g_Run.of (lv := [(0, .ref (g_ad G 0)), (1, .int y)]) (by decide) (Nat.le_of_ble_eq_true rfl) rfl ?_
  refine a_iload_n 1 1 rfl dX11_feed_0 rfl rfl ?_
  refine a_bipush (x := 32) 3 rfl dX11_feed_1 (by decide) ?_
  refine a_icmp_lt 12 6 rfl dX11_feed_3 (by decide) (fun hc => absurd hc (h1)) (fun _ => ?_)
  refine a_iload_n 1 7 rfl dX11_feed_6 rfl rfl ?_
  refine a_bipush (x := 126) 9 rfl dX11_feed_7 (by decide) ?_
  refine a_icmp_le 14 12 rfl dX11_feed_9 (by decide) (fun _ => ?_) (fun hc => absurd (h2) hc)
  refine a_aload_n 0 15 rfl dX11_feed_14 rfl rfl ?_
  refine a_get 8 cl_10 f_RX11_61_10 (by decide) (rfl) rfl 18 rfl dX11_feed_15 ?_
  refine a_iload_n 1 19 rfl dX11_feed_18 rfl rfl ?_
  refine a_callVN (as := [.int y]) (rest := []) (st2 := [.int 0]) (u1 := 0) (v1 := 0) (u2 := 0) (v2 := 0) (r_X10_append_full rfl rfl (by decide) hn) (⟨_, _, _, _, rfl, rfl⟩) oX10_append q_860 q_862 q_47 rfl (by omega) (by decide) rfl (Nat.le_of_ble_eq_true rfl) 22 rfl dX11_feed_19 rfl ?_
  refine a_if_eq 35 25 rfl dX11_feed_22 (by decide) (fun _ => ?_) (fun hc => absurd (rfl) hc)
  refine a_bipush (x := (-3)) 37 rfl dX11_feed_35 (by decide) ?_
  exact a_ireturn .int rfl rfl (rfl) (rfl) dX11_feed_37
theorem r_X11_feed (h1 : ¬ y < 32) (h2 : y ≤ 126) (hn : C.1 10 < 80) : g_Run G mX11_feed 2 0 0 [.ref (g_ad G 0), .int y] (g_hp G C tl) (some (.int (nI (C.1 10 + 1)))) (g_hp G (f_un (f_uI C 5 (upd (C.2.2.2.1 5) (C.1 10) (vp_nar .byte y.toInt8.toInt32))) 10 (C.1 10 + 1)) tl) := by
  refine g_Run.of (lv := [(0, .ref (g_ad G 0)), (1, .int y)]) (by decide) (Nat.le_of_ble_eq_true rfl) rfl ?_
  refine a_iload_n 1 1 rfl dX11_feed_0 rfl rfl ?_
  refine a_bipush (x := 32) 3 rfl dX11_feed_1 (by decide) ?_
  refine a_icmp_lt 12 6 rfl dX11_feed_3 (by decide) (fun hc => absurd hc (h1)) (fun _ => ?_)
  refine a_iload_n 1 7 rfl dX11_feed_6 rfl rfl ?_
  refine a_bipush (x := 126) 9 rfl dX11_feed_7 (by decide) ?_
  refine a_icmp_le 14 12 rfl dX11_feed_9 (by decide) (fun _ => ?_) (fun hc => absurd (h2) hc)
  refine a_aload_n 0 15 rfl dX11_feed_14 rfl rfl ?_
  refine a_get 8 cl_10 f_RX11_61_10 (by decide) (rfl) rfl 18 rfl dX11_feed_15 ?_
  refine a_iload_n 1 19 rfl dX11_feed_18 rfl rfl ?_
  refine a_callVN (as := [.int y]) (rest := []) (st2 := [.int 1]) (u1 := 0) (v1 := 0) (u2 := 0) (v2 := 0) (r_X10_append rfl rfl (by decide) (by decide) hn) (⟨_, _, _, _, rfl, rfl⟩) oX10_append q_860 q_862 q_47 rfl (by omega) (by decide) rfl (Nat.le_of_ble_eq_true rfl) 22 rfl dX11_feed_19 rfl ?_
  refine a_eq (h2 := g_hp G (f_un (f_uI C 5 (upd (C.2.2.2.1 5) (C.1 10) (vp_nar .byte y.toInt8.toInt32))) 10 (C.1 10 + 1)) tl) rfl rfl rfl (rfl) ?_
  refine a_if_eq 35 25 rfl dX11_feed_22 (by decide) (fun hc => absurd hc ((by decide))) (fun _ => ?_)
  refine a_aload_n 0 26 rfl dX11_feed_25 rfl rfl ?_
  refine a_get 8 cl_10 f_RX11_61_10 (by decide) (rfl) rfl 29 rfl dX11_feed_26 ?_
  refine a_callVN (as := []) (rest := []) (st2 := [.int (nI (C.1 10 + 1))]) (u1 := 0) (v1 := 0) (u2 := 0) (v2 := 0) (r_X10_length rfl) (⟨_, _, _, _, rfl, rfl⟩) oX10_length q_864 q_866 q_48 rfl (by omega) (by decide) rfl (Nat.le_of_ble_eq_true rfl) 32 rfl dX11_feed_29 rfl ?_
  refine a_goto 37 dX11_feed_32 (by decide) ?_
  exact a_ireturn .int rfl rfl (rfl) (rfl) dX11_feed_37
theorem r_X11_paper_out (hn : C.1 11 ≤ 256) (hi : ¬ vp_in y (C.1 11)) : g_Run G mX11_paper 2 0 0 [.ref (g_ad G 0), .int y] (g_hp G C tl) (some (.int (-2))) (g_hp G C tl) := by
  refine g_Run.of (lv := [(0, .ref (g_ad G 0)), (1, .int y)]) (by decide) (Nat.le_of_ble_eq_true rfl) rfl ?_
  refine a_aload_n 0 1 rfl dX11_paper_0 rfl rfl ?_
  refine a_get 9 cl_10 f_RX11_65_10 (by decide) (rfl) rfl 4 rfl dX11_paper_1 ?_
  refine a_iload_n 1 5 rfl dX11_paper_4 rfl rfl ?_
  refine a_callVN (as := [.int y]) (rest := []) (st2 := [.int ((-2))]) (u1 := 0) (v1 := 0) (u2 := 0) (v2 := 0) (r_X10_at_out (n := C.1 11) rfl (by omega) hi) (⟨_, _, _, _, rfl, rfl⟩) oX10_at q_884 q_886 q_51 rfl (by omega) (by decide) rfl (Nat.le_of_ble_eq_true rfl) 8 rfl dX11_paper_5 rfl ?_
  exact a_ireturn .int rfl rfl (rfl) (rfl) dX11_paper_8
theorem r_X11_paper (hn : C.1 11 ≤ 256) (hj : j < C.1 11) : g_Run G mX11_paper 2 0 0 [.ref (g_ad G 0), .int (nI j)] (g_hp G C tl) (some (.int (C.2.2.2.1 6 j))) (g_hp G C tl) := by
  refine g_Run.of (lv := [(0, .ref (g_ad G 0)), (1, .int (nI j))]) (by decide) (Nat.le_of_ble_eq_true rfl) rfl ?_
  refine a_aload_n 0 1 rfl dX11_paper_0 rfl rfl ?_
  refine a_get 9 cl_10 f_RX11_65_10 (by decide) (rfl) rfl 4 rfl dX11_paper_1 ?_
  refine a_iload_n 1 5 rfl dX11_paper_4 rfl rfl ?_
  refine a_callVN (as := [.int (nI j)]) (rest := []) (st2 := [.int (C.2.2.2.1 6 j)]) (u1 := 0) (v1 := 0) (u2 := 0) (v2 := 0) (r_X10_at_in (m := 256) rfl rfl (by decide) hn hj) (⟨_, _, _, _, rfl, rfl⟩) oX10_at q_884 q_886 q_51 rfl (by omega) (by decide) rfl (Nat.le_of_ble_eq_true rfl) 8 rfl dX11_paper_5 rfl ?_
  exact a_ireturn .int rfl rfl (rfl) (rfl) dX11_paper_8
/-- where shelves and lists stand -/
def f_qs (G : g_G) (C : f_C) : Prop := (C.2.2.2.2.2 4 0 = some (g_ad G 23) ∧ C.2.2.2.2.2 4 1 = some (g_ad G 26) ∧ C.2.2.2.2.2 4 2 = some (g_ad G 29)) ∧ C.2.2.2.2.2 5 0 = some (g_ad G 32) ∧ C.2.2.2.2.2 5 1 = some (g_ad G 34) ∧ C.2.2.2.2.2 5 2 = some (g_ad G 36)
theorem r_listAt0 (hq : f_qs G C) : g_Run G mX11_listAt 1 0 0 [.ref (g_ad G 0), .int 0] (g_hp G C tl) (some (.ref (g_ad G 32))) (g_hp G C tl) := by
  refine g_Run.of (lv := [(0, .ref (g_ad G 0)), (1, .int 0)]) (by decide) (Nat.le_of_ble_eq_true rfl) rfl ?_
  refine a_iload_n 1 1 rfl dX11_listAt_0 rfl rfl ?_
  refine a_if_lt 22 4 rfl dX11_listAt_1 (by decide) (fun hc => absurd hc ((by decide))) (fun _ => ?_)
  refine a_iload_n 1 5 rfl dX11_listAt_4 rfl rfl ?_
  refine a_aload_n 0 6 rfl dX11_listAt_5 rfl rfl ?_
  refine a_get 11 cl_10 f_RX11_76_10 (by decide) (rfl) rfl 9 rfl dX11_listAt_6 ?_
  refine a_alen (y := 3) 5 (rfl) rfl rfl 10 rfl dX11_listAt_9 ?_
  refine a_icmp_ge 22 13 rfl dX11_listAt_10 (by decide) (fun hc => absurd hc ((by decide))) (fun _ => ?_)
  refine a_aload_n 0 14 rfl dX11_listAt_13 rfl rfl ?_
  refine a_get 11 cl_10 f_RX11_76_10 (by decide) (rfl) rfl 17 rfl dX11_listAt_14 ?_
  refine a_iload_n 1 18 rfl dX11_listAt_17 rfl rfl ?_
  refine a_ald5 (rfl) ((show vp_in (nI 0) 3 from vp_in_nI (by decide) (by decide))) 19 rfl dX11_listAt_18 ?_
  refine a_goto 23 dX11_listAt_19 (by decide) ?_
  exact a_areturn rfl (Or.inl ⟨_, rfl⟩) (va_rf_or _) ((by show some (va_rf (C.2.2.2.2.2 5 0)) = _; rw [hq.2.1]; rfl)) (rfl) dX11_listAt_23

theorem r_listAt1 (hq : f_qs G C) : g_Run G mX11_listAt 1 0 0 [.ref (g_ad G 0), .int 1] (g_hp G C tl) (some (.ref (g_ad G 34))) (g_hp G C tl) := by
  refine g_Run.of (lv := [(0, .ref (g_ad G 0)), (1, .int 1)]) (by decide) (Nat.le_of_ble_eq_true rfl) rfl ?_
  refine a_iload_n 1 1 rfl dX11_listAt_0 rfl rfl ?_
  refine a_if_lt 22 4 rfl dX11_listAt_1 (by decide) (fun hc => absurd hc ((by decide))) (fun _ => ?_)
  refine a_iload_n 1 5 rfl dX11_listAt_4 rfl rfl ?_
  refine a_aload_n 0 6 rfl dX11_listAt_5 rfl rfl ?_
  refine a_get 11 cl_10 f_RX11_76_10 (by decide) (rfl) rfl 9 rfl dX11_listAt_6 ?_
  refine a_alen (y := 3) 5 (rfl) rfl rfl 10 rfl dX11_listAt_9 ?_
  refine a_icmp_ge 22 13 rfl dX11_listAt_10 (by decide) (fun hc => absurd hc ((by decide))) (fun _ => ?_)
  refine a_aload_n 0 14 rfl dX11_listAt_13 rfl rfl ?_
  refine a_get 11 cl_10 f_RX11_76_10 (by decide) (rfl) rfl 17 rfl dX11_listAt_14 ?_
  refine a_iload_n 1 18 rfl dX11_listAt_17 rfl rfl ?_
  refine a_ald5 (rfl) ((show vp_in (nI 1) 3 from vp_in_nI (by decide) (by decide))) 19 rfl dX11_listAt_18 ?_
  refine a_goto 23 dX11_listAt_19 (by decide) ?_
  exact a_areturn rfl (Or.inl ⟨_, rfl⟩) (va_rf_or _) ((by show some (va_rf (C.2.2.2.2.2 5 1)) = _; rw [hq.2.2.1]; rfl)) (rfl) dX11_listAt_23

theorem r_listAt2 (hq : f_qs G C) : g_Run G mX11_listAt 1 0 0 [.ref (g_ad G 0), .int 2] (g_hp G C tl) (some (.ref (g_ad G 36))) (g_hp G C tl) := by
  refine g_Run.of (lv := [(0, .ref (g_ad G 0)), (1, .int 2)]) (by decide) (Nat.le_of_ble_eq_true rfl) rfl ?_
  refine a_iload_n 1 1 rfl dX11_listAt_0 rfl rfl ?_
  refine a_if_lt 22 4 rfl dX11_listAt_1 (by decide) (fun hc => absurd hc ((by decide))) (fun _ => ?_)
  refine a_iload_n 1 5 rfl dX11_listAt_4 rfl rfl ?_
  refine a_aload_n 0 6 rfl dX11_listAt_5 rfl rfl ?_
  refine a_get 11 cl_10 f_RX11_76_10 (by decide) (rfl) rfl 9 rfl dX11_listAt_6 ?_
  refine a_alen (y := 3) 5 (rfl) rfl rfl 10 rfl dX11_listAt_9 ?_
  refine a_icmp_ge 22 13 rfl dX11_listAt_10 (by decide) (fun hc => absurd hc ((by decide))) (fun _ => ?_)
  refine a_aload_n 0 14 rfl dX11_listAt_13 rfl rfl ?_
  refine a_get 11 cl_10 f_RX11_76_10 (by decide) (rfl) rfl 17 rfl dX11_listAt_14 ?_
  refine a_iload_n 1 18 rfl dX11_listAt_17 rfl rfl ?_
  refine a_ald5 (rfl) ((show vp_in (nI 2) 3 from vp_in_nI (by decide) (by decide))) 19 rfl dX11_listAt_18 ?_
  refine a_goto 23 dX11_listAt_19 (by decide) ?_
  exact a_areturn rfl (Or.inl ⟨_, rfl⟩) (va_rf_or _) ((by show some (va_rf (C.2.2.2.2.2 5 2)) = _; rw [hq.2.2.2]; rfl)) (rfl) dX11_listAt_23

theorem r_shelfAt0 (hq : f_qs G C) : g_Run G mX11_shelfAt 1 0 0 [.ref (g_ad G 0), .int 0] (g_hp G C tl) (some (.ref (g_ad G 23))) (g_hp G C tl) := by
  refine g_Run.of (lv := [(0, .ref (g_ad G 0)), (1, .int 0)]) (by decide) (Nat.le_of_ble_eq_true rfl) rfl ?_
  refine a_iload_n 1 1 rfl dX11_shelfAt_0 rfl rfl ?_
  refine a_if_lt 22 4 rfl dX11_shelfAt_1 (by decide) (fun hc => absurd hc ((by decide))) (fun _ => ?_)
  refine a_iload_n 1 5 rfl dX11_shelfAt_4 rfl rfl ?_
  refine a_aload_n 0 6 rfl dX11_shelfAt_5 rfl rfl ?_
  refine a_get 10 cl_10 f_RX11_70_10 (by decide) (rfl) rfl 9 rfl dX11_shelfAt_6 ?_
  refine a_alen (y := 3) 4 (rfl) rfl rfl 10 rfl dX11_shelfAt_9 ?_
  refine a_icmp_ge 22 13 rfl dX11_shelfAt_10 (by decide) (fun hc => absurd hc ((by decide))) (fun _ => ?_)
  refine a_aload_n 0 14 rfl dX11_shelfAt_13 rfl rfl ?_
  refine a_get 10 cl_10 f_RX11_70_10 (by decide) (rfl) rfl 17 rfl dX11_shelfAt_14 ?_
  refine a_iload_n 1 18 rfl dX11_shelfAt_17 rfl rfl ?_
  refine a_ald4 (rfl) ((show vp_in (nI 0) 3 from vp_in_nI (by decide) (by decide))) 19 rfl dX11_shelfAt_18 ?_
  refine a_goto 23 dX11_shelfAt_19 (by decide) ?_
  exact a_areturn rfl (Or.inl ⟨_, rfl⟩) (va_rf_or _) ((by show some (va_rf (C.2.2.2.2.2 4 0)) = _; rw [hq.1.1]; rfl)) (rfl) dX11_shelfAt_23

theorem r_shelfAt1 (hq : f_qs G C) : g_Run G mX11_shelfAt 1 0 0 [.ref (g_ad G 0), .int 1] (g_hp G C tl) (some (.ref (g_ad G 26))) (g_hp G C tl) := by
  refine g_Run.of (lv := [(0, .ref (g_ad G 0)), (1, .int 1)]) (by decide) (Nat.le_of_ble_eq_true rfl) rfl ?_
  refine a_iload_n 1 1 rfl dX11_shelfAt_0 rfl rfl ?_
  refine a_if_lt 22 4 rfl dX11_shelfAt_1 (by decide) (fun hc => absurd hc ((by decide))) (fun _ => ?_)
  refine a_iload_n 1 5 rfl dX11_shelfAt_4 rfl rfl ?_
  refine a_aload_n 0 6 rfl dX11_shelfAt_5 rfl rfl ?_
  refine a_get 10 cl_10 f_RX11_70_10 (by decide) (rfl) rfl 9 rfl dX11_shelfAt_6 ?_
  refine a_alen (y := 3) 4 (rfl) rfl rfl 10 rfl dX11_shelfAt_9 ?_
  refine a_icmp_ge 22 13 rfl dX11_shelfAt_10 (by decide) (fun hc => absurd hc ((by decide))) (fun _ => ?_)
  refine a_aload_n 0 14 rfl dX11_shelfAt_13 rfl rfl ?_
  refine a_get 10 cl_10 f_RX11_70_10 (by decide) (rfl) rfl 17 rfl dX11_shelfAt_14 ?_
  refine a_iload_n 1 18 rfl dX11_shelfAt_17 rfl rfl ?_
  refine a_ald4 (rfl) ((show vp_in (nI 1) 3 from vp_in_nI (by decide) (by decide))) 19 rfl dX11_shelfAt_18 ?_
  refine a_goto 23 dX11_shelfAt_19 (by decide) ?_
  exact a_areturn rfl (Or.inl ⟨_, rfl⟩) (va_rf_or _) ((by show some (va_rf (C.2.2.2.2.2 4 1)) = _; rw [hq.1.2.1]; rfl)) (rfl) dX11_shelfAt_23

theorem r_shelfAt2 (hq : f_qs G C) : g_Run G mX11_shelfAt 1 0 0 [.ref (g_ad G 0), .int 2] (g_hp G C tl) (some (.ref (g_ad G 29))) (g_hp G C tl) := by
  refine g_Run.of (lv := [(0, .ref (g_ad G 0)), (1, .int 2)]) (by decide) (Nat.le_of_ble_eq_true rfl) rfl ?_
  refine a_iload_n 1 1 rfl dX11_shelfAt_0 rfl rfl ?_
  refine a_if_lt 22 4 rfl dX11_shelfAt_1 (by decide) (fun hc => absurd hc ((by decide))) (fun _ => ?_)
  refine a_iload_n 1 5 rfl dX11_shelfAt_4 rfl rfl ?_
  refine a_aload_n 0 6 rfl dX11_shelfAt_5 rfl rfl ?_
  refine a_get 10 cl_10 f_RX11_70_10 (by decide) (rfl) rfl 9 rfl dX11_shelfAt_6 ?_
  refine a_alen (y := 3) 4 (rfl) rfl rfl 10 rfl dX11_shelfAt_9 ?_
  refine a_icmp_ge 22 13 rfl dX11_shelfAt_10 (by decide) (fun hc => absurd hc ((by decide))) (fun _ => ?_)
  refine a_aload_n 0 14 rfl dX11_shelfAt_13 rfl rfl ?_
  refine a_get 10 cl_10 f_RX11_70_10 (by decide) (rfl) rfl 17 rfl dX11_shelfAt_14 ?_
  refine a_iload_n 1 18 rfl dX11_shelfAt_17 rfl rfl ?_
  refine a_ald4 (rfl) ((show vp_in (nI 2) 3 from vp_in_nI (by decide) (by decide))) 19 rfl dX11_shelfAt_18 ?_
  refine a_goto 23 dX11_shelfAt_19 (by decide) ?_
  exact a_areturn rfl (Or.inl ⟨_, rfl⟩) (va_rf_or _) ((by show some (va_rf (C.2.2.2.2.2 4 2)) = _; rw [hq.1.2.2]; rfl)) (rfl) dX11_shelfAt_23

theorem r_listAt_out (hi : ¬ vp_in y 3) : g_Run G mX11_listAt 1 0 0 [.ref (g_ad G 0), .int y] (g_hp G C tl) (some .null) (g_hp G C tl) := by
  refine g_Run.of (lv := [(0, .ref (g_ad G 0)), (1, .int y)]) (by decide) (Nat.le_of_ble_eq_true rfl) rfl ?_
  refine a_iload_n 1 1 rfl dX11_listAt_0 rfl rfl ?_
  refine a_if_lt 22 4 rfl dX11_listAt_1 (by decide) (fun c1 => ?_) (fun c1 => ?_)
  refine a_null 23 rfl dX11_listAt_22 ?_
  exact a_areturn rfl (Or.inl ⟨_, rfl⟩) (Or.inl rfl) (rfl) (rfl) dX11_listAt_23
  refine a_iload_n 1 5 rfl dX11_listAt_4 rfl rfl ?_
  refine a_aload_n 0 6 rfl dX11_listAt_5 rfl rfl ?_
  refine a_get 11 cl_10 f_RX11_76_10 (by decide) (rfl) rfl 9 rfl dX11_listAt_6 ?_
  refine a_alen (y := 3) 5 (rfl) rfl rfl 10 rfl dX11_listAt_9 ?_
  refine a_icmp_ge 22 13 rfl dX11_listAt_10 (by decide) (fun _ => ?_) (fun hc => absurd (g_out_ge hi c1 (by omega)) hc)
  refine a_null 23 rfl dX11_listAt_22 ?_
  exact a_areturn rfl (Or.inl ⟨_, rfl⟩) (Or.inl rfl) (rfl) (rfl) dX11_listAt_23

theorem r_shelfAt_out (hi : ¬ vp_in y 3) : g_Run G mX11_shelfAt 1 0 0 [.ref (g_ad G 0), .int y] (g_hp G C tl) (some .null) (g_hp G C tl) := by
  refine g_Run.of (lv := [(0, .ref (g_ad G 0)), (1, .int y)]) (by decide) (Nat.le_of_ble_eq_true rfl) rfl ?_
  refine a_iload_n 1 1 rfl dX11_shelfAt_0 rfl rfl ?_
  refine a_if_lt 22 4 rfl dX11_shelfAt_1 (by decide) (fun c1 => ?_) (fun c1 => ?_)
  refine a_null 23 rfl dX11_shelfAt_22 ?_
  exact a_areturn rfl (Or.inl ⟨_, rfl⟩) (Or.inl rfl) (rfl) (rfl) dX11_shelfAt_23
  refine a_iload_n 1 5 rfl dX11_shelfAt_4 rfl rfl ?_
  refine a_aload_n 0 6 rfl dX11_shelfAt_5 rfl rfl ?_
  refine a_get 10 cl_10 f_RX11_70_10 (by decide) (rfl) rfl 9 rfl dX11_shelfAt_6 ?_
  refine a_alen (y := 3) 4 (rfl) rfl rfl 10 rfl dX11_shelfAt_9 ?_
  refine a_icmp_ge 22 13 rfl dX11_shelfAt_10 (by decide) (fun _ => ?_) (fun hc => absurd (g_out_ge hi c1 (by omega)) hc)
  refine a_null 23 rfl dX11_shelfAt_22 ?_
  exact a_areturn rfl (Or.inl ⟨_, rfl⟩) (Or.inl rfl) (rfl) (rfl) dX11_shelfAt_23

theorem r_X11_list_bad (hi : ¬ vp_in y 3) : g_Run G mX11_list 2 0 0 [.ref (g_ad G 0), .int y, .int y2, .int y3] (g_hp G C tl) (some (.int (-1))) (g_hp G C tl) := by
  refine g_Run.of (lv := [(0, .ref (g_ad G 0)), (1, .int y), (2, .int y2), (3, .int y3)]) (by decide) (Nat.le_of_ble_eq_true rfl) rfl ?_
  refine a_aload_n 0 1 rfl dX11_list_0 rfl rfl ?_
  refine a_iload_n 1 2 rfl dX11_list_1 rfl rfl ?_
  refine a_callV (as := [.int y]) (rest := []) (st2 := [.null]) (u1 := 0) (v1 := 0) (u2 := 0) (v2 := 0) (r_listAt_out hi) (⟨_, _, _, _, rfl, rfl⟩) oX11_listAt q_833 q_835 q_43 rfl (by omega) (by decide) rfl (Nat.le_of_ble_eq_true rfl) 5 rfl dX11_list_2 rfl ?_
  refine a_astoreN (lv' := [(4, .null), (0, .ref (g_ad G 0)), (1, .int y), (2, .int y2), (3, .int y3)]) 7 rfl dX11_list_5 (by decide) rfl ?_
  refine a_aloadN 0 9 rfl dX11_list_7 rfl ?_
  refine a_ifnullN 22 dX11_list_9 (by decide) ?_
  refine a_iconst (x := (-1)) 23 rfl dX11_list_22 (by decide) ?_
  exact a_ireturn .int rfl rfl (rfl) (rfl) dX11_list_23

theorem r_X11_put_bad (hi : ¬ vp_in y 3) : g_Run G mX11_put 2 0 0 [.ref (g_ad G 0), .int y, .int y2, .long x] (g_hp G C tl) (some (.int (-1))) (g_hp G C tl) := by
  refine g_Run.of (lv := [(0, .ref (g_ad G 0)), (1, .int y), (2, .int y2), (3, .long x)]) (by decide) (Nat.le_of_ble_eq_true rfl) rfl ?_
  refine a_aload_n 0 1 rfl dX11_put_0 rfl rfl ?_
  refine a_iload_n 1 2 rfl dX11_put_1 rfl rfl ?_
  refine a_callV (as := [.int y]) (rest := []) (st2 := [.null]) (u1 := 0) (v1 := 0) (u2 := 0) (v2 := 0) (r_listAt_out hi) (⟨_, _, _, _, rfl, rfl⟩) oX11_listAt q_833 q_835 q_43 rfl (by omega) (by decide) rfl (Nat.le_of_ble_eq_true rfl) 5 rfl dX11_put_2 rfl ?_
  refine a_astoreN (lv' := [(5, .null), (0, .ref (g_ad G 0)), (1, .int y), (2, .int y2), (3, .long x)]) 7 rfl dX11_put_5 (by decide) rfl ?_
  refine a_aloadN 0 9 rfl dX11_put_7 rfl ?_
  refine a_ifnonnullN 12 rfl dX11_put_9 ?_
  refine a_iconst (x := (-1)) 13 rfl dX11_put_12 (by decide) ?_
  exact a_ireturn .int rfl rfl (rfl) (rfl) dX11_put_13

theorem r_X11_get_bad (hi : ¬ vp_in y 3) : g_Run G mX11_get 2 0 0 [.ref (g_ad G 0), .int y, .int y2] (g_hp G C tl) (some (.long (-9223372036854775808))) (g_hp G C tl) := by
  refine g_Run.of (lv := [(0, .ref (g_ad G 0)), (1, .int y), (2, .int y2)]) (by decide) (Nat.le_of_ble_eq_true rfl) rfl ?_
  refine a_aload_n 0 1 rfl dX11_get_0 rfl rfl ?_
  refine a_iload_n 1 2 rfl dX11_get_1 rfl rfl ?_
  refine a_callV (as := [.int y]) (rest := []) (st2 := [.null]) (u1 := 0) (v1 := 0) (u2 := 0) (v2 := 0) (r_listAt_out hi) (⟨_, _, _, _, rfl, rfl⟩) oX11_listAt q_833 q_835 q_43 rfl (by omega) (by decide) rfl (Nat.le_of_ble_eq_true rfl) 5 rfl dX11_get_2 rfl ?_
  refine a_astore_nN (lv' := [(3, .null), (0, .ref (g_ad G 0)), (1, .int y), (2, .int y2)]) 6 rfl dX11_get_5 rfl (by decide) rfl ?_
  refine a_aload_nN 0 7 rfl dX11_get_6 rfl rfl ?_
  refine a_ifnullN 18 dX11_get_7 (by decide) ?_
  refine a_ldc2 q_466 21 rfl dX11_get_18 ?_
  refine a_goto 29 dX11_get_21 (by decide) ?_
  exact a_lreturn rfl (rfl) (rfl) dX11_get_29

theorem r_X11_list0_out (hq : f_qs G C) (hy : y2 < -1 ∨ ¬ y2 < 2) : g_Run G mX11_list 2 0 0 [.ref (g_ad G 0), .int 0, .int y2, .int y3] (g_hp G C tl) (some (.int (-1))) (g_hp G C tl) := by
  refine g_Run.of (lv := [(0, .ref (g_ad G 0)), (1, .int 0), (2, .int y2), (3, .int y3)]) (by decide) (Nat.le_of_ble_eq_true rfl) rfl ?_
  refine a_aload_n 0 1 rfl dX11_list_0 rfl rfl ?_
  refine a_iload_n 1 2 rfl dX11_list_1 rfl rfl ?_
  refine a_callV (as := [.int 0]) (rest := []) (st2 := [.ref (g_ad G 32)]) (u1 := 0) (v1 := 0) (u2 := 0) (v2 := 0) (r_listAt0 hq) (⟨_, _, _, _, rfl, rfl⟩) oX11_listAt q_833 q_835 q_43 rfl (by omega) (by decide) rfl (Nat.le_of_ble_eq_true rfl) 5 rfl dX11_list_2 rfl ?_
  refine a_astore (lv' := [(4, .ref (g_ad G 32)), (0, .ref (g_ad G 0)), (1, .int 0), (2, .int y2), (3, .int y3)]) 7 rfl dX11_list_5 (by decide) rfl ?_
  refine a_aload 0 9 rfl dX11_list_7 rfl ?_
  refine a_ifnull 12 rfl dX11_list_9 ?_
  refine a_iload_n 3 13 rfl dX11_list_12 rfl rfl ?_
  refine a_iconst (x := (-1)) 14 rfl dX11_list_13 (by decide) ?_
  refine a_icmp_lt 22 17 rfl dX11_list_14 (by decide) (fun c14 => ?_) (fun c14 => ?_)
  refine a_iconst (x := (-1)) 23 rfl dX11_list_22 (by decide) ?_
  exact a_ireturn .int rfl rfl (rfl) (rfl) dX11_list_23
  refine a_iload_n 3 18 rfl dX11_list_17 rfl rfl ?_
  refine a_iconst (x := 2) 19 rfl dX11_list_18 (by decide) ?_
  refine a_icmp_lt 24 22 rfl dX11_list_19 (by decide) (fun hc => absurd hc ((hy.resolve_left c14))) (fun _ => ?_)
  refine a_iconst (x := (-1)) 23 rfl dX11_list_22 (by decide) ?_
  exact a_ireturn .int rfl rfl (rfl) (rfl) dX11_list_23
theorem r_X11_list0_rem (hq : f_qs G C) : g_Run G mX11_list 2 0 0 [.ref (g_ad G 0), .int 0, .int (-1), .int y3] (g_hp G C tl) (some (.int 1)) (g_hp G (f_un (f_ui C 9 0) 15 0) tl) := by
  refine g_Run.of (lv := [(0, .ref (g_ad G 0)), (1, .int 0), (2, .int ((-1))), (3, .int y3)]) (by decide) (Nat.le_of_ble_eq_true rfl) rfl ?_
  refine a_aload_n 0 1 rfl dX11_list_0 rfl rfl ?_
  refine a_iload_n 1 2 rfl dX11_list_1 rfl rfl ?_
  refine a_callV (as := [.int 0]) (rest := []) (st2 := [.ref (g_ad G 32)]) (u1 := 0) (v1 := 0) (u2 := 0) (v2 := 0) (r_listAt0 hq) (⟨_, _, _, _, rfl, rfl⟩) oX11_listAt q_833 q_835 q_43 rfl (by omega) (by decide) rfl (Nat.le_of_ble_eq_true rfl) 5 rfl dX11_list_2 rfl ?_
  refine a_astore (lv' := [(4, .ref (g_ad G 32)), (0, .ref (g_ad G 0)), (1, .int 0), (2, .int ((-1))), (3, .int y3)]) 7 rfl dX11_list_5 (by decide) rfl ?_
  refine a_aload 0 9 rfl dX11_list_7 rfl ?_
  refine a_ifnull 12 rfl dX11_list_9 ?_
  refine a_iload_n 3 13 rfl dX11_list_12 rfl rfl ?_
  refine a_iconst (x := (-1)) 14 rfl dX11_list_13 (by decide) ?_
  refine a_icmp_lt 22 17 rfl dX11_list_14 (by decide) (fun hc => absurd hc ((by decide))) (fun _ => ?_)
  refine a_iload_n 3 18 rfl dX11_list_17 rfl rfl ?_
  refine a_iconst (x := 2) 19 rfl dX11_list_18 (by decide) ?_
  refine a_icmp_lt 24 22 rfl dX11_list_19 (by decide) (fun _ => ?_) (fun hc => absurd ((by decide)) hc)
  refine a_iload_n 3 25 rfl dX11_list_24 rfl rfl ?_
  refine a_iconst (x := (-1)) 26 rfl dX11_list_25 (by decide) ?_
  refine a_icmp_ne 36 29 rfl dX11_list_26 (by decide) (fun hc => absurd (rfl) hc) (fun _ => ?_)
  refine a_aload 0 31 rfl dX11_list_29 rfl ?_
  refine a_callVN (as := []) (rest := []) (st2 := []) (u1 := 0) (v1 := 0) (u2 := 0) (v2 := 0) (r_X8_remove rfl) (⟨_, _, _, _, rfl, rfl⟩) oX8_remove q_982 q_984 q_66 rfl (by omega) (by decide) rfl (Nat.le_of_ble_eq_true rfl) 34 rfl dX11_list_31 rfl ?_
  refine a_eq (h2 := g_hp G (f_un (f_ui C 9 0) 15 0) tl) rfl rfl rfl (rfl) ?_
  refine a_iconst (x := 1) 35 rfl dX11_list_34 (by decide) ?_
  exact a_ireturn .int rfl rfl (rfl) (rfl) dX11_list_35
theorem r_X11_list0_much (hq : f_qs G C) (h1 : ¬ y2 < -1) (h2 : y2 < 2) (h3 : ¬ y2 = -1) (h4 : ¬ y3 ≤ 20) : g_Run G mX11_list 2 0 0 [.ref (g_ad G 0), .int 0, .int y2, .int y3] (g_hp G C tl) (some (.int (-1))) (g_hp G C tl) := by
  refine g_Run.of (lv := [(0, .ref (g_ad G 0)), (1, .int 0), (2, .int y2), (3, .int y3)]) (by decide) (Nat.le_of_ble_eq_true rfl) rfl ?_
  refine a_aload_n 0 1 rfl dX11_list_0 rfl rfl ?_
  refine a_iload_n 1 2 rfl dX11_list_1 rfl rfl ?_
  refine a_callV (as := [.int 0]) (rest := []) (st2 := [.ref (g_ad G 32)]) (u1 := 0) (v1 := 0) (u2 := 0) (v2 := 0) (r_listAt0 hq) (⟨_, _, _, _, rfl, rfl⟩) oX11_listAt q_833 q_835 q_43 rfl (by omega) (by decide) rfl (Nat.le_of_ble_eq_true rfl) 5 rfl dX11_list_2 rfl ?_
  refine a_astore (lv' := [(4, .ref (g_ad G 32)), (0, .ref (g_ad G 0)), (1, .int 0), (2, .int y2), (3, .int y3)]) 7 rfl dX11_list_5 (by decide) rfl ?_
  refine a_aload 0 9 rfl dX11_list_7 rfl ?_
  refine a_ifnull 12 rfl dX11_list_9 ?_
  refine a_iload_n 3 13 rfl dX11_list_12 rfl rfl ?_
  refine a_iconst (x := (-1)) 14 rfl dX11_list_13 (by decide) ?_
  refine a_icmp_lt 22 17 rfl dX11_list_14 (by decide) (fun hc => absurd hc (h1)) (fun _ => ?_)
  refine a_iload_n 3 18 rfl dX11_list_17 rfl rfl ?_
  refine a_iconst (x := 2) 19 rfl dX11_list_18 (by decide) ?_
  refine a_icmp_lt 24 22 rfl dX11_list_19 (by decide) (fun _ => ?_) (fun hc => absurd (h2) hc)
  refine a_iload_n 3 25 rfl dX11_list_24 rfl rfl ?_
  refine a_iconst (x := (-1)) 26 rfl dX11_list_25 (by decide) ?_
  refine a_icmp_ne 36 29 rfl dX11_list_26 (by decide) (fun _ => ?_) (fun hc => absurd hc (h3))
  refine a_iload_n 4 37 rfl dX11_list_36 rfl rfl ?_
  refine a_bipush (x := 20) 39 rfl dX11_list_37 (by decide) ?_
  refine a_icmp_le 44 42 rfl dX11_list_39 (by decide) (fun hc => absurd hc (h4)) (fun _ => ?_)
  refine a_iconst (x := (-1)) 43 rfl dX11_list_42 (by decide) ?_
  exact a_ireturn .int rfl rfl (rfl) (rfl) dX11_list_43
theorem r_X11_list0_few (hq : f_qs G C) (h1 : ¬ y2 < -1) (h2 : y2 < 2) (h3 : ¬ y2 = -1) (h4 : y3 ≤ 20) (h5 : ¬ 0 ≤ y3) : g_Run G mX11_list 2 0 0 [.ref (g_ad G 0), .int 0, .int y2, .int y3] (g_hp G C tl) (some (.int (-14))) (g_hp G C tl) := by
  refine g_Run.of (lv := [(0, .ref (g_ad G 0)), (1, .int 0), (2, .int y2), (3, .int y3)]) (by decide) (Nat.le_of_ble_eq_true rfl) rfl ?_
  refine a_aload_n 0 1 rfl dX11_list_0 rfl rfl ?_
  refine a_iload_n 1 2 rfl dX11_list_1 rfl rfl ?_
  refine a_callV (as := [.int 0]) (rest := []) (st2 := [.ref (g_ad G 32)]) (u1 := 0) (v1 := 0) (u2 := 0) (v2 := 0) (r_listAt0 hq) (⟨_, _, _, _, rfl, rfl⟩) oX11_listAt q_833 q_835 q_43 rfl (by omega) (by decide) rfl (Nat.le_of_ble_eq_true rfl) 5 rfl dX11_list_2 rfl ?_
  refine a_astore (lv' := [(4, .ref (g_ad G 32)), (0, .ref (g_ad G 0)), (1, .int 0), (2, .int y2), (3, .int y3)]) 7 rfl dX11_list_5 (by decide) rfl ?_
  refine a_aload 0 9 rfl dX11_list_7 rfl ?_
  refine a_ifnull 12 rfl dX11_list_9 ?_
  refine a_iload_n 3 13 rfl dX11_list_12 rfl rfl ?_
  refine a_iconst (x := (-1)) 14 rfl dX11_list_13 (by decide) ?_
  refine a_icmp_lt 22 17 rfl dX11_list_14 (by decide) (fun hc => absurd hc (h1)) (fun _ => ?_)
  refine a_iload_n 3 18 rfl dX11_list_17 rfl rfl ?_
  refine a_iconst (x := 2) 19 rfl dX11_list_18 (by decide) ?_
  refine a_icmp_lt 24 22 rfl dX11_list_19 (by decide) (fun _ => ?_) (fun hc => absurd (h2) hc)
  refine a_iload_n 3 25 rfl dX11_list_24 rfl rfl ?_
  refine a_iconst (x := (-1)) 26 rfl dX11_list_25 (by decide) ?_
  refine a_icmp_ne 36 29 rfl dX11_list_26 (by decide) (fun _ => ?_) (fun hc => absurd hc (h3))
  refine a_iload_n 4 37 rfl dX11_list_36 rfl rfl ?_
  refine a_bipush (x := 20) 39 rfl dX11_list_37 (by decide) ?_
  refine a_icmp_le 44 42 rfl dX11_list_39 (by decide) (fun _ => ?_) (fun hc => absurd (h4) hc)
  refine a_iload_n 4 45 rfl dX11_list_44 rfl rfl ?_
  refine a_if_ge 51 48 rfl dX11_list_45 (by decide) (fun hc => absurd hc (h5)) (fun _ => ?_)
  refine a_bipush (x := (-14)) 50 rfl dX11_list_48 (by decide) ?_
  exact a_ireturn .int rfl rfl (rfl) (rfl) dX11_list_50
theorem r_X11_list0 {n9 : Nat} (hq : f_qs G C) (h1 : ¬ y2 < -1) (h2 : y2 < 2) (h3 : ¬ y2 = -1) (h4 : n9 ≤ 20) : ∃ f2 : Nat → Int64, (∀ j, j < 20 → f2 j = 0) ∧ g_Run G mX11_list 2 0 0 [.ref (g_ad G 0), .int 0, .int y2, .int (nI n9)] (g_hp G C tl) (some (.int 1)) (g_hp G (f_uL (f_un (f_ui (f_ui C 9 1) 12 y2) 15 n9) 0 f2) tl) := by
  obtain ⟨f2, hz, w⟩ := r_X8_lay (G := G) (h := g_hp G C tl) (a := 32) (so2 := y2) (mn2 := nI n9) rfl rfl (by decide)
  refine ⟨f2, hz, ?_⟩
  refine g_Run.of (lv := [(0, .ref (g_ad G 0)), (1, .int 0), (2, .int y2), (3, .int (nI n9))]) (by decide) (Nat.le_of_ble_eq_true rfl) rfl ?_
  refine a_aload_n 0 1 rfl dX11_list_0 rfl rfl ?_
  refine a_iload_n 1 2 rfl dX11_list_1 rfl rfl ?_
  refine a_callV (as := [.int 0]) (rest := []) (st2 := [.ref (g_ad G 32)]) (u1 := 0) (v1 := 0) (u2 := 0) (v2 := 0) (r_listAt0 hq) (⟨_, _, _, _, rfl, rfl⟩) oX11_listAt q_833 q_835 q_43 rfl (by omega) (by decide) rfl (Nat.le_of_ble_eq_true rfl) 5 rfl dX11_list_2 rfl ?_
  refine a_astore (lv' := [(4, .ref (g_ad G 32)), (0, .ref (g_ad G 0)), (1, .int 0), (2, .int y2), (3, .int (nI n9))]) 7 rfl dX11_list_5 (by decide) rfl ?_
  refine a_aload 0 9 rfl dX11_list_7 rfl ?_
  refine a_ifnull 12 rfl dX11_list_9 ?_
  refine a_iload_n 3 13 rfl dX11_list_12 rfl rfl ?_
  refine a_iconst (x := (-1)) 14 rfl dX11_list_13 (by decide) ?_
  refine a_icmp_lt 22 17 rfl dX11_list_14 (by decide) (fun hc => absurd hc (h1)) (fun _ => ?_)
  refine a_iload_n 3 18 rfl dX11_list_17 rfl rfl ?_
  refine a_iconst (x := 2) 19 rfl dX11_list_18 (by decide) ?_
  refine a_icmp_lt 24 22 rfl dX11_list_19 (by decide) (fun _ => ?_) (fun hc => absurd (h2) hc)
  refine a_iload_n 3 25 rfl dX11_list_24 rfl rfl ?_
  refine a_iconst (x := (-1)) 26 rfl dX11_list_25 (by decide) ?_
  refine a_icmp_ne 36 29 rfl dX11_list_26 (by decide) (fun _ => ?_) (fun hc => absurd hc (h3))
  refine a_iload_n 4 37 rfl dX11_list_36 rfl rfl ?_
  refine a_bipush (x := 20) 39 rfl dX11_list_37 (by decide) ?_
  refine a_icmp_le 44 42 rfl dX11_list_39 (by decide) (fun _ => ?_) (fun hc => absurd ((nI_le (b := 20) h4 (by omega))) hc)
  refine a_iload_n 4 45 rfl dX11_list_44 rfl rfl ?_
  refine a_if_ge 51 48 rfl dX11_list_45 (by decide) (fun _ => ?_) (fun hc => absurd (nI_pos' (by omega)) hc)
  refine a_aload 0 53 rfl dX11_list_51 rfl ?_
  refine a_iload_n 3 54 rfl dX11_list_53 rfl rfl ?_
  refine a_iload_n 4 55 rfl dX11_list_54 rfl rfl ?_
  refine a_callVN (as := [.int y2, .int (nI n9)]) (rest := []) (st2 := []) (u1 := 0) (v1 := 0) (u2 := 0) (v2 := 0) (w) (⟨_, _, _, _, rfl, rfl⟩) oX8_lay q_986 q_988 q_67 rfl (by omega) (by decide) rfl (Nat.le_of_ble_eq_true rfl) 58 rfl dX11_list_55 rfl ?_
  refine a_eq (h2 := g_hp G (f_uL (f_un (f_ui (f_ui C 9 1) 12 y2) 15 n9) 0 f2) tl) rfl rfl rfl (rfl) ?_
  refine a_iconst (x := 1) 59 rfl dX11_list_58 (by decide) ?_
  exact a_ireturn .int rfl rfl (rfl) (rfl) dX11_list_59
theorem r_X11_put0_miss (hq : f_qs G C) (ht : C.2.1 9 = 0) : g_Run G mX11_put 2 0 0 [.ref (g_ad G 0), .int 0, .int y2, .long x] (g_hp G C tl) (some (.int (-11))) (g_hp G C tl) := by
  refine g_Run.of (lv := [(0, .ref (g_ad G 0)), (1, .int 0), (2, .int y2), (3, .long x)]) (by decide) (Nat.le_of_ble_eq_true rfl) rfl ?_
  refine a_aload_n 0 1 rfl dX11_put_0 rfl rfl ?_
  refine a_iload_n 1 2 rfl dX11_put_1 rfl rfl ?_
  refine a_callV (as := [.int 0]) (rest := []) (st2 := [.ref (g_ad G 32)]) (u1 := 0) (v1 := 0) (u2 := 0) (v2 := 0) (r_listAt0 hq) (⟨_, _, _, _, rfl, rfl⟩) oX11_listAt q_833 q_835 q_43 rfl (by omega) (by decide) rfl (Nat.le_of_ble_eq_true rfl) 5 rfl dX11_put_2 rfl ?_
  refine a_astore (lv' := [(5, .ref (g_ad G 32)), (0, .ref (g_ad G 0)), (1, .int 0), (2, .int y2), (3, .long x)]) 7 rfl dX11_put_5 (by decide) rfl ?_
  refine a_aload 0 9 rfl dX11_put_7 rfl ?_
  refine a_ifnonnull 14 dX11_put_9 (by decide) ?_
  refine a_aload 0 16 rfl dX11_put_14 rfl ?_
  refine a_callVN (as := []) (rest := []) (st2 := [.int (if C.2.1 9 = 0 then 1 else 0)]) (u1 := 0) (v1 := 0) (u2 := 0) (v2 := 0) (r_X8_isMissing rfl) (⟨_, _, _, _, rfl, rfl⟩) oX8_isMissing q_837 q_839 q_44 rfl (by omega) (by decide) rfl (Nat.le_of_ble_eq_true rfl) 19 rfl dX11_put_16 rfl ?_
  refine a_if_eq 25 22 rfl dX11_put_19 (by decide) (fun hc => absurd hc ((by rw [if_pos ht]; decide))) (fun _ => ?_)
  refine a_bipush (x := (-11)) 24 rfl dX11_put_22 (by decide) ?_
  exact a_ireturn .int rfl rfl (rfl) (rfl) dX11_put_24
theorem r_X11_put0_out (hq : f_qs G C) (ht : ¬ C.2.1 9 = 0) (hn : C.1 15 ≤ 20) (hi : ¬ vp_in y2 (C.1 15)) : g_Run G mX11_put 2 0 0 [.ref (g_ad G 0), .int 0, .int y2, .long x] (g_hp G C tl) (some (.int (-13))) (g_hp G C tl) := by
  refine g_Run.of (lv := [(0, .ref (g_ad G 0)), (1, .int 0), (2, .int y2), (3, .long x)]) (by decide) (Nat.le_of_ble_eq_true rfl) rfl ?_
  refine a_aload_n 0 1 rfl dX11_put_0 rfl rfl ?_
  refine a_iload_n 1 2 rfl dX11_put_1 rfl rfl ?_
  refine a_callV (as := [.int 0]) (rest := []) (st2 := [.ref (g_ad G 32)]) (u1 := 0) (v1 := 0) (u2 := 0) (v2 := 0) (r_listAt0 hq) (⟨_, _, _, _, rfl, rfl⟩) oX11_listAt q_833 q_835 q_43 rfl (by omega) (by decide) rfl (Nat.le_of_ble_eq_true rfl) 5 rfl dX11_put_2 rfl ?_
  refine a_astore (lv' := [(5, .ref (g_ad G 32)), (0, .ref (g_ad G 0)), (1, .int 0), (2, .int y2), (3, .long x)]) 7 rfl dX11_put_5 (by decide) rfl ?_
  refine a_aload 0 9 rfl dX11_put_7 rfl ?_
  refine a_ifnonnull 14 dX11_put_9 (by decide) ?_
  refine a_aload 0 16 rfl dX11_put_14 rfl ?_
  refine a_callVN (as := []) (rest := []) (st2 := [.int (if C.2.1 9 = 0 then 1 else 0)]) (u1 := 0) (v1 := 0) (u2 := 0) (v2 := 0) (r_X8_isMissing rfl) (⟨_, _, _, _, rfl, rfl⟩) oX8_isMissing q_837 q_839 q_44 rfl (by omega) (by decide) rfl (Nat.le_of_ble_eq_true rfl) 19 rfl dX11_put_16 rfl ?_
  refine a_if_eq 25 22 rfl dX11_put_19 (by decide) (fun _ => ?_) (fun hc => absurd ((by rw [if_neg ht])) hc)
  refine a_aload 0 27 rfl dX11_put_25 rfl ?_
  refine a_iload_n 3 28 rfl dX11_put_27 rfl rfl ?_
  refine a_lload_n 4 29 rfl dX11_put_28 rfl rfl ?_
  refine a_callVN (as := [.int y2, .long x]) (rest := []) (st2 := [.int 0]) (u1 := 0) (v1 := 0) (u2 := 0) (v2 := 0) (r_X8_place_out rfl hn hi) (⟨_, _, _, _, rfl, rfl⟩) oX8_place q_994 q_996 q_68 rfl (by omega) (by decide) rfl (Nat.le_of_ble_eq_true rfl) 32 rfl dX11_put_29 rfl ?_
  refine a_if_eq 39 35 rfl dX11_put_32 (by decide) (fun _ => ?_) (fun hc => absurd (rfl) hc)
  refine a_bipush (x := (-13)) 41 rfl dX11_put_39 (by decide) ?_
  exact a_ireturn .int rfl rfl (rfl) (rfl) dX11_put_41
theorem r_X11_put0 (hq : f_qs G C) (ht : ¬ C.2.1 9 = 0) (hn : C.1 15 ≤ 20) (hj : j < C.1 15) : g_Run G mX11_put 2 0 0 [.ref (g_ad G 0), .int 0, .int (nI j), .long x] (g_hp G C tl) (some (.int 1)) (g_hp G (f_uL C 0 (vp_updL (C.2.2.2.2.1 0) j (if C.2.1 12 = 0 then x.toInt32.toInt64 else x))) tl) := by
  refine g_Run.of (lv := [(0, .ref (g_ad G 0)), (1, .int 0), (2, .int (nI j)), (3, .long x)]) (by decide) (Nat.le_of_ble_eq_true rfl) rfl ?_
  refine a_aload_n 0 1 rfl dX11_put_0 rfl rfl ?_
  refine a_iload_n 1 2 rfl dX11_put_1 rfl rfl ?_
  refine a_callV (as := [.int 0]) (rest := []) (st2 := [.ref (g_ad G 32)]) (u1 := 0) (v1 := 0) (u2 := 0) (v2 := 0) (r_listAt0 hq) (⟨_, _, _, _, rfl, rfl⟩) oX11_listAt q_833 q_835 q_43 rfl (by omega) (by decide) rfl (Nat.le_of_ble_eq_true rfl) 5 rfl dX11_put_2 rfl ?_
  refine a_astore (lv' := [(5, .ref (g_ad G 32)), (0, .ref (g_ad G 0)), (1, .int 0), (2, .int (nI j)), (3, .long x)]) 7 rfl dX11_put_5 (by decide) rfl ?_
  refine a_aload 0 9 rfl dX11_put_7 rfl ?_
  refine a_ifnonnull 14 dX11_put_9 (by decide) ?_
  refine a_aload 0 16 rfl dX11_put_14 rfl ?_
  refine a_callVN (as := []) (rest := []) (st2 := [.int (if C.2.1 9 = 0 then 1 else 0)]) (u1 := 0) (v1 := 0) (u2 := 0) (v2 := 0) (r_X8_isMissing rfl) (⟨_, _, _, _, rfl, rfl⟩) oX8_isMissing q_837 q_839 q_44 rfl (by omega) (by decide) rfl (Nat.le_of_ble_eq_true rfl) 19 rfl dX11_put_16 rfl ?_
  refine a_if_eq 25 22 rfl dX11_put_19 (by decide) (fun _ => ?_) (fun hc => absurd ((by rw [if_neg ht])) hc)
  refine a_aload 0 27 rfl dX11_put_25 rfl ?_
  refine a_iload_n 3 28 rfl dX11_put_27 rfl rfl ?_
  refine a_lload_n 4 29 rfl dX11_put_28 rfl rfl ?_
  refine a_callVN (as := [.int (nI j), .long x]) (rest := []) (st2 := [.int 1]) (u1 := 0) (v1 := 0) (u2 := 0) (v2 := 0) (r_X8_place_in rfl rfl hn hj) (⟨_, _, _, _, rfl, rfl⟩) oX8_place q_994 q_996 q_68 rfl (by omega) (by decide) rfl (Nat.le_of_ble_eq_true rfl) 32 rfl dX11_put_29 rfl ?_
  refine a_if_eq 39 35 rfl dX11_put_32 (by decide) (fun hc => absurd hc ((by decide))) (fun _ => ?_)
  refine a_iconst (x := 1) 36 rfl dX11_put_35 (by decide) ?_
  refine a_goto 41 dX11_put_36 (by decide) ?_
  refine a_eq (h2 := g_hp G (f_uL C 0 (vp_updL (C.2.2.2.2.1 0) j (if C.2.1 12 = 0 then x.toInt32.toInt64 else x))) tl) rfl rfl rfl (rfl) ?_
  exact a_ireturn .int rfl rfl (rfl) (rfl) dX11_put_41
theorem r_X11_get0_out (hq : f_qs G C) (hn : C.1 15 ≤ 20) (hi : ¬ vp_in y2 (C.1 15)) : g_Run G mX11_get 2 0 0 [.ref (g_ad G 0), .int 0, .int y2] (g_hp G C tl) (some (.long (-9223372036854775808))) (g_hp G C tl) := by
  refine g_Run.of (lv := [(0, .ref (g_ad G 0)), (1, .int 0), (2, .int y2)]) (by decide) (Nat.le_of_ble_eq_true rfl) rfl ?_
  refine a_aload_n 0 1 rfl dX11_get_0 rfl rfl ?_
  refine a_iload_n 1 2 rfl dX11_get_1 rfl rfl ?_
  refine a_callV (as := [.int 0]) (rest := []) (st2 := [.ref (g_ad G 32)]) (u1 := 0) (v1 := 0) (u2 := 0) (v2 := 0) (r_listAt0 hq) (⟨_, _, _, _, rfl, rfl⟩) oX11_listAt q_833 q_835 q_43 rfl (by omega) (by decide) rfl (Nat.le_of_ble_eq_true rfl) 5 rfl dX11_get_2 rfl ?_
  refine a_astore_n (lv' := [(3, .ref (g_ad G 32)), (0, .ref (g_ad G 0)), (1, .int 0), (2, .int y2)]) 6 rfl dX11_get_5 rfl (by decide) rfl ?_
  refine a_aload_n 0 7 rfl dX11_get_6 rfl rfl ?_
  refine a_ifnull 10 rfl dX11_get_7 ?_
  refine a_aload_n 0 11 rfl dX11_get_10 rfl rfl ?_
  refine a_iload_n 3 12 rfl dX11_get_11 rfl rfl ?_
  refine a_callVN (as := [.int y2]) (rest := []) (st2 := [.int 0]) (u1 := 0) (v1 := 0) (u2 := 0) (v2 := 0) (r_X8_hasPlace_out rfl hn hi) (⟨_, _, _, _, rfl, rfl⟩) oX8_hasPlace q_841 q_843 q_45 rfl (by omega) (by decide) rfl (Nat.le_of_ble_eq_true rfl) 15 rfl dX11_get_12 rfl ?_
  refine a_if_ne 24 18 rfl dX11_get_15 (by decide) (fun hc => absurd (rfl) hc) (fun _ => ?_)
  refine a_ldc2 q_466 21 rfl dX11_get_18 ?_
  refine a_goto 29 dX11_get_21 (by decide) ?_
  exact a_lreturn rfl (rfl) (rfl) dX11_get_29
theorem r_X11_get0 (hq : f_qs G C) (hn : C.1 15 ≤ 20) (hj : j < C.1 15) : g_Run G mX11_get 2 0 0 [.ref (g_ad G 0), .int 0, .int (nI j)] (g_hp G C tl) (some (.long (C.2.2.2.2.1 0 j))) (g_hp G C tl) := by
  refine g_Run.of (lv := [(0, .ref (g_ad G 0)), (1, .int 0), (2, .int (nI j))]) (by decide) (Nat.le_of_ble_eq_true rfl) rfl ?_
  refine a_aload_n 0 1 rfl dX11_get_0 rfl rfl ?_
  refine a_iload_n 1 2 rfl dX11_get_1 rfl rfl ?_
  refine a_callV (as := [.int 0]) (rest := []) (st2 := [.ref (g_ad G 32)]) (u1 := 0) (v1 := 0) (u2 := 0) (v2 := 0) (r_listAt0 hq) (⟨_, _, _, _, rfl, rfl⟩) oX11_listAt q_833 q_835 q_43 rfl (by omega) (by decide) rfl (Nat.le_of_ble_eq_true rfl) 5 rfl dX11_get_2 rfl ?_
  refine a_astore_n (lv' := [(3, .ref (g_ad G 32)), (0, .ref (g_ad G 0)), (1, .int 0), (2, .int (nI j))]) 6 rfl dX11_get_5 rfl (by decide) rfl ?_
  refine a_aload_n 0 7 rfl dX11_get_6 rfl rfl ?_
  refine a_ifnull 10 rfl dX11_get_7 ?_
  refine a_aload_n 0 11 rfl dX11_get_10 rfl rfl ?_
  refine a_iload_n 3 12 rfl dX11_get_11 rfl rfl ?_
  refine a_callVN (as := [.int (nI j)]) (rest := []) (st2 := [.int 1]) (u1 := 0) (v1 := 0) (u2 := 0) (v2 := 0) (r_X8_hasPlace_in rfl rfl hn hj) (⟨_, _, _, _, rfl, rfl⟩) oX8_hasPlace q_841 q_843 q_45 rfl (by omega) (by decide) rfl (Nat.le_of_ble_eq_true rfl) 15 rfl dX11_get_12 rfl ?_
  refine a_if_ne 24 18 rfl dX11_get_15 (by decide) (fun _ => ?_) (fun hc => absurd hc ((by decide)))
  refine a_aload_n 0 25 rfl dX11_get_24 rfl rfl ?_
  refine a_iload_n 3 26 rfl dX11_get_25 rfl rfl ?_
  refine a_callVN (as := [.int (nI j)]) (rest := []) (st2 := [.long (C.2.2.2.2.1 0 j)]) (u1 := 0) (v1 := 0) (u2 := 0) (v2 := 0) (r_X8_at_in rfl rfl hn hj) (⟨_, _, _, _, rfl, rfl⟩) oX8_at q_845 q_847 q_46 rfl (by omega) (by decide) rfl (Nat.le_of_ble_eq_true rfl) 29 rfl dX11_get_26 rfl ?_
  exact a_lreturn rfl (rfl) (rfl) dX11_get_29

theorem r_X11_list1_out (hq : f_qs G C) (hy : y2 < -1 ∨ ¬ y2 < 2) : g_Run G mX11_list 2 0 0 [.ref (g_ad G 0), .int 1, .int y2, .int y3] (g_hp G C tl) (some (.int (-1))) (g_hp G C tl) := by
  refine g_Run.of (lv := [(0, .ref (g_ad G 0)), (1, .int 1), (2, .int y2), (3, .int y3)]) (by decide) (Nat.le_of_ble_eq_true rfl) rfl ?_
  refine a_aload_n 0 1 rfl dX11_list_0 rfl rfl ?_
  refine a_iload_n 1 2 rfl dX11_list_1 rfl rfl ?_
  refine a_callV (as := [.int 1]) (rest := []) (st2 := [.ref (g_ad G 34)]) (u1 := 0) (v1 := 0) (u2 := 0) (v2 := 0) (r_listAt1 hq) (⟨_, _, _, _, rfl, rfl⟩) oX11_listAt q_833 q_835 q_43 rfl (by omega) (by decide) rfl (Nat.le_of_ble_eq_true rfl) 5 rfl dX11_list_2 rfl ?_
  refine a_astore (lv' := [(4, .ref (g_ad G 34)), (0, .ref (g_ad G 0)), (1, .int 1), (2, .int y2), (3, .int y3)]) 7 rfl dX11_list_5 (by decide) rfl ?_
  refine a_aload 0 9 rfl dX11_list_7 rfl ?_
  refine a_ifnull 12 rfl dX11_list_9 ?_
  refine a_iload_n 3 13 rfl dX11_list_12 rfl rfl ?_
  refine a_iconst (x := (-1)) 14 rfl dX11_list_13 (by decide) ?_
  refine a_icmp_lt 22 17 rfl dX11_list_14 (by decide) (fun c14 => ?_) (fun c14 => ?_)
  refine a_iconst (x := (-1)) 23 rfl dX11_list_22 (by decide) ?_
  exact a_ireturn .int rfl rfl (rfl) (rfl) dX11_list_23
  refine a_iload_n 3 18 rfl dX11_list_17 rfl rfl ?_
  refine a_iconst (x := 2) 19 rfl dX11_list_18 (by decide) ?_
  refine a_icmp_lt 24 22 rfl dX11_list_19 (by decide) (fun hc => absurd hc ((hy.resolve_left c14))) (fun _ => ?_)
  refine a_iconst (x := (-1)) 23 rfl dX11_list_22 (by decide) ?_
  exact a_ireturn .int rfl rfl (rfl) (rfl) dX11_list_23
theorem r_X11_list1_rem (hq : f_qs G C) : g_Run G mX11_list 2 0 0 [.ref (g_ad G 0), .int 1, .int (-1), .int y3] (g_hp G C tl) (some (.int 1)) (g_hp G (f_un (f_ui C 10 0) 16 0) tl) := by
  refine g_Run.of (lv := [(0, .ref (g_ad G 0)), (1, .int 1), (2, .int ((-1))), (3, .int y3)]) (by decide) (Nat.le_of_ble_eq_true rfl) rfl ?_
  refine a_aload_n 0 1 rfl dX11_list_0 rfl rfl ?_
  refine a_iload_n 1 2 rfl dX11_list_1 rfl rfl ?_
  refine a_callV (as := [.int 1]) (rest := []) (st2 := [.ref (g_ad G 34)]) (u1 := 0) (v1 := 0) (u2 := 0) (v2 := 0) (r_listAt1 hq) (⟨_, _, _, _, rfl, rfl⟩) oX11_listAt q_833 q_835 q_43 rfl (by omega) (by decide) rfl (Nat.le_of_ble_eq_true rfl) 5 rfl dX11_list_2 rfl ?_
  refine a_astore (lv' := [(4, .ref (g_ad G 34)), (0, .ref (g_ad G 0)), (1, .int 1), (2, .int ((-1))), (3, .int y3)]) 7 rfl dX11_list_5 (by decide) rfl ?_
  refine a_aload 0 9 rfl dX11_list_7 rfl ?_
  refine a_ifnull 12 rfl dX11_list_9 ?_
  refine a_iload_n 3 13 rfl dX11_list_12 rfl rfl ?_
  refine a_iconst (x := (-1)) 14 rfl dX11_list_13 (by decide) ?_
  refine a_icmp_lt 22 17 rfl dX11_list_14 (by decide) (fun hc => absurd hc ((by decide))) (fun _ => ?_)
  refine a_iload_n 3 18 rfl dX11_list_17 rfl rfl ?_
  refine a_iconst (x := 2) 19 rfl dX11_list_18 (by decide) ?_
  refine a_icmp_lt 24 22 rfl dX11_list_19 (by decide) (fun _ => ?_) (fun hc => absurd ((by decide)) hc)
  refine a_iload_n 3 25 rfl dX11_list_24 rfl rfl ?_
  refine a_iconst (x := (-1)) 26 rfl dX11_list_25 (by decide) ?_
  refine a_icmp_ne 36 29 rfl dX11_list_26 (by decide) (fun hc => absurd (rfl) hc) (fun _ => ?_)
  refine a_aload 0 31 rfl dX11_list_29 rfl ?_
  refine a_callVN (as := []) (rest := []) (st2 := []) (u1 := 0) (v1 := 0) (u2 := 0) (v2 := 0) (r_X8_remove rfl) (⟨_, _, _, _, rfl, rfl⟩) oX8_remove q_982 q_984 q_66 rfl (by omega) (by decide) rfl (Nat.le_of_ble_eq_true rfl) 34 rfl dX11_list_31 rfl ?_
  refine a_eq (h2 := g_hp G (f_un (f_ui C 10 0) 16 0) tl) rfl rfl rfl (rfl) ?_
  refine a_iconst (x := 1) 35 rfl dX11_list_34 (by decide) ?_
  exact a_ireturn .int rfl rfl (rfl) (rfl) dX11_list_35
theorem r_X11_list1_much (hq : f_qs G C) (h1 : ¬ y2 < -1) (h2 : y2 < 2) (h3 : ¬ y2 = -1) (h4 : ¬ y3 ≤ 20) : g_Run G mX11_list 2 0 0 [.ref (g_ad G 0), .int 1, .int y2, .int y3] (g_hp G C tl) (some (.int (-1))) (g_hp G C tl) := by
  refine g_Run.of (lv := [(0, .ref (g_ad G 0)), (1, .int 1), (2, .int y2), (3, .int y3)]) (by decide) (Nat.le_of_ble_eq_true rfl) rfl ?_
  refine a_aload_n 0 1 rfl dX11_list_0 rfl rfl ?_
  refine a_iload_n 1 2 rfl dX11_list_1 rfl rfl ?_
  refine a_callV (as := [.int 1]) (rest := []) (st2 := [.ref (g_ad G 34)]) (u1 := 0) (v1 := 0) (u2 := 0) (v2 := 0) (r_listAt1 hq) (⟨_, _, _, _, rfl, rfl⟩) oX11_listAt q_833 q_835 q_43 rfl (by omega) (by decide) rfl (Nat.le_of_ble_eq_true rfl) 5 rfl dX11_list_2 rfl ?_
  refine a_astore (lv' := [(4, .ref (g_ad G 34)), (0, .ref (g_ad G 0)), (1, .int 1), (2, .int y2), (3, .int y3)]) 7 rfl dX11_list_5 (by decide) rfl ?_
  refine a_aload 0 9 rfl dX11_list_7 rfl ?_
  refine a_ifnull 12 rfl dX11_list_9 ?_
  refine a_iload_n 3 13 rfl dX11_list_12 rfl rfl ?_
  refine a_iconst (x := (-1)) 14 rfl dX11_list_13 (by decide) ?_
  refine a_icmp_lt 22 17 rfl dX11_list_14 (by decide) (fun hc => absurd hc (h1)) (fun _ => ?_)
  refine a_iload_n 3 18 rfl dX11_list_17 rfl rfl ?_
  refine a_iconst (x := 2) 19 rfl dX11_list_18 (by decide) ?_
  refine a_icmp_lt 24 22 rfl dX11_list_19 (by decide) (fun _ => ?_) (fun hc => absurd (h2) hc)
  refine a_iload_n 3 25 rfl dX11_list_24 rfl rfl ?_
  refine a_iconst (x := (-1)) 26 rfl dX11_list_25 (by decide) ?_
  refine a_icmp_ne 36 29 rfl dX11_list_26 (by decide) (fun _ => ?_) (fun hc => absurd hc (h3))
  refine a_iload_n 4 37 rfl dX11_list_36 rfl rfl ?_
  refine a_bipush (x := 20) 39 rfl dX11_list_37 (by decide) ?_
  refine a_icmp_le 44 42 rfl dX11_list_39 (by decide) (fun hc => absurd hc (h4)) (fun _ => ?_)
  refine a_iconst (x := (-1)) 43 rfl dX11_list_42 (by decide) ?_
  exact a_ireturn .int rfl rfl (rfl) (rfl) dX11_list_43
theorem r_X11_list1_few (hq : f_qs G C) (h1 : ¬ y2 < -1) (h2 : y2 < 2) (h3 : ¬ y2 = -1) (h4 : y3 ≤ 20) (h5 : ¬ 0 ≤ y3) : g_Run G mX11_list 2 0 0 [.ref (g_ad G 0), .int 1, .int y2, .int y3] (g_hp G C tl) (some (.int (-14))) (g_hp G C tl) := by
  refine g_Run.of (lv := [(0, .ref (g_ad G 0)), (1, .int 1), (2, .int y2), (3, .int y3)]) (by decide) (Nat.le_of_ble_eq_true rfl) rfl ?_
  refine a_aload_n 0 1 rfl dX11_list_0 rfl rfl ?_
  refine a_iload_n 1 2 rfl dX11_list_1 rfl rfl ?_
  refine a_callV (as := [.int 1]) (rest := []) (st2 := [.ref (g_ad G 34)]) (u1 := 0) (v1 := 0) (u2 := 0) (v2 := 0) (r_listAt1 hq) (⟨_, _, _, _, rfl, rfl⟩) oX11_listAt q_833 q_835 q_43 rfl (by omega) (by decide) rfl (Nat.le_of_ble_eq_true rfl) 5 rfl dX11_list_2 rfl ?_
  refine a_astore (lv' := [(4, .ref (g_ad G 34)), (0, .ref (g_ad G 0)), (1, .int 1), (2, .int y2), (3, .int y3)]) 7 rfl dX11_list_5 (by decide) rfl ?_
  refine a_aload 0 9 rfl dX11_list_7 rfl ?_
  refine a_ifnull 12 rfl dX11_list_9 ?_
  refine a_iload_n 3 13 rfl dX11_list_12 rfl rfl ?_
  refine a_iconst (x := (-1)) 14 rfl dX11_list_13 (by decide) ?_
  refine a_icmp_lt 22 17 rfl dX11_list_14 (by decide) (fun hc => absurd hc (h1)) (fun _ => ?_)
  refine a_iload_n 3 18 rfl dX11_list_17 rfl rfl ?_
  refine a_iconst (x := 2) 19 rfl dX11_list_18 (by decide) ?_
  refine a_icmp_lt 24 22 rfl dX11_list_19 (by decide) (fun _ => ?_) (fun hc => absurd (h2) hc)
  refine a_iload_n 3 25 rfl dX11_list_24 rfl rfl ?_
  refine a_iconst (x := (-1)) 26 rfl dX11_list_25 (by decide) ?_
  refine a_icmp_ne 36 29 rfl dX11_list_26 (by decide) (fun _ => ?_) (fun hc => absurd hc (h3))
  refine a_iload_n 4 37 rfl dX11_list_36 rfl rfl ?_
  refine a_bipush (x := 20) 39 rfl dX11_list_37 (by decide) ?_
  refine a_icmp_le 44 42 rfl dX11_list_39 (by decide) (fun _ => ?_) (fun hc => absurd (h4) hc)
  refine a_iload_n 4 45 rfl dX11_list_44 rfl rfl ?_
  refine a_if_ge 51 48 rfl dX11_list_45 (by decide) (fun hc => absurd hc (h5)) (fun _ => ?_)
  refine a_bipush (x := (-14)) 50 rfl dX11_list_48 (by decide) ?_
  exact a_ireturn .int rfl rfl (rfl) (rfl) dX11_list_50
theorem r_X11_list1 {n9 : Nat} (hq : f_qs G C) (h1 : ¬ y2 < -1) (h2 : y2 < 2) (h3 : ¬ y2 = -1) (h4 : n9 ≤ 20) : ∃ f2 : Nat → Int64, (∀ j, j < 20 → f2 j = 0) ∧ g_Run G mX11_list 2 0 0 [.ref (g_ad G 0), .int 1, .int y2, .int (nI n9)] (g_hp G C tl) (some (.int 1)) (g_hp G (f_uL (f_un (f_ui (f_ui C 10 1) 13 y2) 16 n9) 1 f2) tl) := by
  obtain ⟨f2, hz, w⟩ := r_X8_lay (G := G) (h := g_hp G C tl) (a := 34) (so2 := y2) (mn2 := nI n9) rfl rfl (by decide)
  refine ⟨f2, hz, ?_⟩
  refine g_Run.of (lv := [(0, .ref (g_ad G 0)), (1, .int 1), (2, .int y2), (3, .int (nI n9))]) (by decide) (Nat.le_of_ble_eq_true rfl) rfl ?_
  refine a_aload_n 0 1 rfl dX11_list_0 rfl rfl ?_
  refine a_iload_n 1 2 rfl dX11_list_1 rfl rfl ?_
  refine a_callV (as := [.int 1]) (rest := []) (st2 := [.ref (g_ad G 34)]) (u1 := 0) (v1 := 0) (u2 := 0) (v2 := 0) (r_listAt1 hq) (⟨_, _, _, _, rfl, rfl⟩) oX11_listAt q_833 q_835 q_43 rfl (by omega) (by decide) rfl (Nat.le_of_ble_eq_true rfl) 5 rfl dX11_list_2 rfl ?_
  refine a_astore (lv' := [(4, .ref (g_ad G 34)), (0, .ref (g_ad G 0)), (1, .int 1), (2, .int y2), (3, .int (nI n9))]) 7 rfl dX11_list_5 (by decide) rfl ?_
  refine a_aload 0 9 rfl dX11_list_7 rfl ?_
  refine a_ifnull 12 rfl dX11_list_9 ?_
  refine a_iload_n 3 13 rfl dX11_list_12 rfl rfl ?_
  refine a_iconst (x := (-1)) 14 rfl dX11_list_13 (by decide) ?_
  refine a_icmp_lt 22 17 rfl dX11_list_14 (by decide) (fun hc => absurd hc (h1)) (fun _ => ?_)
  refine a_iload_n 3 18 rfl dX11_list_17 rfl rfl ?_
  refine a_iconst (x := 2) 19 rfl dX11_list_18 (by decide) ?_
  refine a_icmp_lt 24 22 rfl dX11_list_19 (by decide) (fun _ => ?_) (fun hc => absurd (h2) hc)
  refine a_iload_n 3 25 rfl dX11_list_24 rfl rfl ?_
  refine a_iconst (x := (-1)) 26 rfl dX11_list_25 (by decide) ?_
  refine a_icmp_ne 36 29 rfl dX11_list_26 (by decide) (fun _ => ?_) (fun hc => absurd hc (h3))
  refine a_iload_n 4 37 rfl dX11_list_36 rfl rfl ?_
  refine a_bipush (x := 20) 39 rfl dX11_list_37 (by decide) ?_
  refine a_icmp_le 44 42 rfl dX11_list_39 (by decide) (fun _ => ?_) (fun hc => absurd ((nI_le (b := 20) h4 (by omega))) hc)
  refine a_iload_n 4 45 rfl dX11_list_44 rfl rfl ?_
  refine a_if_ge 51 48 rfl dX11_list_45 (by decide) (fun _ => ?_) (fun hc => absurd (nI_pos' (by omega)) hc)
  refine a_aload 0 53 rfl dX11_list_51 rfl ?_
  refine a_iload_n 3 54 rfl dX11_list_53 rfl rfl ?_
  refine a_iload_n 4 55 rfl dX11_list_54 rfl rfl ?_
  refine a_callVN (as := [.int y2, .int (nI n9)]) (rest := []) (st2 := []) (u1 := 0) (v1 := 0) (u2 := 0) (v2 := 0) (w) (⟨_, _, _, _, rfl, rfl⟩) oX8_lay q_986 q_988 q_67 rfl (by omega) (by decide) rfl (Nat.le_of_ble_eq_true rfl) 58 rfl dX11_list_55 rfl ?_
  refine a_eq (h2 := g_hp G (f_uL (f_un (f_ui (f_ui C 10 1) 13 y2) 16 n9) 1 f2) tl) rfl rfl rfl (rfl) ?_
  refine a_iconst (x := 1) 59 rfl dX11_list_58 (by decide) ?_
  exact a_ireturn .int rfl rfl (rfl) (rfl) dX11_list_59
theorem r_X11_put1_miss (hq : f_qs G C) (ht : C.2.1 10 = 0) : g_Run G mX11_put 2 0 0 [.ref (g_ad G 0), .int 1, .int y2, .long x] (g_hp G C tl) (some (.int (-11))) (g_hp G C tl) := by
  refine g_Run.of (lv := [(0, .ref (g_ad G 0)), (1, .int 1), (2, .int y2), (3, .long x)]) (by decide) (Nat.le_of_ble_eq_true rfl) rfl ?_
  refine a_aload_n 0 1 rfl dX11_put_0 rfl rfl ?_
  refine a_iload_n 1 2 rfl dX11_put_1 rfl rfl ?_
  refine a_callV (as := [.int 1]) (rest := []) (st2 := [.ref (g_ad G 34)]) (u1 := 0) (v1 := 0) (u2 := 0) (v2 := 0) (r_listAt1 hq) (⟨_, _, _, _, rfl, rfl⟩) oX11_listAt q_833 q_835 q_43 rfl (by omega) (by decide) rfl (Nat.le_of_ble_eq_true rfl) 5 rfl dX11_put_2 rfl ?_
  refine a_astore (lv' := [(5, .ref (g_ad G 34)), (0, .ref (g_ad G 0)), (1, .int 1), (2, .int y2), (3, .long x)]) 7 rfl dX11_put_5 (by decide) rfl ?_
  refine a_aload 0 9 rfl dX11_put_7 rfl ?_
  refine a_ifnonnull 14 dX11_put_9 (by decide) ?_
  refine a_aload 0 16 rfl dX11_put_14 rfl ?_
  refine a_callVN (as := []) (rest := []) (st2 := [.int (if C.2.1 10 = 0 then 1 else 0)]) (u1 := 0) (v1 := 0) (u2 := 0) (v2 := 0) (r_X8_isMissing rfl) (⟨_, _, _, _, rfl, rfl⟩) oX8_isMissing q_837 q_839 q_44 rfl (by omega) (by decide) rfl (Nat.le_of_ble_eq_true rfl) 19 rfl dX11_put_16 rfl ?_
  refine a_if_eq 25 22 rfl dX11_put_19 (by decide) (fun hc => absurd hc ((by rw [if_pos ht]; decide))) (fun _ => ?_)
  refine a_bipush (x := (-11)) 24 rfl dX11_put_22 (by decide) ?_
  exact a_ireturn .int rfl rfl (rfl) (rfl) dX11_put_24
theorem r_X11_put1_out (hq : f_qs G C) (ht : ¬ C.2.1 10 = 0) (hn : C.1 16 ≤ 20) (hi : ¬ vp_in y2 (C.1 16)) : g_Run G mX11_put 2 0 0 [.ref (g_ad G 0), .int 1, .int y2, .long x] (g_hp G C tl) (some (.int (-13))) (g_hp G C tl) := by
  refine g_Run.of (lv := [(0, .ref (g_ad G 0)), (1, .int 1), (2, .int y2), (3, .long x)]) (by decide) (Nat.le_of_ble_eq_true rfl) rfl ?_
  refine a_aload_n 0 1 rfl dX11_put_0 rfl rfl ?_
  refine a_iload_n 1 2 rfl dX11_put_1 rfl rfl ?_
  refine a_callV (as := [.int 1]) (rest := []) (st2 := [.ref (g_ad G 34)]) (u1 := 0) (v1 := 0) (u2 := 0) (v2 := 0) (r_listAt1 hq) (⟨_, _, _, _, rfl, rfl⟩) oX11_listAt q_833 q_835 q_43 rfl (by omega) (by decide) rfl (Nat.le_of_ble_eq_true rfl) 5 rfl dX11_put_2 rfl ?_
  refine a_astore (lv' := [(5, .ref (g_ad G 34)), (0, .ref (g_ad G 0)), (1, .int 1), (2, .int y2), (3, .long x)]) 7 rfl dX11_put_5 (by decide) rfl ?_
  refine a_aload 0 9 rfl dX11_put_7 rfl ?_
  refine a_ifnonnull 14 dX11_put_9 (by decide) ?_
  refine a_aload 0 16 rfl dX11_put_14 rfl ?_
  refine a_callVN (as := []) (rest := []) (st2 := [.int (if C.2.1 10 = 0 then 1 else 0)]) (u1 := 0) (v1 := 0) (u2 := 0) (v2 := 0) (r_X8_isMissing rfl) (⟨_, _, _, _, rfl, rfl⟩) oX8_isMissing q_837 q_839 q_44 rfl (by omega) (by decide) rfl (Nat.le_of_ble_eq_true rfl) 19 rfl dX11_put_16 rfl ?_
  refine a_if_eq 25 22 rfl dX11_put_19 (by decide) (fun _ => ?_) (fun hc => absurd ((by rw [if_neg ht])) hc)
  refine a_aload 0 27 rfl dX11_put_25 rfl ?_
  refine a_iload_n 3 28 rfl dX11_put_27 rfl rfl ?_
  refine a_lload_n 4 29 rfl dX11_put_28 rfl rfl ?_
  refine a_callVN (as := [.int y2, .long x]) (rest := []) (st2 := [.int 0]) (u1 := 0) (v1 := 0) (u2 := 0) (v2 := 0) (r_X8_place_out rfl hn hi) (⟨_, _, _, _, rfl, rfl⟩) oX8_place q_994 q_996 q_68 rfl (by omega) (by decide) rfl (Nat.le_of_ble_eq_true rfl) 32 rfl dX11_put_29 rfl ?_
  refine a_if_eq 39 35 rfl dX11_put_32 (by decide) (fun _ => ?_) (fun hc => absurd (rfl) hc)
  refine a_bipush (x := (-13)) 41 rfl dX11_put_39 (by decide) ?_
  exact a_ireturn .int rfl rfl (rfl) (rfl) dX11_put_41
theorem r_X11_put1 (hq : f_qs G C) (ht : ¬ C.2.1 10 = 0) (hn : C.1 16 ≤ 20) (hj : j < C.1 16) : g_Run G mX11_put 2 0 0 [.ref (g_ad G 0), .int 1, .int (nI j), .long x] (g_hp G C tl) (some (.int 1)) (g_hp G (f_uL C 1 (vp_updL (C.2.2.2.2.1 1) j (if C.2.1 13 = 0 then x.toInt32.toInt64 else x))) tl) := by
  refine g_Run.of (lv := [(0, .ref (g_ad G 0)), (1, .int 1), (2, .int (nI j)), (3, .long x)]) (by decide) (Nat.le_of_ble_eq_true rfl) rfl ?_
  refine a_aload_n 0 1 rfl dX11_put_0 rfl rfl ?_
  refine a_iload_n 1 2 rfl dX11_put_1 rfl rfl ?_
  refine a_callV (as := [.int 1]) (rest := []) (st2 := [.ref (g_ad G 34)]) (u1 := 0) (v1 := 0) (u2 := 0) (v2 := 0) (r_listAt1 hq) (⟨_, _, _, _, rfl, rfl⟩) oX11_listAt q_833 q_835 q_43 rfl (by omega) (by decide) rfl (Nat.le_of_ble_eq_true rfl) 5 rfl dX11_put_2 rfl ?_
  refine a_astore (lv' := [(5, .ref (g_ad G 34)), (0, .ref (g_ad G 0)), (1, .int 1), (2, .int (nI j)), (3, .long x)]) 7 rfl dX11_put_5 (by decide) rfl ?_
  refine a_aload 0 9 rfl dX11_put_7 rfl ?_
  refine a_ifnonnull 14 dX11_put_9 (by decide) ?_
  refine a_aload 0 16 rfl dX11_put_14 rfl ?_
  refine a_callVN (as := []) (rest := []) (st2 := [.int (if C.2.1 10 = 0 then 1 else 0)]) (u1 := 0) (v1 := 0) (u2 := 0) (v2 := 0) (r_X8_isMissing rfl) (⟨_, _, _, _, rfl, rfl⟩) oX8_isMissing q_837 q_839 q_44 rfl (by omega) (by decide) rfl (Nat.le_of_ble_eq_true rfl) 19 rfl dX11_put_16 rfl ?_
  refine a_if_eq 25 22 rfl dX11_put_19 (by decide) (fun _ => ?_) (fun hc => absurd ((by rw [if_neg ht])) hc)
  refine a_aload 0 27 rfl dX11_put_25 rfl ?_
  refine a_iload_n 3 28 rfl dX11_put_27 rfl rfl ?_
  refine a_lload_n 4 29 rfl dX11_put_28 rfl rfl ?_
  refine a_callVN (as := [.int (nI j), .long x]) (rest := []) (st2 := [.int 1]) (u1 := 0) (v1 := 0) (u2 := 0) (v2 := 0) (r_X8_place_in rfl rfl hn hj) (⟨_, _, _, _, rfl, rfl⟩) oX8_place q_994 q_996 q_68 rfl (by omega) (by decide) rfl (Nat.le_of_ble_eq_true rfl) 32 rfl dX11_put_29 rfl ?_
  refine a_if_eq 39 35 rfl dX11_put_32 (by decide) (fun hc => absurd hc ((by decide))) (fun _ => ?_)
  refine a_iconst (x := 1) 36 rfl dX11_put_35 (by decide) ?_
  refine a_goto 41 dX11_put_36 (by decide) ?_
  refine a_eq (h2 := g_hp G (f_uL C 1 (vp_updL (C.2.2.2.2.1 1) j (if C.2.1 13 = 0 then x.toInt32.toInt64 else x))) tl) rfl rfl rfl (rfl) ?_
  exact a_ireturn .int rfl rfl (rfl) (rfl) dX11_put_41
theorem r_X11_get1_out (hq : f_qs G C) (hn : C.1 16 ≤ 20) (hi : ¬ vp_in y2 (C.1 16)) : g_Run G mX11_get 2 0 0 [.ref (g_ad G 0), .int 1, .int y2] (g_hp G C tl) (some (.long (-9223372036854775808))) (g_hp G C tl) := by
  refine g_Run.of (lv := [(0, .ref (g_ad G 0)), (1, .int 1), (2, .int y2)]) (by decide) (Nat.le_of_ble_eq_true rfl) rfl ?_
  refine a_aload_n 0 1 rfl dX11_get_0 rfl rfl ?_
  refine a_iload_n 1 2 rfl dX11_get_1 rfl rfl ?_
  refine a_callV (as := [.int 1]) (rest := []) (st2 := [.ref (g_ad G 34)]) (u1 := 0) (v1 := 0) (u2 := 0) (v2 := 0) (r_listAt1 hq) (⟨_, _, _, _, rfl, rfl⟩) oX11_listAt q_833 q_835 q_43 rfl (by omega) (by decide) rfl (Nat.le_of_ble_eq_true rfl) 5 rfl dX11_get_2 rfl ?_
  refine a_astore_n (lv' := [(3, .ref (g_ad G 34)), (0, .ref (g_ad G 0)), (1, .int 1), (2, .int y2)]) 6 rfl dX11_get_5 rfl (by decide) rfl ?_
  refine a_aload_n 0 7 rfl dX11_get_6 rfl rfl ?_
  refine a_ifnull 10 rfl dX11_get_7 ?_
  refine a_aload_n 0 11 rfl dX11_get_10 rfl rfl ?_
  refine a_iload_n 3 12 rfl dX11_get_11 rfl rfl ?_
  refine a_callVN (as := [.int y2]) (rest := []) (st2 := [.int 0]) (u1 := 0) (v1 := 0) (u2 := 0) (v2 := 0) (r_X8_hasPlace_out rfl hn hi) (⟨_, _, _, _, rfl, rfl⟩) oX8_hasPlace q_841 q_843 q_45 rfl (by omega) (by decide) rfl (Nat.le_of_ble_eq_true rfl) 15 rfl dX11_get_12 rfl ?_
  refine a_if_ne 24 18 rfl dX11_get_15 (by decide) (fun hc => absurd (rfl) hc) (fun _ => ?_)
  refine a_ldc2 q_466 21 rfl dX11_get_18 ?_
  refine a_goto 29 dX11_get_21 (by decide) ?_
  exact a_lreturn rfl (rfl) (rfl) dX11_get_29
theorem r_X11_get1 (hq : f_qs G C) (hn : C.1 16 ≤ 20) (hj : j < C.1 16) : g_Run G mX11_get 2 0 0 [.ref (g_ad G 0), .int 1, .int (nI j)] (g_hp G C tl) (some (.long (C.2.2.2.2.1 1 j))) (g_hp G C tl) := by
  refine g_Run.of (lv := [(0, .ref (g_ad G 0)), (1, .int 1), (2, .int (nI j))]) (by decide) (Nat.le_of_ble_eq_true rfl) rfl ?_
  refine a_aload_n 0 1 rfl dX11_get_0 rfl rfl ?_
  refine a_iload_n 1 2 rfl dX11_get_1 rfl rfl ?_
  refine a_callV (as := [.int 1]) (rest := []) (st2 := [.ref (g_ad G 34)]) (u1 := 0) (v1 := 0) (u2 := 0) (v2 := 0) (r_listAt1 hq) (⟨_, _, _, _, rfl, rfl⟩) oX11_listAt q_833 q_835 q_43 rfl (by omega) (by decide) rfl (Nat.le_of_ble_eq_true rfl) 5 rfl dX11_get_2 rfl ?_
  refine a_astore_n (lv' := [(3, .ref (g_ad G 34)), (0, .ref (g_ad G 0)), (1, .int 1), (2, .int (nI j))]) 6 rfl dX11_get_5 rfl (by decide) rfl ?_
  refine a_aload_n 0 7 rfl dX11_get_6 rfl rfl ?_
  refine a_ifnull 10 rfl dX11_get_7 ?_
  refine a_aload_n 0 11 rfl dX11_get_10 rfl rfl ?_
  refine a_iload_n 3 12 rfl dX11_get_11 rfl rfl ?_
  refine a_callVN (as := [.int (nI j)]) (rest := []) (st2 := [.int 1]) (u1 := 0) (v1 := 0) (u2 := 0) (v2 := 0) (r_X8_hasPlace_in rfl rfl hn hj) (⟨_, _, _, _, rfl, rfl⟩) oX8_hasPlace q_841 q_843 q_45 rfl (by omega) (by decide) rfl (Nat.le_of_ble_eq_true rfl) 15 rfl dX11_get_12 rfl ?_
  refine a_if_ne 24 18 rfl dX11_get_15 (by decide) (fun _ => ?_) (fun hc => absurd hc ((by decide)))
  refine a_aload_n 0 25 rfl dX11_get_24 rfl rfl ?_
  refine a_iload_n 3 26 rfl dX11_get_25 rfl rfl ?_
  refine a_callVN (as := [.int (nI j)]) (rest := []) (st2 := [.long (C.2.2.2.2.1 1 j)]) (u1 := 0) (v1 := 0) (u2 := 0) (v2 := 0) (r_X8_at_in rfl rfl hn hj) (⟨_, _, _, _, rfl, rfl⟩) oX8_at q_845 q_847 q_46 rfl (by omega) (by decide) rfl (Nat.le_of_ble_eq_true rfl) 29 rfl dX11_get_26 rfl ?_
  exact a_lreturn rfl (rfl) (rfl) dX11_get_29

theorem r_X11_list2_out (hq : f_qs G C) (hy : y2 < -1 ∨ ¬ y2 < 2) : g_Run G mX11_list 2 0 0 [.ref (g_ad G 0), .int 2, .int y2, .int y3] (g_hp G C tl) (some (.int (-1))) (g_hp G C tl) := by
  refine g_Run.of (lv := [(0, .ref (g_ad G 0)), (1, .int 2), (2, .int y2), (3, .int y3)]) (by decide) (Nat.le_of_ble_eq_true rfl) rfl ?_
  refine a_aload_n 0 1 rfl dX11_list_0 rfl rfl ?_
  refine a_iload_n 1 2 rfl dX11_list_1 rfl rfl ?_
  refine a_callV (as := [.int 2]) (rest := []) (st2 := [.ref (g_ad G 36)]) (u1 := 0) (v1 := 0) (u2 := 0) (v2 := 0) (r_listAt2 hq) (⟨_, _, _, _, rfl, rfl⟩) oX11_listAt q_833 q_835 q_43 rfl (by omega) (by decide) rfl (Nat.le_of_ble_eq_true rfl) 5 rfl dX11_list_2 rfl ?_
  refine a_astore (lv' := [(4, .ref (g_ad G 36)), (0, .ref (g_ad G 0)), (1, .int 2), (2, .int y2), (3, .int y3)]) 7 rfl dX11_list_5 (by decide) rfl ?_
  refine a_aload 0 9 rfl dX11_list_7 rfl ?_
  refine a_ifnull 12 rfl dX11_list_9 ?_
  refine a_iload_n 3 13 rfl dX11_list_12 rfl rfl ?_
  refine a_iconst (x := (-1)) 14 rfl dX11_list_13 (by decide) ?_
  refine a_icmp_lt 22 17 rfl dX11_list_14 (by decide) (fun c14 => ?_) (fun c14 => ?_)
  refine a_iconst (x := (-1)) 23 rfl dX11_list_22 (by decide) ?_
  exact a_ireturn .int rfl rfl (rfl) (rfl) dX11_list_23
  refine a_iload_n 3 18 rfl dX11_list_17 rfl rfl ?_
  refine a_iconst (x := 2) 19 rfl dX11_list_18 (by decide) ?_
  refine a_icmp_lt 24 22 rfl dX11_list_19 (by decide) (fun hc => absurd hc ((hy.resolve_left c14))) (fun _ => ?_)
  refine a_iconst (x := (-1)) 23 rfl dX11_list_22 (by decide) ?_
  exact a_ireturn .int rfl rfl (rfl) (rfl) dX11_list_23
theorem r_X11_list2_rem (hq : f_qs G C) : g_Run G mX11_list 2 0 0 [.ref (g_ad G 0), .int 2, .int (-1), .int y3] (g_hp G C tl) (some (.int 1)) (g_hp G (f_un (f_ui C 11 0) 17 0) tl) := by
  refine g_Run.of (lv := [(0, .ref (g_ad G 0)), (1, .int 2), (2, .int ((-1))), (3, .int y3)]) (by decide) (Nat.le_of_ble_eq_true rfl) rfl ?_
  refine a_aload_n 0 1 rfl dX11_list_0 rfl rfl ?_
  refine a_iload_n 1 2 rfl dX11_list_1 rfl rfl ?_
  refine a_callV (as := [.int 2]) (rest := []) (st2 := [.ref (g_ad G 36)]) (u1 := 0) (v1 := 0) (u2 := 0) (v2 := 0) (r_listAt2 hq) (⟨_, _, _, _, rfl, rfl⟩) oX11_listAt q_833 q_835 q_43 rfl (by omega) (by decide) rfl (Nat.le_of_ble_eq_true rfl) 5 rfl dX11_list_2 rfl ?_
  refine a_astore (lv' := [(4, .ref (g_ad G 36)), (0, .ref (g_ad G 0)), (1, .int 2), (2, .int ((-1))), (3, .int y3)]) 7 rfl dX11_list_5 (by decide) rfl ?_
  refine a_aload 0 9 rfl dX11_list_7 rfl ?_
  refine a_ifnull 12 rfl dX11_list_9 ?_
  refine a_iload_n 3 13 rfl dX11_list_12 rfl rfl ?_
  refine a_iconst (x := (-1)) 14 rfl dX11_list_13 (by decide) ?_
  refine a_icmp_lt 22 17 rfl dX11_list_14 (by decide) (fun hc => absurd hc ((by decide))) (fun _ => ?_)
  refine a_iload_n 3 18 rfl dX11_list_17 rfl rfl ?_
  refine a_iconst (x := 2) 19 rfl dX11_list_18 (by decide) ?_
  refine a_icmp_lt 24 22 rfl dX11_list_19 (by decide) (fun _ => ?_) (fun hc => absurd ((by decide)) hc)
  refine a_iload_n 3 25 rfl dX11_list_24 rfl rfl ?_
  refine a_iconst (x := (-1)) 26 rfl dX11_list_25 (by decide) ?_
  refine a_icmp_ne 36 29 rfl dX11_list_26 (by decide) (fun hc => absurd (rfl) hc) (fun _ => ?_)
  refine a_aload 0 31 rfl dX11_list_29 rfl ?_
  refine a_callVN (as := []) (rest := []) (st2 := []) (u1 := 0) (v1 := 0) (u2 := 0) (v2 := 0) (r_X8_remove rfl) (⟨_, _, _, _, rfl, rfl⟩) oX8_remove q_982 q_984 q_66 rfl (by omega) (by decide) rfl (Nat.le_of_ble_eq_true rfl) 34 rfl dX11_list_31 rfl ?_
  refine a_eq (h2 := g_hp G (f_un (f_ui C 11 0) 17 0) tl) rfl rfl rfl (rfl) ?_
  refine a_iconst (x := 1) 35 rfl dX11_list_34 (by decide) ?_
  exact a_ireturn .int rfl rfl (rfl) (rfl) dX11_list_35
theorem r_X11_list2_much (hq : f_qs G C) (h1 : ¬ y2 < -1) (h2 : y2 < 2) (h3 : ¬ y2 = -1) (h4 : ¬ y3 ≤ 20) : g_Run G mX11_list 2 0 0 [.ref (g_ad G 0), .int 2, .int y2, .int y3] (g_hp G C tl) (some (.int (-1))) (g_hp G C tl) := by
  refine g_Run.of (lv := [(0, .ref (g_ad G 0)), (1, .int 2), (2, .int y2), (3, .int y3)]) (by decide) (Nat.le_of_ble_eq_true rfl) rfl ?_
  refine a_aload_n 0 1 rfl dX11_list_0 rfl rfl ?_
  refine a_iload_n 1 2 rfl dX11_list_1 rfl rfl ?_
  refine a_callV (as := [.int 2]) (rest := []) (st2 := [.ref (g_ad G 36)]) (u1 := 0) (v1 := 0) (u2 := 0) (v2 := 0) (r_listAt2 hq) (⟨_, _, _, _, rfl, rfl⟩) oX11_listAt q_833 q_835 q_43 rfl (by omega) (by decide) rfl (Nat.le_of_ble_eq_true rfl) 5 rfl dX11_list_2 rfl ?_
  refine a_astore (lv' := [(4, .ref (g_ad G 36)), (0, .ref (g_ad G 0)), (1, .int 2), (2, .int y2), (3, .int y3)]) 7 rfl dX11_list_5 (by decide) rfl ?_
  refine a_aload 0 9 rfl dX11_list_7 rfl ?_
  refine a_ifnull 12 rfl dX11_list_9 ?_
  refine a_iload_n 3 13 rfl dX11_list_12 rfl rfl ?_
  refine a_iconst (x := (-1)) 14 rfl dX11_list_13 (by decide) ?_
  refine a_icmp_lt 22 17 rfl dX11_list_14 (by decide) (fun hc => absurd hc (h1)) (fun _ => ?_)
  refine a_iload_n 3 18 rfl dX11_list_17 rfl rfl ?_
  refine a_iconst (x := 2) 19 rfl dX11_list_18 (by decide) ?_
  refine a_icmp_lt 24 22 rfl dX11_list_19 (by decide) (fun _ => ?_) (fun hc => absurd (h2) hc)
  refine a_iload_n 3 25 rfl dX11_list_24 rfl rfl ?_
  refine a_iconst (x := (-1)) 26 rfl dX11_list_25 (by decide) ?_
  refine a_icmp_ne 36 29 rfl dX11_list_26 (by decide) (fun _ => ?_) (fun hc => absurd hc (h3))
  refine a_iload_n 4 37 rfl dX11_list_36 rfl rfl ?_
  refine a_bipush (x := 20) 39 rfl dX11_list_37 (by decide) ?_
  refine a_icmp_le 44 42 rfl dX11_list_39 (by decide) (fun hc => absurd hc (h4)) (fun _ => ?_)
  refine a_iconst (x := (-1)) 43 rfl dX11_list_42 (by decide) ?_
  exact a_ireturn .int rfl rfl (rfl) (rfl) dX11_list_43
theorem r_X11_list2_few (hq : f_qs G C) (h1 : ¬ y2 < -1) (h2 : y2 < 2) (h3 : ¬ y2 = -1) (h4 : y3 ≤ 20) (h5 : ¬ 0 ≤ y3) : g_Run G mX11_list 2 0 0 [.ref (g_ad G 0), .int 2, .int y2, .int y3] (g_hp G C tl) (some (.int (-14))) (g_hp G C tl) := by
  refine g_Run.of (lv := [(0, .ref (g_ad G 0)), (1, .int 2), (2, .int y2), (3, .int y3)]) (by decide) (Nat.le_of_ble_eq_true rfl) rfl ?_
  refine a_aload_n 0 1 rfl dX11_list_0 rfl rfl ?_
  refine a_iload_n 1 2 rfl dX11_list_1 rfl rfl ?_
  refine a_callV (as := [.int 2]) (rest := []) (st2 := [.ref (g_ad G 36)]) (u1 := 0) (v1 := 0) (u2 := 0) (v2 := 0) (r_listAt2 hq) (⟨_, _, _, _, rfl, rfl⟩) oX11_listAt q_833 q_835 q_43 rfl (by omega) (by decide) rfl (Nat.le_of_ble_eq_true rfl) 5 rfl dX11_list_2 rfl ?_
  refine a_astore (lv' := [(4, .ref (g_ad G 36)), (0, .ref (g_ad G 0)), (1, .int 2), (2, .int y2), (3, .int y3)]) 7 rfl dX11_list_5 (by decide) rfl ?_
  refine a_aload 0 9 rfl dX11_list_7 rfl ?_
  refine a_ifnull 12 rfl dX11_list_9 ?_
  refine a_iload_n 3 13 rfl dX11_list_12 rfl rfl ?_
  refine a_iconst (x := (-1)) 14 rfl dX11_list_13 (by decide) ?_
  refine a_icmp_lt 22 17 rfl dX11_list_14 (by decide) (fun hc => absurd hc (h1)) (fun _ => ?_)
  refine a_iload_n 3 18 rfl dX11_list_17 rfl rfl ?_
  refine a_iconst (x := 2) 19 rfl dX11_list_18 (by decide) ?_
  refine a_icmp_lt 24 22 rfl dX11_list_19 (by decide) (fun _ => ?_) (fun hc => absurd (h2) hc)
  refine a_iload_n 3 25 rfl dX11_list_24 rfl rfl ?_
  refine a_iconst (x := (-1)) 26 rfl dX11_list_25 (by decide) ?_
  refine a_icmp_ne 36 29 rfl dX11_list_26 (by decide) (fun _ => ?_) (fun hc => absurd hc (h3))
  refine a_iload_n 4 37 rfl dX11_list_36 rfl rfl ?_
  refine a_bipush (x := 20) 39 rfl dX11_list_37 (by decide) ?_
  refine a_icmp_le 44 42 rfl dX11_list_39 (by decide) (fun _ => ?_) (fun hc => absurd (h4) hc)
  refine a_iload_n 4 45 rfl dX11_list_44 rfl rfl ?_
  refine a_if_ge 51 48 rfl dX11_list_45 (by decide) (fun hc => absurd hc (h5)) (fun _ => ?_)
  refine a_bipush (x := (-14)) 50 rfl dX11_list_48 (by decide) ?_
  exact a_ireturn .int rfl rfl (rfl) (rfl) dX11_list_50
theorem r_X11_list2 {n9 : Nat} (hq : f_qs G C) (h1 : ¬ y2 < -1) (h2 : y2 < 2) (h3 : ¬ y2 = -1) (h4 : n9 ≤ 20) : ∃ f2 : Nat → Int64, (∀ j, j < 20 → f2 j = 0) ∧ g_Run G mX11_list 2 0 0 [.ref (g_ad G 0), .int 2, .int y2, .int (nI n9)] (g_hp G C tl) (some (.int 1)) (g_hp G (f_uL (f_un (f_ui (f_ui C 11 1) 14 y2) 17 n9) 2 f2) tl) := by
  obtain ⟨f2, hz, w⟩ := r_X8_lay (G := G) (h := g_hp G C tl) (a := 36) (so2 := y2) (mn2 := nI n9) rfl rfl (by decide)
  refine ⟨f2, hz, ?_⟩
  refine g_Run.of (lv := [(0, .ref (g_ad G 0)), (1, .int 2), (2, .int y2), (3, .int (nI n9))]) (by decide) (Nat.le_of_ble_eq_true rfl) rfl ?_
  refine a_aload_n 0 1 rfl dX11_list_0 rfl rfl ?_
  refine a_iload_n 1 2 rfl dX11_list_1 rfl rfl ?_
  refine a_callV (as := [.int 2]) (rest := []) (st2 := [.ref (g_ad G 36)]) (u1 := 0) (v1 := 0) (u2 := 0) (v2 := 0) (r_listAt2 hq) (⟨_, _, _, _, rfl, rfl⟩) oX11_listAt q_833 q_835 q_43 rfl (by omega) (by decide) rfl (Nat.le_of_ble_eq_true rfl) 5 rfl dX11_list_2 rfl ?_
  refine a_astore (lv' := [(4, .ref (g_ad G 36)), (0, .ref (g_ad G 0)), (1, .int 2), (2, .int y2), (3, .int (nI n9))]) 7 rfl dX11_list_5 (by decide) rfl ?_
  refine a_aload 0 9 rfl dX11_list_7 rfl ?_
  refine a_ifnull 12 rfl dX11_list_9 ?_
  refine a_iload_n 3 13 rfl dX11_list_12 rfl rfl ?_
  refine a_iconst (x := (-1)) 14 rfl dX11_list_13 (by decide) ?_
  refine a_icmp_lt 22 17 rfl dX11_list_14 (by decide) (fun hc => absurd hc (h1)) (fun _ => ?_)
  refine a_iload_n 3 18 rfl dX11_list_17 rfl rfl ?_
  refine a_iconst (x := 2) 19 rfl dX11_list_18 (by decide) ?_
  refine a_icmp_lt 24 22 rfl dX11_list_19 (by decide) (fun _ => ?_) (fun hc => absurd (h2) hc)
  refine a_iload_n 3 25 rfl dX11_list_24 rfl rfl ?_
  refine a_iconst (x := (-1)) 26 rfl dX11_list_25 (by decide) ?_
  refine a_icmp_ne 36 29 rfl dX11_list_26 (by decide) (fun _ => ?_) (fun hc => absurd hc (h3))
  refine a_iload_n 4 37 rfl dX11_list_36 rfl rfl ?_
  refine a_bipush (x := 20) 39 rfl dX11_list_37 (by decide) ?_
  refine a_icmp_le 44 42 rfl dX11_list_39 (by decide) (fun _ => ?_) (fun hc => absurd ((nI_le (b := 20) h4 (by omega))) hc)
  refine a_iload_n 4 45 rfl dX11_list_44 rfl rfl ?_
  refine a_if_ge 51 48 rfl dX11_list_45 (by decide) (fun _ => ?_) (fun hc => absurd (nI_pos' (by omega)) hc)
  refine a_aload 0 53 rfl dX11_list_51 rfl ?_
  refine a_iload_n 3 54 rfl dX11_list_53 rfl rfl ?_
  refine a_iload_n 4 55 rfl dX11_list_54 rfl rfl ?_
  refine a_callVN (as := [.int y2, .int (nI n9)]) (rest := []) (st2 := []) (u1 := 0) (v1 := 0) (u2 := 0) (v2 := 0) (w) (⟨_, _, _, _, rfl, rfl⟩) oX8_lay q_986 q_988 q_67 rfl (by omega) (by decide) rfl (Nat.le_of_ble_eq_true rfl) 58 rfl dX11_list_55 rfl ?_
  refine a_eq (h2 := g_hp G (f_uL (f_un (f_ui (f_ui C 11 1) 14 y2) 17 n9) 2 f2) tl) rfl rfl rfl (rfl) ?_
  refine a_iconst (x := 1) 59 rfl dX11_list_58 (by decide) ?_
  exact a_ireturn .int rfl rfl (rfl) (rfl) dX11_list_59
theorem r_X11_put2_miss (hq : f_qs G C) (ht : C.2.1 11 = 0) : g_Run G mX11_put 2 0 0 [.ref (g_ad G 0), .int 2, .int y2, .long x] (g_hp G C tl) (some (.int (-11))) (g_hp G C tl) := by
  refine g_Run.of (lv := [(0, .ref (g_ad G 0)), (1, .int 2), (2, .int y2), (3, .long x)]) (by decide) (Nat.le_of_ble_eq_true rfl) rfl ?_
  refine a_aload_n 0 1 rfl dX11_put_0 rfl rfl ?_
  refine a_iload_n 1 2 rfl dX11_put_1 rfl rfl ?_
  refine a_callV (as := [.int 2]) (rest := []) (st2 := [.ref (g_ad G 36)]) (u1 := 0) (v1 := 0) (u2 := 0) (v2 := 0) (r_listAt2 hq) (⟨_, _, _, _, rfl, rfl⟩) oX11_listAt q_833 q_835 q_43 rfl (by omega) (by decide) rfl (Nat.le_of_ble_eq_true rfl) 5 rfl dX11_put_2 rfl ?_
  refine a_astore (lv' := [(5, .ref (g_ad G 36)), (0, .ref (g_ad G 0)), (1, .int 2), (2, .int y2), (3, .long x)]) 7 rfl dX11_put_5 (by decide) rfl ?_
  refine a_aload 0 9 rfl dX11_put_7 rfl ?_
  refine a_ifnonnull 14 dX11_put_9 (by decide) ?_
  refine a_aload 0 16 rfl dX11_put_14 rfl ?_
  refine a_callVN (as := []) (rest := []) (st2 := [.int (if C.2.1 11 = 0 then 1 else 0)]) (u1 := 0) (v1 := 0) (u2 := 0) (v2 := 0) (r_X8_isMissing rfl) (⟨_, _, _, _, rfl, rfl⟩) oX8_isMissing q_837 q_839 q_44 rfl (by omega) (by decide) rfl (Nat.le_of_ble_eq_true rfl) 19 rfl dX11_put_16 rfl ?_
  refine a_if_eq 25 22 rfl dX11_put_19 (by decide) (fun hc => absurd hc ((by rw [if_pos ht]; decide))) (fun _ => ?_)
  refine a_bipush (x := (-11)) 24 rfl dX11_put_22 (by decide) ?_
  exact a_ireturn .int rfl rfl (rfl) (rfl) dX11_put_24
theorem r_X11_put2_out (hq : f_qs G C) (ht : ¬ C.2.1 11 = 0) (hn : C.1 17 ≤ 20) (hi : ¬ vp_in y2 (C.1 17)) : g_Run G mX11_put 2 0 0 [.ref (g_ad G 0), .int 2, .int y2, .long x] (g_hp G C tl) (some (.int (-13))) (g_hp G C tl) := by
  refine g_Run.of (lv := [(0, .ref (g_ad G 0)), (1, .int 2), (2, .int y2), (3, .long x)]) (by decide) (Nat.le_of_ble_eq_true rfl) rfl ?_
  refine a_aload_n 0 1 rfl dX11_put_0 rfl rfl ?_
  refine a_iload_n 1 2 rfl dX11_put_1 rfl rfl ?_
  refine a_callV (as := [.int 2]) (rest := []) (st2 := [.ref (g_ad G 36)]) (u1 := 0) (v1 := 0) (u2 := 0) (v2 := 0) (r_listAt2 hq) (⟨_, _, _, _, rfl, rfl⟩) oX11_listAt q_833 q_835 q_43 rfl (by omega) (by decide) rfl (Nat.le_of_ble_eq_true rfl) 5 rfl dX11_put_2 rfl ?_
  refine a_astore (lv' := [(5, .ref (g_ad G 36)), (0, .ref (g_ad G 0)), (1, .int 2), (2, .int y2), (3, .long x)]) 7 rfl dX11_put_5 (by decide) rfl ?_
  refine a_aload 0 9 rfl dX11_put_7 rfl ?_
  refine a_ifnonnull 14 dX11_put_9 (by decide) ?_
  refine a_aload 0 16 rfl dX11_put_14 rfl ?_
  refine a_callVN (as := []) (rest := []) (st2 := [.int (if C.2.1 11 = 0 then 1 else 0)]) (u1 := 0) (v1 := 0) (u2 := 0) (v2 := 0) (r_X8_isMissing rfl) (⟨_, _, _, _, rfl, rfl⟩) oX8_isMissing q_837 q_839 q_44 rfl (by omega) (by decide) rfl (Nat.le_of_ble_eq_true rfl) 19 rfl dX11_put_16 rfl ?_
  refine a_if_eq 25 22 rfl dX11_put_19 (by decide) (fun _ => ?_) (fun hc => absurd ((by rw [if_neg ht])) hc)
  refine a_aload 0 27 rfl dX11_put_25 rfl ?_
  refine a_iload_n 3 28 rfl dX11_put_27 rfl rfl ?_
  refine a_lload_n 4 29 rfl dX11_put_28 rfl rfl ?_
  refine a_callVN (as := [.int y2, .long x]) (rest := []) (st2 := [.int 0]) (u1 := 0) (v1 := 0) (u2 := 0) (v2 := 0) (r_X8_place_out rfl hn hi) (⟨_, _, _, _, rfl, rfl⟩) oX8_place q_994 q_996 q_68 rfl (by omega) (by decide) rfl (Nat.le_of_ble_eq_true rfl) 32 rfl dX11_put_29 rfl ?_
  refine a_if_eq 39 35 rfl dX11_put_32 (by decide) (fun _ => ?_) (fun hc => absurd (rfl) hc)
  refine a_bipush (x := (-13)) 41 rfl dX11_put_39 (by decide) ?_
  exact a_ireturn .int rfl rfl (rfl) (rfl) dX11_put_41
theorem r_X11_put2 (hq : f_qs G C) (ht : ¬ C.2.1 11 = 0) (hn : C.1 17 ≤ 20) (hj : j < C.1 17) : g_Run G mX11_put 2 0 0 [.ref (g_ad G 0), .int 2, .int (nI j), .long x] (g_hp G C tl) (some (.int 1)) (g_hp G (f_uL C 2 (vp_updL (C.2.2.2.2.1 2) j (if C.2.1 14 = 0 then x.toInt32.toInt64 else x))) tl) := by
  refine g_Run.of (lv := [(0, .ref (g_ad G 0)), (1, .int 2), (2, .int (nI j)), (3, .long x)]) (by decide) (Nat.le_of_ble_eq_true rfl) rfl ?_
  refine a_aload_n 0 1 rfl dX11_put_0 rfl rfl ?_
  refine a_iload_n 1 2 rfl dX11_put_1 rfl rfl ?_
  refine a_callV (as := [.int 2]) (rest := []) (st2 := [.ref (g_ad G 36)]) (u1 := 0) (v1 := 0) (u2 := 0) (v2 := 0) (r_listAt2 hq) (⟨_, _, _, _, rfl, rfl⟩) oX11_listAt q_833 q_835 q_43 rfl (by omega) (by decide) rfl (Nat.le_of_ble_eq_true rfl) 5 rfl dX11_put_2 rfl ?_
  refine a_astore (lv' := [(5, .ref (g_ad G 36)), (0, .ref (g_ad G 0)), (1, .int 2), (2, .int (nI j)), (3, .long x)]) 7 rfl dX11_put_5 (by decide) rfl ?_
  refine a_aload 0 9 rfl dX11_put_7 rfl ?_
  refine a_ifnonnull 14 dX11_put_9 (by decide) ?_
  refine a_aload 0 16 rfl dX11_put_14 rfl ?_
  refine a_callVN (as := []) (rest := []) (st2 := [.int (if C.2.1 11 = 0 then 1 else 0)]) (u1 := 0) (v1 := 0) (u2 := 0) (v2 := 0) (r_X8_isMissing rfl) (⟨_, _, _, _, rfl, rfl⟩) oX8_isMissing q_837 q_839 q_44 rfl (by omega) (by decide) rfl (Nat.le_of_ble_eq_true rfl) 19 rfl dX11_put_16 rfl ?_
  refine a_if_eq 25 22 rfl dX11_put_19 (by decide) (fun _ => ?_) (fun hc => absurd ((by rw [if_neg ht])) hc)
  refine a_aload 0 27 rfl dX11_put_25 rfl ?_
  refine a_iload_n 3 28 rfl dX11_put_27 rfl rfl ?_
  refine a_lload_n 4 29 rfl dX11_put_28 rfl rfl ?_
  refine a_callVN (as := [.int (nI j), .long x]) (rest := []) (st2 := [.int 1]) (u1 := 0) (v1 := 0) (u2 := 0) (v2 := 0) (r_X8_place_in rfl rfl hn hj) (⟨_, _, _, _, rfl, rfl⟩) oX8_place q_994 q_996 q_68 rfl (by omega) (by decide) rfl (Nat.le_of_ble_eq_true rfl) 32 rfl dX11_put_29 rfl ?_
  refine a_if_eq 39 35 rfl dX11_put_32 (by decide) (fun hc => absurd hc ((by decide))) (fun _ => ?_)
  refine a_iconst (x := 1) 36 rfl dX11_put_35 (by decide) ?_
  refine a_goto 41 dX11_put_36 (by decide) ?_
  refine a_eq (h2 := g_hp G (f_uL C 2 (vp_updL (C.2.2.2.2.1 2) j (if C.2.1 14 = 0 then x.toInt32.toInt64 else x))) tl) rfl rfl rfl (rfl) ?_
  exact a_ireturn .int rfl rfl (rfl) (rfl) dX11_put_41
theorem r_X11_get2_out (hq : f_qs G C) (hn : C.1 17 ≤ 20) (hi : ¬ vp_in y2 (C.1 17)) : g_Run G mX11_get 2 0 0 [.ref (g_ad G 0), .int 2, .int y2] (g_hp G C tl) (some (.long (-9223372036854775808))) (g_hp G C tl) := by
  refine g_Run.of (lv := [(0, .ref (g_ad G 0)), (1, .int 2), (2, .int y2)]) (by decide) (Nat.le_of_ble_eq_true rfl) rfl ?_
  refine a_aload_n 0 1 rfl dX11_get_0 rfl rfl ?_
  refine a_iload_n 1 2 rfl dX11_get_1 rfl rfl ?_
  refine a_callV (as := [.int 2]) (rest := []) (st2 := [.ref (g_ad G 36)]) (u1 := 0) (v1 := 0) (u2 := 0) (v2 := 0) (r_listAt2 hq) (⟨_, _, _, _, rfl, rfl⟩) oX11_listAt q_833 q_835 q_43 rfl (by omega) (by decide) rfl (Nat.le_of_ble_eq_true rfl) 5 rfl dX11_get_2 rfl ?_
  refine a_astore_n (lv' := [(3, .ref (g_ad G 36)), (0, .ref (g_ad G 0)), (1, .int 2), (2, .int y2)]) 6 rfl dX11_get_5 rfl (by decide) rfl ?_
  refine a_aload_n 0 7 rfl dX11_get_6 rfl rfl ?_
  refine a_ifnull 10 rfl dX11_get_7 ?_
  refine a_aload_n 0 11 rfl dX11_get_10 rfl rfl ?_
  refine a_iload_n 3 12 rfl dX11_get_11 rfl rfl ?_
  refine a_callVN (as := [.int y2]) (rest := []) (st2 := [.int 0]) (u1 := 0) (v1 := 0) (u2 := 0) (v2 := 0) (r_X8_hasPlace_out rfl hn hi) (⟨_, _, _, _, rfl, rfl⟩) oX8_hasPlace q_841 q_843 q_45 rfl (by omega) (by decide) rfl (Nat.le_of_ble_eq_true rfl) 15 rfl dX11_get_12 rfl ?_
  refine a_if_ne 24 18 rfl dX11_get_15 (by decide) (fun hc => absurd (rfl) hc) (fun _ => ?_)
  refine a_ldc2 q_466 21 rfl dX11_get_18 ?_
  refine a_goto 29 dX11_get_21 (by decide) ?_
  exact a_lreturn rfl (rfl) (rfl) dX11_get_29
theorem r_X11_get2 (hq : f_qs G C) (hn : C.1 17 ≤ 20) (hj : j < C.1 17) : g_Run G mX11_get 2 0 0 [.ref (g_ad G 0), .int 2, .int (nI j)] (g_hp G C tl) (some (.long (C.2.2.2.2.1 2 j))) (g_hp G C tl) := by
  refine g_Run.of (lv := [(0, .ref (g_ad G 0)), (1, .int 2), (2, .int (nI j))]) (by decide) (Nat.le_of_ble_eq_true rfl) rfl ?_
  refine a_aload_n 0 1 rfl dX11_get_0 rfl rfl ?_
  refine a_iload_n 1 2 rfl dX11_get_1 rfl rfl ?_
  refine a_callV (as := [.int 2]) (rest := []) (st2 := [.ref (g_ad G 36)]) (u1 := 0) (v1 := 0) (u2 := 0) (v2 := 0) (r_listAt2 hq) (⟨_, _, _, _, rfl, rfl⟩) oX11_listAt q_833 q_835 q_43 rfl (by omega) (by decide) rfl (Nat.le_of_ble_eq_true rfl) 5 rfl dX11_get_2 rfl ?_
  refine a_astore_n (lv' := [(3, .ref (g_ad G 36)), (0, .ref (g_ad G 0)), (1, .int 2), (2, .int (nI j))]) 6 rfl dX11_get_5 rfl (by decide) rfl ?_
  refine a_aload_n 0 7 rfl dX11_get_6 rfl rfl ?_
  refine a_ifnull 10 rfl dX11_get_7 ?_
  refine a_aload_n 0 11 rfl dX11_get_10 rfl rfl ?_
  refine a_iload_n 3 12 rfl dX11_get_11 rfl rfl ?_
  refine a_callVN (as := [.int (nI j)]) (rest := []) (st2 := [.int 1]) (u1 := 0) (v1 := 0) (u2 := 0) (v2 := 0) (r_X8_hasPlace_in rfl rfl hn hj) (⟨_, _, _, _, rfl, rfl⟩) oX8_hasPlace q_841 q_843 q_45 rfl (by omega) (by decide) rfl (Nat.le_of_ble_eq_true rfl) 15 rfl dX11_get_12 rfl ?_
  refine a_if_ne 24 18 rfl dX11_get_15 (by decide) (fun _ => ?_) (fun hc => absurd hc ((by decide)))
  refine a_aload_n 0 25 rfl dX11_get_24 rfl rfl ?_
  refine a_iload_n 3 26 rfl dX11_get_25 rfl rfl ?_
  refine a_callVN (as := [.int (nI j)]) (rest := []) (st2 := [.long (C.2.2.2.2.1 2 j)]) (u1 := 0) (v1 := 0) (u2 := 0) (v2 := 0) (r_X8_at_in rfl rfl hn hj) (⟨_, _, _, _, rfl, rfl⟩) oX8_at q_845 q_847 q_46 rfl (by omega) (by decide) rfl (Nat.le_of_ble_eq_true rfl) 29 rfl dX11_get_26 rfl ?_
  exact a_lreturn rfl (rfl) (rfl) dX11_get_29

/-- how many of three are there -/
def f_th (a b c : Int32) : Int32 := (if a = 0 then 0 else 1) + (if b = 0 then 0 else 1) + (if c = 0 then 0 else 1)
theorem r_shelvesThere (hq : f_qs G C) : g_Run G mX11_shelvesThere 2 0 0 [.ref (g_ad G 0)] (g_hp G C tl) (some (.int (f_th (C.2.1 3) (C.2.1 4) (C.2.1 5)))) (g_hp G C tl) := by
  have s3 : ∀ z r : Int32, z = r → g_A G mX11_shelvesThere 2 0 0 13 [(4, .int 3), (3, .int 3), (2, .ref (g_ad G 21)), (1, .int z)] [] (g_hp G C tl) (some (.int r)) (g_hp G C tl) := by
    intro z r e
    refine a_iload 0 15 rfl dX11_shelvesThere_13 rfl ?_
    refine a_iload_n 1 16 rfl dX11_shelvesThere_15 rfl rfl ?_
    refine a_icmp_ge 47 19 rfl dX11_shelvesThere_16 (by decide) (fun _ => ?_) (fun hc => absurd ((by decide)) hc)
    refine a_iload_n 3 48 rfl dX11_shelvesThere_47 rfl rfl ?_
    exact a_ireturn .int rfl rfl ((by rw [e])) (rfl) dX11_shelvesThere_48
  have s2 : ∀ z r : Int32, z + (if C.2.1 5 = 0 then 0 else 1) = r → g_A G mX11_shelvesThere 2 0 0 13 [(4, .int 2), (3, .int 3), (2, .ref (g_ad G 21)), (1, .int z)] [] (g_hp G C tl) (some (.int r)) (g_hp G C tl) := by
    intro z r e
    refine a_iload 0 15 rfl dX11_shelvesThere_13 rfl ?_
    refine a_iload_n 1 16 rfl dX11_shelvesThere_15 rfl rfl ?_
    refine a_icmp_ge 47 19 rfl dX11_shelvesThere_16 (by decide) (fun hc => absurd hc ((by decide))) (fun _ => ?_)
    refine a_aload_n 2 20 rfl dX11_shelvesThere_19 rfl rfl ?_
    refine a_iload 0 22 rfl dX11_shelvesThere_20 rfl ?_
    refine a_ald4 (rfl) ((show vp_in (nI 2) 3 from vp_in_nI (by decide) (by decide))) 23 rfl dX11_shelvesThere_22 ?_
    refine a_eq (st2 := [.ref (g_ad G 29)]) rfl rfl (by show [va_rf (C.2.2.2.2.2 4 2)] = _; rw [hq.1.2.2]; rfl) rfl ?_
    refine a_astore (lv' := [(5, .ref (g_ad G 29)), (4, .int 2), (3, .int 3), (2, .ref (g_ad G 21)), (1, .int z)]) 25 rfl dX11_shelvesThere_23 (by decide) rfl ?_
    refine a_aload 0 27 rfl dX11_shelvesThere_25 rfl ?_
    refine a_ifnull 30 rfl dX11_shelvesThere_27 ?_
    refine a_aload 0 32 rfl dX11_shelvesThere_30 rfl ?_
    refine a_callVN (as := []) (rest := []) (st2 := [.int (if C.2.1 5 = 0 then 1 else 0)]) (u1 := 0) (v1 := 0) (u2 := 0) (v2 := 0) (r_X9_isMissing rfl) (⟨_, _, _, _, rfl, rfl⟩) oX9_isMissing q_924 q_926 q_57 rfl (by omega) (by decide) rfl (Nat.le_of_ble_eq_true rfl) 35 rfl dX11_shelvesThere_32 rfl ?_
    by_cases e9 : C.2.1 5 = 0
    · skip
      refine a_if_ne 41 38 rfl dX11_shelvesThere_35 (by decide) (fun _ => ?_) (fun hc => absurd hc ((by rw [if_pos e9]; decide)))
      refine a_iinc (y := 3) (lv' := [(4, .int 3), (5, .ref (g_ad G 29)), (3, .int 3), (2, .ref (g_ad G 21)), (1, .int z)]) 1 44 rfl dX11_shelvesThere_41 rfl (rfl) (by decide) rfl ?_
      refine a_goto 13 dX11_shelvesThere_44 (by decide) ?_
      refine a_sub (lv' := [(4, .int 3), (3, .int 3), (2, .ref (g_ad G 21)), (1, .int z)]) [0, 2, 3, 4] rfl ?_
      exact s3 _ _ (by rw [← e, if_pos e9, Int32.add_zero])
    · skip
      refine a_if_ne 41 38 rfl dX11_shelvesThere_35 (by decide) (fun hc => absurd ((by rw [if_neg e9])) hc) (fun _ => ?_)
      refine a_iinc (y := z + 1) (lv' := [(1, .int (z + 1)), (5, .ref (g_ad G 29)), (4, .int 2), (3, .int 3), (2, .ref (g_ad G 21))]) 4 41 rfl dX11_shelvesThere_38 rfl (rfl) (by decide) rfl ?_
      refine a_iinc (y := 3) (lv' := [(4, .int 3), (1, .int (z + 1)), (5, .ref (g_ad G 29)), (3, .int 3), (2, .ref (g_ad G 21))]) 2 44 rfl dX11_shelvesThere_41 rfl (rfl) (by decide) rfl ?_
      refine a_goto 13 dX11_shelvesThere_44 (by decide) ?_
      refine a_sub (lv' := [(4, .int 3), (3, .int 3), (2, .ref (g_ad G 21)), (1, .int (z + 1))]) [0, 3, 4, 1] rfl ?_
      exact s3 _ _ (by rw [← e, if_neg e9])
  have s1 : ∀ z r : Int32, z + (if C.2.1 4 = 0 then 0 else 1) + (if C.2.1 5 = 0 then 0 else 1) = r → g_A G mX11_shelvesThere 2 0 0 13 [(4, .int 1), (3, .int 3), (2, .ref (g_ad G 21)), (1, .int z)] [] (g_hp G C tl) (some (.int r)) (g_hp G C tl) := by
    intro z r e
    refine a_iload 0 15 rfl dX11_shelvesThere_13 rfl ?_
    refine a_iload_n 1 16 rfl dX11_shelvesThere_15 rfl rfl ?_
    refine a_icmp_ge 47 19 rfl dX11_shelvesThere_16 (by decide) (fun hc => absurd hc ((by decide))) (fun _ => ?_)
    refine a_aload_n 2 20 rfl dX11_shelvesThere_19 rfl rfl ?_
    refine a_iload 0 22 rfl dX11_shelvesThere_20 rfl ?_
    refine a_ald4 (rfl) ((show vp_in (nI 1) 3 from vp_in_nI (by decide) (by decide))) 23 rfl dX11_shelvesThere_22 ?_
    refine a_eq (st2 := [.ref (g_ad G 26)]) rfl rfl (by show [va_rf (C.2.2.2.2.2 4 1)] = _; rw [hq.1.2.1]; rfl) rfl ?_
    refine a_astore (lv' := [(5, .ref (g_ad G 26)), (4, .int 1), (3, .int 3), (2, .ref (g_ad G 21)), (1, .int z)]) 25 rfl dX11_shelvesThere_23 (by decide) rfl ?_
    refine a_aload 0 27 rfl dX11_shelvesThere_25 rfl ?_
    refine a_ifnull 30 rfl dX11_shelvesThere_27 ?_
    refine a_aload 0 32 rfl dX11_shelvesThere_30 rfl ?_
    refine a_callVN (as := []) (rest := []) (st2 := [.int (if C.2.1 4 = 0 then 1 else 0)]) (u1 := 0) (v1 := 0) (u2 := 0) (v2 := 0) (r_X9_isMissing rfl) (⟨_, _, _, _, rfl, rfl⟩) oX9_isMissing q_924 q_926 q_57 rfl (by omega) (by decide) rfl (Nat.le_of_ble_eq_true rfl) 35 rfl dX11_shelvesThere_32 rfl ?_
    by_cases e9 : C.2.1 4 = 0
    · skip
      refine a_if_ne 41 38 rfl dX11_shelvesThere_35 (by decide) (fun _ => ?_) (fun hc => absurd hc ((by rw [if_pos e9]; decide)))
      refine a_iinc (y := 2) (lv' := [(4, .int 2), (5, .ref (g_ad G 26)), (3, .int 3), (2, .ref (g_ad G 21)), (1, .int z)]) 1 44 rfl dX11_shelvesThere_41 rfl (rfl) (by decide) rfl ?_
      refine a_goto 13 dX11_shelvesThere_44 (by decide) ?_
      refine a_sub (lv' := [(4, .int 2), (3, .int 3), (2, .ref (g_ad G 21)), (1, .int z)]) [0, 2, 3, 4] rfl ?_
      exact s2 _ _ (by rw [← e, if_pos e9, Int32.add_zero])
    · skip
      refine a_if_ne 41 38 rfl dX11_shelvesThere_35 (by decide) (fun hc => absurd ((by rw [if_neg e9])) hc) (fun _ => ?_)
      refine a_iinc (y := z + 1) (lv' := [(1, .int (z + 1)), (5, .ref (g_ad G 26)), (4, .int 1), (3, .int 3), (2, .ref (g_ad G 21))]) 4 41 rfl dX11_shelvesThere_38 rfl (rfl) (by decide) rfl ?_
      refine a_iinc (y := 2) (lv' := [(4, .int 2), (1, .int (z + 1)), (5, .ref (g_ad G 26)), (3, .int 3), (2, .ref (g_ad G 21))]) 2 44 rfl dX11_shelvesThere_41 rfl (rfl) (by decide) rfl ?_
      refine a_goto 13 dX11_shelvesThere_44 (by decide) ?_
      refine a_sub (lv' := [(4, .int 2), (3, .int 3), (2, .ref (g_ad G 21)), (1, .int (z + 1))]) [0, 3, 4, 1] rfl ?_
      exact s2 _ _ (by rw [← e, if_neg e9])
  refine g_Run.of (lv := [(0, .ref (g_ad G 0))]) (by decide) (Nat.le_of_ble_eq_true rfl) rfl ?_
  refine a_iconst (x := 0) 1 rfl dX11_shelvesThere_0 (by decide) ?_
  refine a_istore_n (lv' := [(1, .int 0), (0, .ref (g_ad G 0))]) 2 rfl dX11_shelvesThere_1 rfl (by decide) rfl ?_
  refine a_aload_n 1 3 rfl dX11_shelvesThere_2 rfl rfl ?_
  refine a_get 10 cl_10 f_RX11_70_10 (by decide) (rfl) rfl 6 rfl dX11_shelvesThere_3 ?_
  refine a_astore_n (lv' := [(2, .ref (g_ad G 21)), (1, .int 0), (0, .ref (g_ad G 0))]) 7 rfl dX11_shelvesThere_6 rfl (by decide) rfl ?_
  refine a_aload_n 0 8 rfl dX11_shelvesThere_7 rfl rfl ?_
  refine a_alen (y := 3) 4 (rfl) rfl rfl 9 rfl dX11_shelvesThere_8 ?_
  refine a_istore_n (lv' := [(3, .int 3), (2, .ref (g_ad G 21)), (1, .int 0), (0, .ref (g_ad G 0))]) 10 rfl dX11_shelvesThere_9 rfl (by decide) rfl ?_
  refine a_iconst (x := 0) 11 rfl dX11_shelvesThere_10 (by decide) ?_
  refine a_istore (lv' := [(4, .int 0), (3, .int 3), (2, .ref (g_ad G 21)), (1, .int 0), (0, .ref (g_ad G 0))]) 13 rfl dX11_shelvesThere_11 (by decide) rfl ?_
  refine a_sub (lv' := [(4, .int 0), (3, .int 3), (2, .ref (g_ad G 21)), (1, .int 0)]) [0, 1, 2, 3] rfl ?_
  refine a_iload 0 15 rfl dX11_shelvesThere_13 rfl ?_
  refine a_iload_n 1 16 rfl dX11_shelvesThere_15 rfl rfl ?_
  refine a_icmp_ge 47 19 rfl dX11_shelvesThere_16 (by decide) (fun hc => absurd hc ((by decide))) (fun _ => ?_)
  refine a_aload_n 2 20 rfl dX11_shelvesThere_19 rfl rfl ?_
  refine a_iload 0 22 rfl dX11_shelvesThere_20 rfl ?_
  refine a_ald4 (rfl) ((show vp_in (nI 0) 3 from vp_in_nI (by decide) (by decide))) 23 rfl dX11_shelvesThere_22 ?_
  refine a_eq (st2 := [.ref (g_ad G 23)]) rfl rfl (by show [va_rf (C.2.2.2.2.2 4 0)] = _; rw [hq.1.1]; rfl) rfl ?_
  refine a_astore (lv' := [(5, .ref (g_ad G 23)), (4, .int 0), (3, .int 3), (2, .ref (g_ad G 21)), (1, .int 0)]) 25 rfl dX11_shelvesThere_23 (by decide) rfl ?_
  refine a_aload 0 27 rfl dX11_shelvesThere_25 rfl ?_
  refine a_ifnull 30 rfl dX11_shelvesThere_27 ?_
  refine a_aload 0 32 rfl dX11_shelvesThere_30 rfl ?_
  refine a_callVN (as := []) (rest := []) (st2 := [.int (if C.2.1 3 = 0 then 1 else 0)]) (u1 := 0) (v1 := 0) (u2 := 0) (v2 := 0) (r_X9_isMissing rfl) (⟨_, _, _, _, rfl, rfl⟩) oX9_isMissing q_924 q_926 q_57 rfl (by omega) (by decide) rfl (Nat.le_of_ble_eq_true rfl) 35 rfl dX11_shelvesThere_32 rfl ?_
  by_cases e9 : C.2.1 3 = 0
  · skip
    refine a_if_ne 41 38 rfl dX11_shelvesThere_35 (by decide) (fun _ => ?_) (fun hc => absurd hc ((by rw [if_pos e9]; decide)))
    refine a_iinc (y := 1) (lv' := [(4, .int 1), (5, .ref (g_ad G 23)), (3, .int 3), (2, .ref (g_ad G 21)), (1, .int 0)]) 1 44 rfl dX11_shelvesThere_41 rfl (rfl) (by decide) rfl ?_
    refine a_goto 13 dX11_shelvesThere_44 (by decide) ?_
    refine a_sub (lv' := [(4, .int 1), (3, .int 3), (2, .ref (g_ad G 21)), (1, .int 0)]) [0, 2, 3, 4] rfl ?_
    exact s1 _ _ (by rw [f_th, if_pos e9])
  · skip
    refine a_if_ne 41 38 rfl dX11_shelvesThere_35 (by decide) (fun hc => absurd ((by rw [if_neg e9])) hc) (fun _ => ?_)
    refine a_iinc (y := 1) (lv' := [(1, .int 1), (5, .ref (g_ad G 23)), (4, .int 0), (3, .int 3), (2, .ref (g_ad G 21))]) 4 41 rfl dX11_shelvesThere_38 rfl (rfl) (by decide) rfl ?_
    refine a_iinc (y := 1) (lv' := [(4, .int 1), (1, .int 1), (5, .ref (g_ad G 23)), (3, .int 3), (2, .ref (g_ad G 21))]) 2 44 rfl dX11_shelvesThere_41 rfl (rfl) (by decide) rfl ?_
    refine a_goto 13 dX11_shelvesThere_44 (by decide) ?_
    refine a_sub (lv' := [(4, .int 1), (3, .int 3), (2, .ref (g_ad G 21)), (1, .int 1)]) [0, 3, 4, 1] rfl ?_
    exact s1 _ _ (by rw [f_th, if_neg e9])

theorem r_listsThere (hq : f_qs G C) : g_Run G mX11_listsThere 2 0 0 [.ref (g_ad G 0)] (g_hp G C tl) (some (.int (f_th (C.2.1 9) (C.2.1 10) (C.2.1 11)))) (g_hp G C tl) := by
  have s3 : ∀ z r : Int32, z = r → g_A G mX11_listsThere 2 0 0 13 [(4, .int 3), (3, .int 3), (2, .ref (g_ad G 22)), (1, .int z)] [] (g_hp G C tl) (some (.int r)) (g_hp G C tl) := by
    intro z r e
    refine a_iload 0 15 rfl dX11_listsThere_13 rfl ?_
    refine a_iload_n 1 16 rfl dX11_listsThere_15 rfl rfl ?_
    refine a_icmp_ge 47 19 rfl dX11_listsThere_16 (by decide) (fun _ => ?_) (fun hc => absurd ((by decide)) hc)
    refine a_iload_n 3 48 rfl dX11_listsThere_47 rfl rfl ?_
    exact a_ireturn .int rfl rfl ((by rw [e])) (rfl) dX11_listsThere_48
  have s2 : ∀ z r : Int32, z + (if C.2.1 11 = 0 then 0 else 1) = r → g_A G mX11_listsThere 2 0 0 13 [(4, .int 2), (3, .int 3), (2, .ref (g_ad G 22)), (1, .int z)] [] (g_hp G C tl) (some (.int r)) (g_hp G C tl) := by
    intro z r e
    refine a_iload 0 15 rfl dX11_listsThere_13 rfl ?_
    refine a_iload_n 1 16 rfl dX11_listsThere_15 rfl rfl ?_
    refine a_icmp_ge 47 19 rfl dX11_listsThere_16 (by decide) (fun hc => absurd hc ((by decide))) (fun _ => ?_)
    refine a_aload_n 2 20 rfl dX11_listsThere_19 rfl rfl ?_
    refine a_iload 0 22 rfl dX11_listsThere_20 rfl ?_
    refine a_ald5 (rfl) ((show vp_in (nI 2) 3 from vp_in_nI (by decide) (by decide))) 23 rfl dX11_listsThere_22 ?_
    refine a_eq (st2 := [.ref (g_ad G 36)]) rfl rfl (by show [va_rf (C.2.2.2.2.2 5 2)] = _; rw [hq.2.2.2]; rfl) rfl ?_
    refine a_astore (lv' := [(5, .ref (g_ad G 36)), (4, .int 2), (3, .int 3), (2, .ref (g_ad G 22)), (1, .int z)]) 25 rfl dX11_listsThere_23 (by decide) rfl ?_
    refine a_aload 0 27 rfl dX11_listsThere_25 rfl ?_
    refine a_ifnull 30 rfl dX11_listsThere_27 ?_
    refine a_aload 0 32 rfl dX11_listsThere_30 rfl ?_
    refine a_callVN (as := []) (rest := []) (st2 := [.int (if C.2.1 11 = 0 then 1 else 0)]) (u1 := 0) (v1 := 0) (u2 := 0) (v2 := 0) (r_X8_isMissing rfl) (⟨_, _, _, _, rfl, rfl⟩) oX8_isMissing q_837 q_839 q_44 rfl (by omega) (by decide) rfl (Nat.le_of_ble_eq_true rfl) 35 rfl dX11_listsThere_32 rfl ?_
    by_cases e9 : C.2.1 11 = 0
    · skip
      refine a_if_ne 41 38 rfl dX11_listsThere_35 (by decide) (fun _ => ?_) (fun hc => absurd hc ((by rw [if_pos e9]; decide)))
      refine a_iinc (y := 3) (lv' := [(4, .int 3), (5, .ref (g_ad G 36)), (3, .int 3), (2, .ref (g_ad G 22)), (1, .int z)]) 1 44 rfl dX11_listsThere_41 rfl (rfl) (by decide) rfl ?_
      refine a_goto 13 dX11_listsThere_44 (by decide) ?_
      refine a_sub (lv' := [(4, .int 3), (3, .int 3), (2, .ref (g_ad G 22)), (1, .int z)]) [0, 2, 3, 4] rfl ?_
      exact s3 _ _ (by rw [← e, if_pos e9, Int32.add_zero])
    · skip
      refine a_if_ne 41 38 rfl dX11_listsThere_35 (by decide) (fun hc => absurd ((by rw [if_neg e9])) hc) (fun _ => ?_)
      refine a_iinc (y := z + 1) (lv' := [(1, .int (z + 1)), (5, .ref (g_ad G 36)), (4, .int 2), (3, .int 3), (2, .ref (g_ad G 22))]) 4 41 rfl dX11_listsThere_38 rfl (rfl) (by decide) rfl ?_
      refine a_iinc (y := 3) (lv' := [(4, .int 3), (1, .int (z + 1)), (5, .ref (g_ad G 36)), (3, .int 3), (2, .ref (g_ad G 22))]) 2 44 rfl dX11_listsThere_41 rfl (rfl) (by decide) rfl ?_
      refine a_goto 13 dX11_listsThere_44 (by decide) ?_
      refine a_sub (lv' := [(4, .int 3), (3, .int 3), (2, .ref (g_ad G 22)), (1, .int (z + 1))]) [0, 3, 4, 1] rfl ?_
      exact s3 _ _ (by rw [← e, if_neg e9])
  have s1 : ∀ z r : Int32, z + (if C.2.1 10 = 0 then 0 else 1) + (if C.2.1 11 = 0 then 0 else 1) = r → g_A G mX11_listsThere 2 0 0 13 [(4, .int 1), (3, .int 3), (2, .ref (g_ad G 22)), (1, .int z)] [] (g_hp G C tl) (some (.int r)) (g_hp G C tl) := by
    intro z r e
    refine a_iload 0 15 rfl dX11_listsThere_13 rfl ?_
    refine a_iload_n 1 16 rfl dX11_listsThere_15 rfl rfl ?_
    refine a_icmp_ge 47 19 rfl dX11_listsThere_16 (by decide) (fun hc => absurd hc ((by decide))) (fun _ => ?_)
    refine a_aload_n 2 20 rfl dX11_listsThere_19 rfl rfl ?_
    refine a_iload 0 22 rfl dX11_listsThere_20 rfl ?_
    refine a_ald5 (rfl) ((show vp_in (nI 1) 3 from vp_in_nI (by decide) (by decide))) 23 rfl dX11_listsThere_22 ?_
    refine a_eq (st2 := [.ref (g_ad G 34)]) rfl rfl (by show [va_rf (C.2.2.2.2.2 5 1)] = _; rw [hq.2.2.1]; rfl) rfl ?_
    refine a_astore (lv' := [(5, .ref (g_ad G 34)), (4, .int 1), (3, .int 3), (2, .ref (g_ad G 22)), (1, .int z)]) 25 rfl dX11_listsThere_23 (by decide) rfl ?_
    refine a_aload 0 27 rfl dX11_listsThere_25 rfl ?_
    refine a_ifnull 30 rfl dX11_listsThere_27 ?_
    refine a_aload 0 32 rfl dX11_listsThere_30 rfl ?_
    refine a_callVN (as := []) (rest := []) (st2 := [.int (if C.2.1 10 = 0 then 1 else 0)]) (u1 := 0) (v1 := 0) (u2 := 0) (v2 := 0) (r_X8_isMissing rfl) (⟨_, _, _, _, rfl, rfl⟩) oX8_isMissing q_837 q_839 q_44 rfl (by omega) (by decide) rfl (Nat.le_of_ble_eq_true rfl) 35 rfl dX11_listsThere_32 rfl ?_
    by_cases e9 : C.2.1 10 = 0
    · skip
      refine a_if_ne 41 38 rfl dX11_listsThere_35 (by decide) (fun _ => ?_) (fun hc => absurd hc ((by rw [if_pos e9]; decide)))
      refine a_iinc (y := 2) (lv' := [(4, .int 2), (5, .ref (g_ad G 34)), (3, .int 3), (2, .ref (g_ad G 22)), (1, .int z)]) 1 44 rfl dX11_listsThere_41 rfl (rfl) (by decide) rfl ?_
      refine a_goto 13 dX11_listsThere_44 (by decide) ?_
      refine a_sub (lv' := [(4, .int 2), (3, .int 3), (2, .ref (g_ad G 22)), (1, .int z)]) [0, 2, 3, 4] rfl ?_
      exact s2 _ _ (by rw [← e, if_pos e9, Int32.add_zero])
    · skip
      refine a_if_ne 41 38 rfl dX11_listsThere_35 (by decide) (fun hc => absurd ((by rw [if_neg e9])) hc) (fun _ => ?_)
      refine a_iinc (y := z + 1) (lv' := [(1, .int (z + 1)), (5, .ref (g_ad G 34)), (4, .int 1), (3, .int 3), (2, .ref (g_ad G 22))]) 4 41 rfl dX11_listsThere_38 rfl (rfl) (by decide) rfl ?_
      refine a_iinc (y := 2) (lv' := [(4, .int 2), (1, .int (z + 1)), (5, .ref (g_ad G 34)), (3, .int 3), (2, .ref (g_ad G 22))]) 2 44 rfl dX11_listsThere_41 rfl (rfl) (by decide) rfl ?_
      refine a_goto 13 dX11_listsThere_44 (by decide) ?_
      refine a_sub (lv' := [(4, .int 2), (3, .int 3), (2, .ref (g_ad G 22)), (1, .int (z + 1))]) [0, 3, 4, 1] rfl ?_
      exact s2 _ _ (by rw [← e, if_neg e9])
  refine g_Run.of (lv := [(0, .ref (g_ad G 0))]) (by decide) (Nat.le_of_ble_eq_true rfl) rfl ?_
  refine a_iconst (x := 0) 1 rfl dX11_listsThere_0 (by decide) ?_
  refine a_istore_n (lv' := [(1, .int 0), (0, .ref (g_ad G 0))]) 2 rfl dX11_listsThere_1 rfl (by decide) rfl ?_
  refine a_aload_n 1 3 rfl dX11_listsThere_2 rfl rfl ?_
  refine a_get 11 cl_10 f_RX11_76_10 (by decide) (rfl) rfl 6 rfl dX11_listsThere_3 ?_
  refine a_astore_n (lv' := [(2, .ref (g_ad G 22)), (1, .int 0), (0, .ref (g_ad G 0))]) 7 rfl dX11_listsThere_6 rfl (by decide) rfl ?_
  refine a_aload_n 0 8 rfl dX11_listsThere_7 rfl rfl ?_
  refine a_alen (y := 3) 5 (rfl) rfl rfl 9 rfl dX11_listsThere_8 ?_
  refine a_istore_n (lv' := [(3, .int 3), (2, .ref (g_ad G 22)), (1, .int 0), (0, .ref (g_ad G 0))]) 10 rfl dX11_listsThere_9 rfl (by decide) rfl ?_
  refine a_iconst (x := 0) 11 rfl dX11_listsThere_10 (by decide) ?_
  refine a_istore (lv' := [(4, .int 0), (3, .int 3), (2, .ref (g_ad G 22)), (1, .int 0), (0, .ref (g_ad G 0))]) 13 rfl dX11_listsThere_11 (by decide) rfl ?_
  refine a_sub (lv' := [(4, .int 0), (3, .int 3), (2, .ref (g_ad G 22)), (1, .int 0)]) [0, 1, 2, 3] rfl ?_
  refine a_iload 0 15 rfl dX11_listsThere_13 rfl ?_
  refine a_iload_n 1 16 rfl dX11_listsThere_15 rfl rfl ?_
  refine a_icmp_ge 47 19 rfl dX11_listsThere_16 (by decide) (fun hc => absurd hc ((by decide))) (fun _ => ?_)
  refine a_aload_n 2 20 rfl dX11_listsThere_19 rfl rfl ?_
  refine a_iload 0 22 rfl dX11_listsThere_20 rfl ?_
  refine a_ald5 (rfl) ((show vp_in (nI 0) 3 from vp_in_nI (by decide) (by decide))) 23 rfl dX11_listsThere_22 ?_
  refine a_eq (st2 := [.ref (g_ad G 32)]) rfl rfl (by show [va_rf (C.2.2.2.2.2 5 0)] = _; rw [hq.2.1]; rfl) rfl ?_
  refine a_astore (lv' := [(5, .ref (g_ad G 32)), (4, .int 0), (3, .int 3), (2, .ref (g_ad G 22)), (1, .int 0)]) 25 rfl dX11_listsThere_23 (by decide) rfl ?_
  refine a_aload 0 27 rfl dX11_listsThere_25 rfl ?_
  refine a_ifnull 30 rfl dX11_listsThere_27 ?_
  refine a_aload 0 32 rfl dX11_listsThere_30 rfl ?_
  refine a_callVN (as := []) (rest := []) (st2 := [.int (if C.2.1 9 = 0 then 1 else 0)]) (u1 := 0) (v1 := 0) (u2 := 0) (v2 := 0) (r_X8_isMissing rfl) (⟨_, _, _, _, rfl, rfl⟩) oX8_isMissing q_837 q_839 q_44 rfl (by omega) (by decide) rfl (Nat.le_of_ble_eq_true rfl) 35 rfl dX11_listsThere_32 rfl ?_
  by_cases e9 : C.2.1 9 = 0
  · skip
    refine a_if_ne 41 38 rfl dX11_listsThere_35 (by decide) (fun _ => ?_) (fun hc => absurd hc ((by rw [if_pos e9]; decide)))
    refine a_iinc (y := 1) (lv' := [(4, .int 1), (5, .ref (g_ad G 32)), (3, .int 3), (2, .ref (g_ad G 22)), (1, .int 0)]) 1 44 rfl dX11_listsThere_41 rfl (rfl) (by decide) rfl ?_
    refine a_goto 13 dX11_listsThere_44 (by decide) ?_
    refine a_sub (lv' := [(4, .int 1), (3, .int 3), (2, .ref (g_ad G 22)), (1, .int 0)]) [0, 2, 3, 4] rfl ?_
    exact s1 _ _ (by rw [f_th, if_pos e9])
  · skip
    refine a_if_ne 41 38 rfl dX11_listsThere_35 (by decide) (fun hc => absurd ((by rw [if_neg e9])) hc) (fun _ => ?_)
    refine a_iinc (y := 1) (lv' := [(1, .int 1), (5, .ref (g_ad G 32)), (4, .int 0), (3, .int 3), (2, .ref (g_ad G 22))]) 4 41 rfl dX11_listsThere_38 rfl (rfl) (by decide) rfl ?_
    refine a_iinc (y := 1) (lv' := [(4, .int 1), (1, .int 1), (5, .ref (g_ad G 32)), (3, .int 3), (2, .ref (g_ad G 22))]) 2 44 rfl dX11_listsThere_41 rfl (rfl) (by decide) rfl ?_
    refine a_goto 13 dX11_listsThere_44 (by decide) ?_
    refine a_sub (lv' := [(4, .int 1), (3, .int 3), (2, .ref (g_ad G 22)), (1, .int 1)]) [0, 3, 4, 1] rfl ?_
    exact s1 _ _ (by rw [f_th, if_neg e9])

theorem r_X11_count0 (hq : f_qs G C) : g_Run G mX11_count 3 0 0 [.ref (g_ad G 0), .int 0] (g_hp G C tl) (some (.int (nI (C.1 3)))) (g_hp G C tl) := by
  refine g_Run.of (lv := [(0, .ref (g_ad G 0)), (1, .int 0)]) (by decide) (Nat.le_of_ble_eq_true rfl) rfl ?_
  refine a_iload_n 1 1 rfl dX11_count_0 rfl rfl ?_
  refine a_tableIn (off := 47) 48 dX11_count_1 (by decide) (by decide) (by decide) (by decide) ?_
  refine a_aload_n 0 49 rfl dX11_count_48 rfl rfl ?_
  refine a_get 2 cl_10 f_RX11_28_10 (by decide) (rfl) rfl 52 rfl dX11_count_49 ?_
  refine a_callVN (as := []) (rest := []) (st2 := [.int (nI (C.1 3))]) (u1 := 0) (v1 := 0) (u2 := 0) (v2 := 0) (r_X4_many rfl) (⟨_, _, _, _, rfl, rfl⟩) oX4_many q_438 q_440 q_8 rfl (by omega) (by decide) rfl (Nat.le_of_ble_eq_true rfl) 55 rfl dX11_count_52 rfl ?_
  exact a_ireturn .int rfl rfl (rfl) (rfl) dX11_count_55

theorem r_X11_count1 (hq : f_qs G C) : g_Run G mX11_count 3 0 0 [.ref (g_ad G 0), .int 1] (g_hp G C tl) (some (.int (nI (C.1 0)))) (g_hp G C tl) := by
  refine g_Run.of (lv := [(0, .ref (g_ad G 0)), (1, .int 1)]) (by decide) (Nat.le_of_ble_eq_true rfl) rfl ?_
  refine a_iload_n 1 1 rfl dX11_count_0 rfl rfl ?_
  refine a_tableIn (off := 55) 56 dX11_count_1 (by decide) (by decide) (by decide) (by decide) ?_
  refine a_aload_n 0 57 rfl dX11_count_56 rfl rfl ?_
  refine a_get 0 cl_10 f_RX11_12_10 (by decide) (rfl) rfl 60 rfl dX11_count_57 ?_
  refine a_callVN (as := []) (rest := []) (st2 := [.int (nI (C.1 0))]) (u1 := 0) (v1 := 0) (u2 := 0) (v2 := 0) (r_X3_elements rfl) (⟨_, _, _, _, rfl, rfl⟩) oX3_elements q_352 q_354 q_0 rfl (by omega) (by decide) rfl (Nat.le_of_ble_eq_true rfl) 63 rfl dX11_count_60 rfl ?_
  exact a_ireturn .int rfl rfl (rfl) (rfl) dX11_count_63

theorem r_X11_count2 (hq : f_qs G C) : g_Run G mX11_count 3 0 0 [.ref (g_ad G 0), .int 2] (g_hp G C tl) (some (.int (nI (C.1 4)))) (g_hp G C tl) := by
  refine g_Run.of (lv := [(0, .ref (g_ad G 0)), (1, .int 2)]) (by decide) (Nat.le_of_ble_eq_true rfl) rfl ?_
  refine a_iload_n 1 1 rfl dX11_count_0 rfl rfl ?_
  refine a_tableIn (off := 63) 64 dX11_count_1 (by decide) (by decide) (by decide) (by decide) ?_
  refine a_aload_n 0 65 rfl dX11_count_64 rfl rfl ?_
  refine a_get 3 cl_10 f_RX11_35_10 (by decide) (rfl) rfl 68 rfl dX11_count_65 ?_
  refine a_callVN (as := []) (rest := []) (st2 := [.int (nI (C.1 4))]) (u1 := 0) (v1 := 0) (u2 := 0) (v2 := 0) (r_X2_undoable rfl) (⟨_, _, _, _, rfl, rfl⟩) oX2_undoable q_1048 q_1050 q_76 rfl (by omega) (by decide) rfl (Nat.le_of_ble_eq_true rfl) 71 rfl dX11_count_68 rfl ?_
  exact a_ireturn .int rfl rfl (rfl) (rfl) dX11_count_71

theorem r_X11_count3 (hq : f_qs G C) : g_Run G mX11_count 3 0 0 [.ref (g_ad G 0), .int 3] (g_hp G C tl) (some (.int (nI (C.1 5) - nI (C.1 4)))) (g_hp G C tl) := by
  refine g_Run.of (lv := [(0, .ref (g_ad G 0)), (1, .int 3)]) (by decide) (Nat.le_of_ble_eq_true rfl) rfl ?_
  refine a_iload_n 1 1 rfl dX11_count_0 rfl rfl ?_
  refine a_tableIn (off := 71) 72 dX11_count_1 (by decide) (by decide) (by decide) (by decide) ?_
  refine a_aload_n 0 73 rfl dX11_count_72 rfl rfl ?_
  refine a_get 3 cl_10 f_RX11_35_10 (by decide) (rfl) rfl 76 rfl dX11_count_73 ?_
  refine a_callVN (as := []) (rest := []) (st2 := [.int (nI (C.1 5) - nI (C.1 4))]) (u1 := 0) (v1 := 0) (u2 := 0) (v2 := 0) (r_X2_redoable rfl) (⟨_, _, _, _, rfl, rfl⟩) oX2_redoable q_1060 q_1062 q_78 rfl (by omega) (by decide) rfl (Nat.le_of_ble_eq_true rfl) 79 rfl dX11_count_76 rfl ?_
  exact a_ireturn .int rfl rfl (rfl) (rfl) dX11_count_79

theorem r_X11_count4 (hq : f_qs G C) : g_Run G mX11_count 3 0 0 [.ref (g_ad G 0), .int 4] (g_hp G C tl) (some (.int (nI (C.1 10)))) (g_hp G C tl) := by
  refine g_Run.of (lv := [(0, .ref (g_ad G 0)), (1, .int 4)]) (by decide) (Nat.le_of_ble_eq_true rfl) rfl ?_
  refine a_iload_n 1 1 rfl dX11_count_0 rfl rfl ?_
  refine a_tableIn (off := 79) 80 dX11_count_1 (by decide) (by decide) (by decide) (by decide) ?_
  refine a_aload_n 0 81 rfl dX11_count_80 rfl rfl ?_
  refine a_get 8 cl_10 f_RX11_61_10 (by decide) (rfl) rfl 84 rfl dX11_count_81 ?_
  refine a_callVN (as := []) (rest := []) (st2 := [.int (nI (C.1 10))]) (u1 := 0) (v1 := 0) (u2 := 0) (v2 := 0) (r_X10_length rfl) (⟨_, _, _, _, rfl, rfl⟩) oX10_length q_864 q_866 q_48 rfl (by omega) (by decide) rfl (Nat.le_of_ble_eq_true rfl) 87 rfl dX11_count_84 rfl ?_
  exact a_ireturn .int rfl rfl (rfl) (rfl) dX11_count_87

theorem r_X11_count5 (hq : f_qs G C) : g_Run G mX11_count 3 0 0 [.ref (g_ad G 0), .int 5] (g_hp G C tl) (some (.int (nI (C.1 11)))) (g_hp G C tl) := by
  refine g_Run.of (lv := [(0, .ref (g_ad G 0)), (1, .int 5)]) (by decide) (Nat.le_of_ble_eq_true rfl) rfl ?_
  refine a_iload_n 1 1 rfl dX11_count_0 rfl rfl ?_
  refine a_tableIn (off := 87) 88 dX11_count_1 (by decide) (by decide) (by decide) (by decide) ?_
  refine a_aload_n 0 89 rfl dX11_count_88 rfl rfl ?_
  refine a_get 9 cl_10 f_RX11_65_10 (by decide) (rfl) rfl 92 rfl dX11_count_89 ?_
  refine a_callVN (as := []) (rest := []) (st2 := [.int (nI (C.1 11))]) (u1 := 0) (v1 := 0) (u2 := 0) (v2 := 0) (r_X10_length rfl) (⟨_, _, _, _, rfl, rfl⟩) oX10_length q_864 q_866 q_48 rfl (by omega) (by decide) rfl (Nat.le_of_ble_eq_true rfl) 95 rfl dX11_count_92 rfl ?_
  exact a_ireturn .int rfl rfl (rfl) (rfl) dX11_count_95

theorem r_X11_count6 (hq : f_qs G C) : g_Run G mX11_count 3 0 0 [.ref (g_ad G 0), .int 6] (g_hp G C tl) (some (.int (f_th (C.2.1 3) (C.2.1 4) (C.2.1 5)))) (g_hp G C tl) := by
  refine g_Run.of (lv := [(0, .ref (g_ad G 0)), (1, .int 6)]) (by decide) (Nat.le_of_ble_eq_true rfl) rfl ?_
  refine a_iload_n 1 1 rfl dX11_count_0 rfl rfl ?_
  refine a_tableIn (off := 95) 96 dX11_count_1 (by decide) (by decide) (by decide) (by decide) ?_
  refine a_aload_n 0 97 rfl dX11_count_96 rfl rfl ?_
  refine a_callV (as := []) (rest := []) (st2 := [.int (f_th (C.2.1 3) (C.2.1 4) (C.2.1 5))]) (u1 := 0) (v1 := 0) (u2 := 0) (v2 := 0) (r_shelvesThere hq) (⟨_, _, _, _, rfl, rfl⟩) oX11_shelvesThere q_1093 q_1095 q_82 rfl (by omega) (by decide) rfl (Nat.le_of_ble_eq_true rfl) 100 rfl dX11_count_97 rfl ?_
  exact a_ireturn .int rfl rfl (rfl) (rfl) dX11_count_100

theorem r_X11_count7 (hq : f_qs G C) : g_Run G mX11_count 3 0 0 [.ref (g_ad G 0), .int 7] (g_hp G C tl) (some (.int (f_th (C.2.1 9) (C.2.1 10) (C.2.1 11)))) (g_hp G C tl) := by
  refine g_Run.of (lv := [(0, .ref (g_ad G 0)), (1, .int 7)]) (by decide) (Nat.le_of_ble_eq_true rfl) rfl ?_
  refine a_iload_n 1 1 rfl dX11_count_0 rfl rfl ?_
  refine a_tableIn (off := 100) 101 dX11_count_1 (by decide) (by decide) (by decide) (by decide) ?_
  refine a_aload_n 0 102 rfl dX11_count_101 rfl rfl ?_
  refine a_callV (as := []) (rest := []) (st2 := [.int (f_th (C.2.1 9) (C.2.1 10) (C.2.1 11))]) (u1 := 0) (v1 := 0) (u2 := 0) (v2 := 0) (r_listsThere hq) (⟨_, _, _, _, rfl, rfl⟩) oX11_listsThere q_1097 q_1099 q_83 rfl (by omega) (by decide) rfl (Nat.le_of_ble_eq_true rfl) 105 rfl dX11_count_102 rfl ?_
  exact a_ireturn .int rfl rfl (rfl) (rfl) dX11_count_105

theorem r_X11_count_out (hy : y.toInt < 0 ∨ 7 < y.toInt) : g_Run G mX11_count 3 0 0 [.ref (g_ad G 0), .int y] (g_hp G C tl) (some (.int (-1))) (g_hp G C tl) := by
  refine g_Run.of (lv := [(0, .ref (g_ad G 0)), (1, .int y)]) (by decide) (Nat.le_of_ble_eq_true rfl) rfl ?_
  refine a_iload_n 1 1 rfl dX11_count_0 rfl rfl ?_
  refine a_tableOut 106 dX11_count_1 (hy) (by decide) ?_
  refine a_iconst (x := (-1)) 107 rfl dX11_count_106 (by decide) ?_
  exact a_ireturn .int rfl rfl (rfl) (rfl) dX11_count_107
end TX1
