/-! constructors of the inner classes -/
section IN1
variable {G : g_G} {h : List va_E} {a : Nat}
theorem g_at_l {l2 : List va_E} {e : va_E} (hC : h[a]? = some e) : (h ++ l2)[a]? = some e := by
  rw [List.getElem?_append_left (g_lt hC)]; exact hC
theorem r_X8_init (hC : h[a]? = some (c_O 7 [.null, .int 0, .int 0, .int 0])) : g_Run G mX8_init 2 1 20 [.ref (g_ad G a)] h none ((h ++ [c_L G 20 (fun _ => 0)]).set a (c_O 7 [.ref (g_ad G h.length), .int 0, .int 0, .int 0])) := by
  refine g_Run.of (lv := [(0, .ref (g_ad G a))]) (by decide) (Nat.le_of_ble_eq_true rfl) rfl ?_
  refine a_aload_n 0 1 rfl dX8_init_0 rfl rfl ?_
  refine a_objInit q_296 q_143 q_144 (Nat.le_of_ble_eq_true rfl) (by omega) 4 rfl dX8_init_1 ?_
  refine a_aload_n 0 5 rfl dX8_init_4 rfl rfl ?_
  refine a_bipush (x := 20) 7 rfl dX8_init_5 (by decide) ?_
  refine a_newL (n := 20) q_310 (by decide) (by decide) (by decide) 9 rfl dX8_init_7 ?_
  refine a_putF (fs' := [.ref (g_ad G (h.length)), .int 0, .int 0, .int 0]) 0 cl_7 q_297 (by decide) (g_at_l hC) rfl rfl rfl rfl rfl (Nat.le_of_ble_eq_true rfl) rfl 12 rfl dX8_init_9 ?_
  exact a_return rfl (rfl) (rfl) dX8_init_12
theorem r_X4_init (hC : h[a]? = some (c_O 4 [.null, .int 0])) : g_Run G mX4_init 2 1 8 [.ref (g_ad G a)] h none ((h ++ [c_Q G 3 8 (fun _ => none)]).set a (c_O 4 [.ref (g_ad G h.length), .int 0])) := by
  refine g_Run.of (lv := [(0, .ref (g_ad G a))]) (by decide) (Nat.le_of_ble_eq_true rfl) rfl ?_
  refine a_aload_n 0 1 rfl dX4_init_0 rfl rfl ?_
  refine a_objInit q_181 q_143 q_144 (Nat.le_of_ble_eq_true rfl) (by omega) 4 rfl dX4_init_1 ?_
  refine a_aload_n 0 5 rfl dX4_init_4 rfl rfl ?_
  refine a_bipush (x := 8) 7 rfl dX4_init_5 (by decide) ?_
  refine a_anew3 (n := 8) q_182 (by decide) (by decide) (by decide) 10 rfl dX4_init_7 ?_
  refine a_putF (fs' := [.ref (g_ad G (h.length)), .int 0]) 0 cl_4 q_184 (by decide) (g_at_l hC) rfl rfl rfl rfl rfl (Nat.le_of_ble_eq_true rfl) rfl 13 rfl dX4_init_10 ?_
  exact a_return rfl (rfl) (rfl) dX4_init_13
theorem r_X0_init (hC : h[a]? = some (c_O 0 [.null, .int 0, .int 0, .int 0, .int 0])) : g_Run G mX0_init 2 1 24 [.ref (g_ad G a)] h none ((h ++ [c_I G 24 (fun _ => 0)]).set a (c_O 0 [.ref (g_ad G h.length), .int 0, .int 0, .int 0, .int 0])) := by
  refine g_Run.of (lv := [(0, .ref (g_ad G a))]) (by decide) (Nat.le_of_ble_eq_true rfl) rfl ?_
  refine a_aload_n 0 1 rfl dX0_init_0 rfl rfl ?_
  refine a_objInit q_219 q_143 q_144 (Nat.le_of_ble_eq_true rfl) (by omega) 4 rfl dX0_init_1 ?_
  refine a_aload_n 0 5 rfl dX0_init_4 rfl rfl ?_
  refine a_bipush (x := 24) 7 rfl dX0_init_5 (by decide) ?_
  refine a_newI (n := 24) q_161 (by decide) (by decide) (by decide) 9 rfl dX0_init_7 ?_
  refine a_putF (fs' := [.ref (g_ad G (h.length)), .int 0, .int 0, .int 0, .int 0]) 0 cl_0 q_220 (by decide) (g_at_l hC) rfl rfl rfl rfl rfl (Nat.le_of_ble_eq_true rfl) rfl 12 rfl dX0_init_9 ?_
  exact a_return rfl (rfl) (rfl) dX0_init_12
theorem r_X1_init (hC : h[a]? = some (c_O 1 [.null, .int 0, .long 0])) : g_Run G mX1_init 2 1 12 [.ref (g_ad G a)] h none ((h ++ [c_I G 12 (fun _ => 0)]).set a (c_O 1 [.ref (g_ad G h.length), .int 0, .long 0])) := by
  refine g_Run.of (lv := [(0, .ref (g_ad G a))]) (by decide) (Nat.le_of_ble_eq_true rfl) rfl ?_
  refine a_aload_n 0 1 rfl dX1_init_0 rfl rfl ?_
  refine a_objInit q_241 q_143 q_144 (Nat.le_of_ble_eq_true rfl) (by omega) 4 rfl dX1_init_1 ?_
  refine a_aload_n 0 5 rfl dX1_init_4 rfl rfl ?_
  refine a_bipush (x := 12) 7 rfl dX1_init_5 (by decide) ?_
  refine a_newI (n := 12) q_161 (by decide) (by decide) (by decide) 9 rfl dX1_init_7 ?_
  refine a_putF (fs' := [.ref (g_ad G (h.length)), .int 0, .long 0]) 0 cl_1 q_242 (by decide) (g_at_l hC) rfl rfl rfl rfl rfl (Nat.le_of_ble_eq_true rfl) rfl 12 rfl dX1_init_9 ?_
  exact a_return rfl (rfl) (rfl) dX1_init_12
theorem g_app2 {e1 e2 e3 : va_E} (ha : a < h.length) : (h ++ [e1]).set a e3 ++ [e2] = (h ++ [e1, e2]).set a e3 := by
  rw [List.set_append_left _ _ ha, List.set_append_left _ _ ha, List.append_assoc]; rfl
theorem g_appL {l1 : List va_E} {e2 e3 : va_E} (ha : a < h.length) : (h ++ l1).set a e3 ++ [e2] = (h ++ (l1 ++ [e2])).set a e3 := by
  rw [List.set_append_left _ _ ha, List.set_append_left _ _ ha, List.append_assoc]
theorem r_X9_init (hC : h[a]? = some (c_O 8 [.null, .null, .int 0, .int 0, .int 0])) : g_Run G mX9_init 2 2 12 [.ref (g_ad G a)] h none ((h ++ [c_Q G 3 6 (fun _ => none), c_Q G 3 6 (fun _ => none)]).set a (c_O 8 [.ref (g_ad G h.length), .ref (g_ad G (h.length + 1)), .int 0, .int 0, .int 0])) := by
  have ha := g_lt hC
  refine g_Run.of (lv := [(0, .ref (g_ad G a))]) (by decide) (Nat.le_of_ble_eq_true rfl) rfl ?_
  refine a_aload_n 0 1 rfl dX9_init_0 rfl rfl ?_
  refine a_objInit q_274 q_143 q_144 (Nat.le_of_ble_eq_true rfl) (by omega) 4 rfl dX9_init_1 ?_
  refine a_aload_n 0 5 rfl dX9_init_4 rfl rfl ?_
  refine a_bipush (x := 6) 7 rfl dX9_init_5 (by decide) ?_
  refine a_anew3 (n := 6) q_275 (by decide) (by decide) (by decide) 10 rfl dX9_init_7 ?_
  refine a_putF (fs' := [.ref (g_ad G (h.length)), .null, .int 0, .int 0, .int 0]) 0 cl_8 q_276 (by decide) (g_at_l hC) rfl rfl rfl rfl rfl (Nat.le_of_ble_eq_true rfl) rfl 13 rfl dX9_init_10 ?_
  refine a_aload_n 0 14 rfl dX9_init_13 rfl rfl ?_
  refine a_bipush (x := 6) 16 rfl dX9_init_14 (by decide) ?_
  refine a_anew3 (n := 6) q_275 (by decide) (by decide) (by decide) 19 rfl dX9_init_16 ?_
  refine a_eq (st2 := [.ref (g_ad G (h.length + 1)), .ref (g_ad G a)]) rfl rfl (by rw [List.length_set, List.length_append]; rfl) rfl ?_
  refine a_eq (h2 := ((h ++ [c_Q G 3 6 (fun _ => none), c_Q G 3 6 (fun _ => none)]).set a (c_O 8 [.ref (g_ad G h.length), .null, .int 0, .int 0, .int 0]))) rfl rfl rfl (g_app2 ha) ?_
  refine a_putF (fs' := [.ref (g_ad G (h.length)), .ref (g_ad G (h.length + 1)), .int 0, .int 0, .int 0]) 1 cl_8 q_277 (by decide) (g_set_eq (g_at_l hC)) rfl rfl rfl rfl rfl (Nat.le_of_ble_eq_true rfl) rfl 22 rfl dX9_init_19 ?_
  exact a_return rfl (rfl) ((by rw [List.set_set])) dX9_init_22
theorem r_X10_init80 (hC : h[a]? = some (c_O 9 [.null, .int 0])) : g_Run G mX10_init 2 1 80 [.ref (g_ad G a), .int 80] h none ((h ++ [c_B G 80 (fun _ => 0)]).set a (c_O 9 [.ref (g_ad G h.length), .int 0])) := by
  refine g_Run.of (lv := [(0, .ref (g_ad G a)), (1, .int 80)]) (by decide) (Nat.le_of_ble_eq_true rfl) rfl ?_
  refine a_aload_n 0 1 rfl dX10_init_0 rfl rfl ?_
  refine a_objInit q_257 q_143 q_144 (Nat.le_of_ble_eq_true rfl) (by omega) 4 rfl dX10_init_1 ?_
  refine a_aload_n 0 5 rfl dX10_init_4 rfl rfl ?_
  refine a_iload_n 1 6 rfl dX10_init_5 rfl rfl ?_
  refine a_if_le 13 9 rfl dX10_init_6 (by decide) (fun hc => absurd hc ((by decide))) (fun _ => ?_)
  refine a_iload_n 1 10 rfl dX10_init_9 rfl rfl ?_
  refine a_goto 14 dX10_init_10 (by decide) ?_
  refine a_newB (n := 80) q_265 (by decide) (by decide) (by decide) 16 rfl dX10_init_14 ?_
  refine a_putF (fs' := [.ref (g_ad G (h.length)), .int 0]) 0 cl_9 q_258 (by decide) (g_at_l hC) rfl rfl rfl rfl rfl (Nat.le_of_ble_eq_true rfl) rfl 19 rfl dX10_init_16 ?_
  exact a_return rfl (rfl) (rfl) dX10_init_19

theorem r_X10_init256 (hC : h[a]? = some (c_O 9 [.null, .int 0])) : g_Run G mX10_init 2 1 256 [.ref (g_ad G a), .int 256] h none ((h ++ [c_B G 256 (fun _ => 0)]).set a (c_O 9 [.ref (g_ad G h.length), .int 0])) := by
  refine g_Run.of (lv := [(0, .ref (g_ad G a)), (1, .int 256)]) (by decide) (Nat.le_of_ble_eq_true rfl) rfl ?_
  refine a_aload_n 0 1 rfl dX10_init_0 rfl rfl ?_
  refine a_objInit q_257 q_143 q_144 (Nat.le_of_ble_eq_true rfl) (by omega) 4 rfl dX10_init_1 ?_
  refine a_aload_n 0 5 rfl dX10_init_4 rfl rfl ?_
  refine a_iload_n 1 6 rfl dX10_init_5 rfl rfl ?_
  refine a_if_le 13 9 rfl dX10_init_6 (by decide) (fun hc => absurd hc ((by decide))) (fun _ => ?_)
  refine a_iload_n 1 10 rfl dX10_init_9 rfl rfl ?_
  refine a_goto 14 dX10_init_10 (by decide) ?_
  refine a_newB (n := 256) q_265 (by decide) (by decide) (by decide) 16 rfl dX10_init_14 ?_
  refine a_putF (fs' := [.ref (g_ad G (h.length)), .int 0]) 0 cl_9 q_258 (by decide) (g_at_l hC) rfl rfl rfl rfl rfl (Nat.le_of_ble_eq_true rfl) rfl 19 rfl dX10_init_16 ?_
  exact a_return rfl (rfl) (rfl) dX10_init_19

theorem r_X2_init (hC : h[a]? = some (c_O 2 [.null, .null, .null, .int 0, .int 0])) : g_Run G mX2_init 2 3 36 [.ref (g_ad G a)] h none ((h ++ [c_I G 12 (fun _ => 0), c_Q G 3 12 (fun _ => none), c_Q G 3 12 (fun _ => none)]).set a (c_O 2 [.ref (g_ad G h.length), .ref (g_ad G (h.length + 1)), .ref (g_ad G (h.length + 2)), .int 0, .int 0])) := by
  have ha := g_lt hC
  refine g_Run.of (lv := [(0, .ref (g_ad G a))]) (by decide) (Nat.le_of_ble_eq_true rfl) rfl ?_
  refine a_aload_n 0 1 rfl dX2_init_0 rfl rfl ?_
  refine a_objInit q_196 q_143 q_144 (Nat.le_of_ble_eq_true rfl) (by omega) 4 rfl dX2_init_1 ?_
  refine a_aload_n 0 5 rfl dX2_init_4 rfl rfl ?_
  refine a_bipush (x := 12) 7 rfl dX2_init_5 (by decide) ?_
  refine a_newI (n := 12) q_161 (by decide) (by decide) (by decide) 9 rfl dX2_init_7 ?_
  refine a_putF (fs' := [.ref (g_ad G (h.length)), .null, .null, .int 0, .int 0]) 0 cl_2 q_198 (by decide) (g_at_l hC) rfl rfl rfl rfl rfl (Nat.le_of_ble_eq_true rfl) rfl 12 rfl dX2_init_9 ?_
  refine a_aload_n 0 13 rfl dX2_init_12 rfl rfl ?_
  refine a_bipush (x := 12) 15 rfl dX2_init_13 (by decide) ?_
  refine a_anew3 (n := 12) q_197 (by decide) (by decide) (by decide) 18 rfl dX2_init_15 ?_
  refine a_eq (st2 := [.ref (g_ad G (h.length + 1)), .ref (g_ad G a)]) rfl rfl (by rw [List.length_set, List.length_append]; rfl) rfl ?_
  refine a_eq (h2 := ((h ++ [c_I G 12 (fun _ => 0), c_Q G 3 12 (fun _ => none)]).set a (c_O 2 [.ref (g_ad G h.length), .null, .null, .int 0, .int 0]))) rfl rfl rfl (g_app2 ha) ?_
  refine a_putF (fs' := [.ref (g_ad G (h.length)), .ref (g_ad G (h.length + 1)), .null, .int 0, .int 0]) 1 cl_2 q_199 (by decide) (g_set_eq (g_at_l hC)) rfl rfl rfl rfl rfl (Nat.le_of_ble_eq_true rfl) rfl 21 rfl dX2_init_18 ?_
  refine a_eq (h2 := ((h ++ [c_I G 12 (fun _ => 0), c_Q G 3 12 (fun _ => none)]).set a (c_O 2 [.ref (g_ad G h.length), .ref (g_ad G (h.length + 1)), .null, .int 0, .int 0]))) rfl rfl rfl (List.set_set _) ?_
  refine a_aload_n 0 22 rfl dX2_init_21 rfl rfl ?_
  refine a_bipush (x := 12) 24 rfl dX2_init_22 (by decide) ?_
  refine a_anew3 (n := 12) q_197 (by decide) (by decide) (by decide) 27 rfl dX2_init_24 ?_
  refine a_eq (st2 := [.ref (g_ad G (h.length + 2)), .ref (g_ad G a)]) rfl rfl (by rw [List.length_set, List.length_append]; rfl) rfl ?_
  refine a_eq (h2 := ((h ++ [c_I G 12 (fun _ => 0), c_Q G 3 12 (fun _ => none), c_Q G 3 12 (fun _ => none)]).set a (c_O 2 [.ref (g_ad G h.length), .ref (g_ad G (h.length + 1)), .null, .int 0, .int 0]))) rfl rfl rfl (g_appL (l1 := [c_I G 12 (fun _ => 0), c_Q G 3 12 (fun _ => none)]) ha) ?_
  refine a_putF (fs' := [.ref (g_ad G (h.length)), .ref (g_ad G (h.length + 1)), .ref (g_ad G (h.length + 2)), .int 0, .int 0]) 2 cl_2 q_200 (by decide) (g_set_eq (g_at_l hC)) rfl rfl rfl rfl rfl (Nat.le_of_ble_eq_true rfl) rfl 30 rfl dX2_init_27 ?_
  exact a_return rfl (rfl) ((by rw [List.set_set])) dX2_init_30
theorem r_X7_init3 (hC : h[a]? = some (c_O 3 [.null, .int 0])) : g_Run G mX7_init 2 1 64 [.ref (g_ad G a)] h none ((h ++ [c_I G 64 (fun _ => 0)]).set a (c_O 3 [.ref (g_ad G h.length), .int 0])) := by
  refine g_Run.of (lv := [(0, .ref (g_ad G a))]) (by decide) (Nat.le_of_ble_eq_true rfl) rfl ?_
  refine a_aload_n 0 1 rfl dX7_init_0 rfl rfl ?_
  refine a_objInit q_153 q_143 q_144 (Nat.le_of_ble_eq_true rfl) (by omega) 4 rfl dX7_init_1 ?_
  refine a_aload_n 0 5 rfl dX7_init_4 rfl rfl ?_
  refine a_bipush (x := 64) 7 rfl dX7_init_5 (by decide) ?_
  refine a_newI (n := 64) q_161 (by decide) (by decide) (by decide) 9 rfl dX7_init_7 ?_
  refine a_putF (fs' := [.ref (g_ad G (h.length)), .int 0]) 0 cl_3 q_155 (by decide) (g_at_l hC) rfl rfl rfl rfl rfl (Nat.le_of_ble_eq_true rfl) rfl 12 rfl dX7_init_9 ?_
  exact a_return rfl (rfl) (rfl) dX7_init_12

theorem r_X7_init6 (hC : h[a]? = some (c_O 6 [.null, .int 0, .int 0])) : g_Run G mX7_init 2 1 64 [.ref (g_ad G a)] h none ((h ++ [c_I G 64 (fun _ => 0)]).set a (c_O 6 [.ref (g_ad G h.length), .int 0, .int 0])) := by
  refine g_Run.of (lv := [(0, .ref (g_ad G a))]) (by decide) (Nat.le_of_ble_eq_true rfl) rfl ?_
  refine a_aload_n 0 1 rfl dX7_init_0 rfl rfl ?_
  refine a_objInit q_153 q_143 q_144 (Nat.le_of_ble_eq_true rfl) (by omega) 4 rfl dX7_init_1 ?_
  refine a_aload_n 0 5 rfl dX7_init_4 rfl rfl ?_
  refine a_bipush (x := 64) 7 rfl dX7_init_5 (by decide) ?_
  refine a_newI (n := 64) q_161 (by decide) (by decide) (by decide) 9 rfl dX7_init_7 ?_
  refine a_putF (fs' := [.ref (g_ad G (h.length)), .int 0, .int 0]) 0 cl_6 q_155 (by decide) (g_at_l hC) rfl rfl rfl rfl rfl (Nat.le_of_ble_eq_true rfl) rfl 12 rfl dX7_init_9 ?_
  exact a_return rfl (rfl) (rfl) dX7_init_12

theorem r_X3_init (hC : h[a]? = some (c_O 3 [.null, .int 0])) : g_Run G mX3_init 3 1 64 [.ref (g_ad G a)] h none ((h ++ [c_I G 64 (fun _ => 0)]).set a (c_O 3 [.ref (g_ad G h.length), .int 4])) := by
  have ha := g_lt hC
  refine g_Run.of (lv := [(0, .ref (g_ad G a))]) (by decide) (Nat.le_of_ble_eq_true rfl) rfl ?_
  refine a_aload_n 0 1 rfl dX3_init_0 rfl rfl ?_
  refine a_callIN (as := []) (rest := []) (u1 := 1) (v1 := 64) (u2 := 0) (v2 := 0) (r_X7_init3 hC) rfl oX7_init q_150 q_151 rfl rfl (by omega) (by decide) rfl (Nat.le_of_ble_eq_true rfl) 4 rfl dX3_init_1 ?_
  refine a_eq (h2 := ((h ++ [c_I G 64 (fun _ => 0)]).set a (c_O 3 [.ref (g_ad G h.length), .int 0]))) rfl rfl rfl (rfl) ?_
  refine a_aload_n 0 5 rfl dX3_init_4 rfl rfl ?_
  refine a_iconst (x := 4) 6 rfl dX3_init_5 (by decide) ?_
  refine a_put (fs' := [.ref (g_ad G (h.length)), .int 4]) 1 cl_3 f_RX3_9_3 (by decide) (g_set_eq (g_at_l hC)) rfl rfl rfl (Nat.le_of_ble_eq_true rfl) rfl 9 rfl dX3_init_6 ?_
  exact a_return rfl (rfl) ((by rw [List.set_set])) dX3_init_9
theorem r_X6_init (hC : h[a]? = some (c_O 6 [.null, .int 0, .int 0])) : g_Run G mX6_init 3 1 64 [.ref (g_ad G a)] h none ((h ++ [c_I G 64 (fun _ => 0)]).set a (c_O 6 [.ref (g_ad G h.length), .int 4, .int 4])) := by
  have ha := g_lt hC
  refine g_Run.of (lv := [(0, .ref (g_ad G a))]) (by decide) (Nat.le_of_ble_eq_true rfl) rfl ?_
  refine a_aload_n 0 1 rfl dX6_init_0 rfl rfl ?_
  refine a_callIN (as := []) (rest := []) (u1 := 1) (v1 := 64) (u2 := 0) (v2 := 0) (r_X7_init6 hC) rfl oX7_init q_167 q_151 rfl rfl (by omega) (by decide) rfl (Nat.le_of_ble_eq_true rfl) 4 rfl dX6_init_1 ?_
  refine a_eq (h2 := ((h ++ [c_I G 64 (fun _ => 0)]).set a (c_O 6 [.ref (g_ad G h.length), .int 0, .int 0]))) rfl rfl rfl (rfl) ?_
  refine a_aload_n 0 5 rfl dX6_init_4 rfl rfl ?_
  refine a_iconst (x := 4) 6 rfl dX6_init_5 (by decide) ?_
  refine a_put (fs' := [.ref (g_ad G (h.length)), .int 4, .int 0]) 1 cl_6 f_RX6_9_6 (by decide) (g_set_eq (g_at_l hC)) rfl rfl rfl (Nat.le_of_ble_eq_true rfl) rfl 9 rfl dX6_init_6 ?_
  refine a_aload_n 0 10 rfl dX6_init_9 rfl rfl ?_
  refine a_iconst (x := 4) 11 rfl dX6_init_10 (by decide) ?_
  refine a_put (fs' := [.ref (g_ad G (h.length)), .int 4, .int 4]) 2 cl_6 f_RX6_15_6 (by decide) (g_set_eq (g_set_eq (g_at_l hC))) rfl rfl rfl (Nat.le_of_ble_eq_true rfl) rfl 14 rfl dX6_init_11 ?_
  exact a_return rfl (rfl) ((by rw [List.set_set, List.set_set])) dX6_init_14
end IN1
