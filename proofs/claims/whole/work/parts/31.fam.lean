/-! The class's calls on families -/
section FA1
variable {G : g_G} {C : f_C} {tl : List va_E} {x : Int64} {y y2 : Int32}
theorem g_hp_last {c : va_E} : (g_hp G C (tl ++ [c]))[38 + tl.length]? = some c := by
  rw [g_hp_at, List.getElem?_append_right (Nat.le_refl _), Nat.sub_self]; rfl
theorem g_hp_setLast {c c2 : va_E} : (g_hp G C (tl ++ [c])).set (38 + tl.length) c2 = g_hp G C (tl ++ [c2]) := by
  have e9 : 38 + tl.length = (g_hc G C).length + tl.length := rfl
  unfold g_hp
  rw [e9, List.set_append_right _ _ (Nat.le_add_right _ _), Nat.add_sub_cancel_left, List.set_append_right _ _ (Nat.le_refl _), Nat.sub_self]
  rfl
/-- bring: its answer, the cells, what stands behind them -/
def f_brA (C : f_C) : Int32 := if C.1 3 = 8 then -3 else nI (C.1 3)
def f_brC (G : g_G) (C : f_C) (tl : List va_E) : f_C := if C.1 3 = 8 then C else f_un (f_uR (f_un (f_un C 4 0) 5 0) 0 (va_up (C.2.2.2.2.2 0) (C.1 3) (some (g_ad G (38 + tl.length))))) 3 (C.1 3 + 1)
def f_brT (C : f_C) (tl : List va_E) (x : Int64) : List va_E := if C.1 3 = 8 then tl else tl ++ [c_Fa (0, 0, x)]
theorem r_X11_bring (hm : C.1 3 ≤ 8) : g_Run G mX11_bring 2 1 3 [.ref (g_ad G 0), .long x] (g_hp G C tl) (some (.int (f_brA C))) (g_hp G (f_brC G C tl) (f_brT C tl x)) := by
  unfold f_brA f_brC f_brT
  by_cases h8 : C.1 3 = 8
  · rw [if_pos h8, if_pos h8, if_pos h8]
    refine g_Run.of (lv := [(0, .ref (g_ad G 0)), (1, .long x)]) (by decide) (Nat.le_of_ble_eq_true rfl) rfl ?_
    refine a_aload_n 0 1 rfl dX11_bring_0 rfl rfl ?_
    refine a_get 2 cl_10 f_RX11_28_10 (by decide) (rfl) rfl 4 rfl dX11_bring_1 ?_
    refine a_callVN (as := []) (rest := []) (st2 := [.int (if C.1 3 = 8 then 1 else 0)]) (u1 := 0) (v1 := 0) (u2 := 1) (v2 := 3) (r_X4_isFull rfl rfl hm) (⟨_, _, _, _, rfl, rfl⟩) oX4_isFull q_398 q_400 q_5 rfl (by omega) (by decide) rfl (Nat.le_of_ble_eq_true rfl) 7 rfl dX11_bring_4 rfl ?_
    refine a_if_eq 13 10 rfl dX11_bring_7 (by decide) (fun hc => absurd hc ((by rw [if_pos h8]; decide))) (fun _ => ?_)
    refine a_bipush (x := (-3)) 12 rfl dX11_bring_10 (by decide) ?_
    exact a_ireturn .int rfl rfl (rfl) (rfl) dX11_bring_12
  · rw [if_neg h8, if_neg h8, if_neg h8]
    refine g_Run.of (lv := [(0, .ref (g_ad G 0)), (1, .long x)]) (by decide) (Nat.le_of_ble_eq_true rfl) rfl ?_
    refine a_aload_n 0 1 rfl dX11_bring_0 rfl rfl ?_
    refine a_get 2 cl_10 f_RX11_28_10 (by decide) (rfl) rfl 4 rfl dX11_bring_1 ?_
    refine a_callVN (as := []) (rest := []) (st2 := [.int (if C.1 3 = 8 then 1 else 0)]) (u1 := 0) (v1 := 0) (u2 := 1) (v2 := 3) (r_X4_isFull rfl rfl hm) (⟨_, _, _, _, rfl, rfl⟩) oX4_isFull q_398 q_400 q_5 rfl (by omega) (by decide) rfl (Nat.le_of_ble_eq_true rfl) 7 rfl dX11_bring_4 rfl ?_
    refine a_if_eq 13 10 rfl dX11_bring_7 (by decide) (fun _ => ?_) (fun hc => absurd ((by rw [if_neg h8])) hc)
    refine a_aload_n 0 14 rfl dX11_bring_13 rfl rfl ?_
    refine a_get 3 cl_10 f_RX11_35_10 (by decide) (rfl) rfl 17 rfl dX11_bring_14 ?_
    refine a_callVN (as := []) (rest := []) (st2 := []) (u1 := 0) (v1 := 0) (u2 := 1) (v2 := 3) (r_X2_forget rfl) (⟨_, _, _, _, rfl, rfl⟩) oX2_forget q_364 q_366 q_3 rfl (by omega) (by decide) rfl (Nat.le_of_ble_eq_true rfl) 20 rfl dX11_bring_17 rfl ?_
    refine a_eq (h2 := g_hp G (f_un (f_un C 4 0) 5 0) tl) rfl rfl rfl (rfl) ?_
    refine a_aload_n 0 21 rfl dX11_bring_20 rfl rfl ?_
    refine a_get 2 cl_10 f_RX11_28_10 (by decide) (rfl) rfl 24 rfl dX11_bring_21 ?_
    refine a_new (fs := [.int 0, .int 0, .long 0]) cl_5 q_402 q_403 q_131 (by intro j hj; rcases j with _ | _ | _ |  j <;> first | rfl | omega) 27 rfl dX11_bring_24 ?_
    refine a_eq (st2 := [.ref (g_ad G (38 + tl.length)), .ref (g_ad G 5)]) rfl rfl (by rw [g_hp_len]) rfl ?_
    refine a_eq (h2 := g_hp G (f_un (f_un C 4 0) 5 0) (tl ++ [c_O 5 [.int 0, .int 0, .long 0]])) rfl rfl rfl (g_hp_push) ?_
    refine a_dup 28 rfl dX11_bring_27 rfl ?_
    refine a_iconst (x := 0) 29 rfl dX11_bring_28 (by decide) ?_
    refine a_iconst (x := 0) 30 rfl dX11_bring_29 (by decide) ?_
    refine a_lload_n 1 31 rfl dX11_bring_30 rfl rfl ?_
    refine a_callIN (as := [.int 0, .int 0, .long x]) (rest := [.ref (g_ad G (38 + tl.length)), .ref (g_ad G 5)]) (u1 := 0) (v1 := 0) (u2 := 0) (v2 := 0) (r_X5_init g_hp_last) rfl oX5_init q_404 q_405 rfl rfl (by omega) (by decide) rfl (Nat.le_of_ble_eq_true rfl) 34 rfl dX11_bring_31 ?_
    refine a_eq (h2 := g_hp G (f_un (f_un C 4 0) 5 0) (tl ++ [c_Fa (0, 0, x)])) rfl rfl rfl (g_hp_setLast) ?_
    refine a_callVN (as := [.ref (g_ad G (38 + tl.length))]) (rest := []) (st2 := [.int (nI (C.1 3))]) (u1 := 0) (v1 := 0) (u2 := 0) (v2 := 0) (r_X4_add rfl rfl g_hp_last (by decide) (by show C.1 3 < 8; omega)) (⟨_, _, _, _, rfl, rfl⟩) oX4_add q_426 q_428 q_6 rfl (by omega) (by decide) rfl (Nat.le_of_ble_eq_true rfl) 37 rfl dX11_bring_34 rfl ?_
    refine a_eq (h2 := g_hp G (f_un (f_uR (f_un (f_un C 4 0) 5 0) 0 (va_up (C.2.2.2.2.2 0) (C.1 3) (some (g_ad G (38 + tl.length))))) 3 (C.1 3 + 1)) (tl ++ [c_Fa (0, 0, x)])) rfl rfl rfl (rfl) ?_
    exact a_ireturn .int rfl rfl (rfl) (rfl) dX11_bring_37
theorem r_X11_come (hn : C.1 0 ≤ 6) (hm : C.1 3 ≤ 8) (hx : x &&& (f_all (2 ^ C.1 0) ^^^ (-1)) = 0) : g_Run G mX11_come 4 1 3 [.ref (g_ad G 0), .long x] (g_hp G C tl) (some (.int (f_brA C))) (g_hp G (f_brC G C tl) (f_brT C tl x)) := by
  refine g_Run.of (lv := [(0, .ref (g_ad G 0)), (1, .long x)]) (by decide) (Nat.le_of_ble_eq_true rfl) rfl ?_
  refine a_aload_n 0 1 rfl dX11_come_0 rfl rfl ?_
  refine a_get 0 cl_10 f_RX11_12_10 (by decide) (rfl) rfl 4 rfl dX11_come_1 ?_
  refine a_lload_n 1 5 rfl dX11_come_4 rfl rfl ?_
  refine a_callU (as := [.long x]) (C := RX3) (owner := "LeastShadows$Ground") (x := ⟨"LeastShadows$Cube", "holds", "(J)Z"⟩) (rest := []) (st2 := [.int (if x &&& (f_all (2 ^ C.1 0) ^^^ (-1)) = 0 then 1 else 0)]) (u1 := 0) (v1 := 0) (u2 := 1) (v2 := 3) (r_holds_cube (n := C.1 0) rfl hn) (⟨_, _, _, _, rfl, rfl⟩) oX7_holds ⟨q_372, q_373, q_375, q_376, ⟨by decide, by decide⟩, Or.inl rfl⟩ rfl (by omega) (by decide) rfl (Nat.le_of_ble_eq_true rfl) 8 rfl dX11_come_5 rfl ?_
  refine a_if_eq 19 11 rfl dX11_come_8 (by decide) (fun hc => absurd hc ((by rw [if_pos hx]; decide))) (fun _ => ?_)
  refine a_aload_n 0 12 rfl dX11_come_11 rfl rfl ?_
  refine a_lload_n 1 13 rfl dX11_come_12 rfl rfl ?_
  refine a_callV (as := [.long x]) (rest := []) (st2 := [.int (f_brA C)]) (u1 := 1) (v1 := 3) (u2 := 0) (v2 := 0) (r_X11_bring hm) (⟨_, _, _, _, rfl, rfl⟩) oX11_bring q_394 q_396 q_4 rfl (by omega) (by decide) rfl (Nat.le_of_ble_eq_true rfl) 16 rfl dX11_come_13 rfl ?_
  refine a_goto 20 dX11_come_16 (by decide) ?_
  exact a_ireturn .int rfl rfl (rfl) (rfl) dX11_come_20
theorem r_X11_come_bad (hn : C.1 0 ≤ 6) (hx : ¬ x &&& (f_all (2 ^ C.1 0) ^^^ (-1)) = 0) : g_Run G mX11_come 4 1 3 [.ref (g_ad G 0), .long x] (g_hp G C tl) (some (.int (-1))) (g_hp G C tl) := by
  refine g_Run.of (lv := [(0, .ref (g_ad G 0)), (1, .long x)]) (by decide) (Nat.le_of_ble_eq_true rfl) rfl ?_
  refine a_aload_n 0 1 rfl dX11_come_0 rfl rfl ?_
  refine a_get 0 cl_10 f_RX11_12_10 (by decide) (rfl) rfl 4 rfl dX11_come_1 ?_
  refine a_lload_n 1 5 rfl dX11_come_4 rfl rfl ?_
  refine a_callU (as := [.long x]) (C := RX3) (owner := "LeastShadows$Ground") (x := ⟨"LeastShadows$Cube", "holds", "(J)Z"⟩) (rest := []) (st2 := [.int (if x &&& (f_all (2 ^ C.1 0) ^^^ (-1)) = 0 then 1 else 0)]) (u1 := 0) (v1 := 0) (u2 := 1) (v2 := 3) (r_holds_cube (n := C.1 0) rfl hn) (⟨_, _, _, _, rfl, rfl⟩) oX7_holds ⟨q_372, q_373, q_375, q_376, ⟨by decide, by decide⟩, Or.inl rfl⟩ rfl (by omega) (by decide) rfl (Nat.le_of_ble_eq_true rfl) 8 rfl dX11_come_5 rfl ?_
  refine a_if_eq 19 11 rfl dX11_come_8 (by decide) (fun _ => ?_) (fun hc => absurd ((by rw [if_neg hx])) hc)
  refine a_iconst (x := (-1)) 20 rfl dX11_come_19 (by decide) ?_
  exact a_ireturn .int rfl rfl (rfl) (rfl) dX11_come_20
/-- family j is T, the cell o behind the class's own -/
def f_is (G : g_G) (C : f_C) (tl : List va_E) (j o : Nat) (T : f_T) : Prop := j < C.1 3 ∧ C.1 3 ≤ 8 ∧ C.2.2.2.2.2 0 j = some (g_ad G (38 + o)) ∧ tl[o]? = some (c_Fa T) ∧ T.1 < 6 ∧ T.2.1 < 10
abbrev f_so (C : f_C) (T : f_T) : Int64 := f_setsOf (C.1 0) T.1 (nI T.2.1) T.2.2
theorem r_at_in {j o : Nat} {T : f_T} (hf : f_is G C tl j o T) : g_Run G mX4_at 1 0 0 [.ref (g_ad G 5), .int (nI j)] (g_hp G C tl) (some (.ref (g_ad G (38 + o)))) (g_hp G C tl) := r_X4_at_ref rfl rfl hf.2.1 hf.1 hf.2.2.1
theorem r_at_out (hm : C.1 3 ≤ 8) (hi : ¬ vp_in y (C.1 3)) : g_Run G mX4_at 1 0 0 [.ref (g_ad G 5), .int y] (g_hp G C tl) (some .null) (g_hp G C tl) := r_X4_at_out rfl hm hi
theorem r_so {j o : Nat} {T : f_T} (hf : f_is G C tl j o T) (hn : C.1 0 ≤ 6) : g_Run G mX3_setsOf 3 0 0 [.ref (g_ad G 1), .ref (g_ad G (38 + o))] (g_hp G C tl) (some (.long (f_so C T))) (g_hp G C tl) := r_X3_setsOf (n := C.1 0) rfl (f_T_at hf.2.2.2.1) hn hf.2.2.2.2.1
theorem r_X11_press_bad (hm : C.1 3 ≤ 8) (hi : ¬ vp_in y (C.1 3)) : g_Run G mX11_press 5 1 3 [.ref (g_ad G 0), .int y] (g_hp G C tl) (some (.int (-1))) (g_hp G C tl) := by
  refine g_Run.of (lv := [(0, .ref (g_ad G 0)), (1, .int y)]) (by decide) (Nat.le_of_ble_eq_true rfl) rfl ?_
  refine a_aload_n 0 1 rfl dX11_press_0 rfl rfl ?_
  refine a_get 2 cl_10 f_RX11_28_10 (by decide) (rfl) rfl 4 rfl dX11_press_1 ?_
  refine a_iload_n 1 5 rfl dX11_press_4 rfl rfl ?_
  refine a_callVN (as := [.int y]) (rest := []) (st2 := [.null]) (u1 := 0) (v1 := 0) (u2 := 1) (v2 := 3) (r_at_out hm hi) (⟨_, _, _, _, rfl, rfl⟩) oX4_at q_446 q_448 q_9 rfl (by omega) (by decide) rfl (Nat.le_of_ble_eq_true rfl) 8 rfl dX11_press_5 rfl ?_
  refine a_astore_nN (lv' := [(2, .null), (0, .ref (g_ad G 0)), (1, .int y)]) 9 rfl dX11_press_8 rfl (by decide) rfl ?_
  refine a_aload_nN 0 10 rfl dX11_press_9 rfl rfl ?_
  refine a_ifnonnullN 13 rfl dX11_press_10 ?_
  refine a_iconst (x := (-1)) 14 rfl dX11_press_13 (by decide) ?_
  refine a_goto 36 dX11_press_14 (by decide) ?_
  exact a_ireturn .int rfl rfl (rfl) (rfl) dX11_press_36

theorem r_X11_rounds_bad (hm : C.1 3 ≤ 8) (hi : ¬ vp_in y (C.1 3)) : g_Run G mX11_rounds 5 0 0 [.ref (g_ad G 0), .int y] (g_hp G C tl) (some (.int (-1))) (g_hp G C tl) := by
  refine g_Run.of (lv := [(0, .ref (g_ad G 0)), (1, .int y)]) (by decide) (Nat.le_of_ble_eq_true rfl) rfl ?_
  refine a_aload_n 0 1 rfl dX11_rounds_0 rfl rfl ?_
  refine a_get 2 cl_10 f_RX11_28_10 (by decide) (rfl) rfl 4 rfl dX11_rounds_1 ?_
  refine a_iload_n 1 5 rfl dX11_rounds_4 rfl rfl ?_
  refine a_callVN (as := [.int y]) (rest := []) (st2 := [.null]) (u1 := 0) (v1 := 0) (u2 := 0) (v2 := 0) (r_at_out hm hi) (⟨_, _, _, _, rfl, rfl⟩) oX4_at q_446 q_448 q_9 rfl (by omega) (by decide) rfl (Nat.le_of_ble_eq_true rfl) 8 rfl dX11_rounds_5 rfl ?_
  refine a_astore_nN (lv' := [(2, .null), (0, .ref (g_ad G 0)), (1, .int y)]) 9 rfl dX11_rounds_8 rfl (by decide) rfl ?_
  refine a_aload_nN 0 10 rfl dX11_rounds_9 rfl rfl ?_
  refine a_ifnonnullN 13 rfl dX11_rounds_10 ?_
  refine a_iconst (x := (-1)) 14 rfl dX11_rounds_13 (by decide) ?_
  refine a_goto 32 dX11_rounds_14 (by decide) ?_
  exact a_ireturn .int rfl rfl (rfl) (rfl) dX11_rounds_32

theorem r_X11_press {j o : Nat} {T : f_T} (hf : f_is G C tl j o T) (hn0 : 0 < C.1 0) (hn : C.1 0 ≤ 6) : g_Run G mX11_press 5 1 3 [.ref (g_ad G 0), .int (nI j)] (g_hp G C tl) (some (.int (f_brA C))) (g_hp G (f_brC G C tl) (f_brT C tl (f_rest (C.1 0) 4096 (f_so C T)))) := by
  refine g_Run.of (lv := [(0, .ref (g_ad G 0)), (1, .int (nI j))]) (by decide) (Nat.le_of_ble_eq_true rfl) rfl ?_
  refine a_aload_n 0 1 rfl dX11_press_0 rfl rfl ?_
  refine a_get 2 cl_10 f_RX11_28_10 (by decide) (rfl) rfl 4 rfl dX11_press_1 ?_
  refine a_iload_n 1 5 rfl dX11_press_4 rfl rfl ?_
  refine a_callVN (as := [.int (nI j)]) (rest := []) (st2 := [.ref (g_ad G (38 + o))]) (u1 := 0) (v1 := 0) (u2 := 1) (v2 := 3) (r_at_in hf) (⟨_, _, _, _, rfl, rfl⟩) oX4_at q_446 q_448 q_9 rfl (by omega) (by decide) rfl (Nat.le_of_ble_eq_true rfl) 8 rfl dX11_press_5 rfl ?_
  refine a_astore_n (lv' := [(2, .ref (g_ad G (38 + o))), (0, .ref (g_ad G 0)), (1, .int (nI j))]) 9 rfl dX11_press_8 rfl (by decide) rfl ?_
  refine a_aload_n 0 10 rfl dX11_press_9 rfl rfl ?_
  refine a_ifnonnull 17 dX11_press_10 (by decide) ?_
  refine a_aload_n 1 18 rfl dX11_press_17 rfl rfl ?_
  refine a_aload_n 1 19 rfl dX11_press_18 rfl rfl ?_
  refine a_get 0 cl_10 f_RX11_12_10 (by decide) (rfl) rfl 22 rfl dX11_press_19 ?_
  refine a_aload_n 1 23 rfl dX11_press_22 rfl rfl ?_
  refine a_get 0 cl_10 f_RX11_12_10 (by decide) (rfl) rfl 26 rfl dX11_press_23 ?_
  refine a_aload_n 0 27 rfl dX11_press_26 rfl rfl ?_
  refine a_callVN (as := [.ref (g_ad G (38 + o))]) (rest := [.ref (g_ad G 1), .ref (g_ad G 0)]) (st2 := [.long (f_so C T), .ref (g_ad G 1), .ref (g_ad G 0)]) (u1 := 0) (v1 := 0) (u2 := 1) (v2 := 3) (r_so hf hn) (⟨_, _, _, _, rfl, rfl⟩) oX3_setsOf q_467 q_469 q_13 rfl (by omega) (by decide) rfl (Nat.le_of_ble_eq_true rfl) 30 rfl dX11_press_27 rfl ?_
  refine a_callVN (as := [.long (f_so C T)]) (rest := [.ref (g_ad G 0)]) (st2 := [.long (f_rest (C.1 0) 4096 (f_so C T)), .ref (g_ad G 0)]) (u1 := 0) (v1 := 0) (u2 := 1) (v2 := 3) (r_X3_pressedToRest (n := C.1 0) rfl hn0 hn) (⟨_, _, _, _, rfl, rfl⟩) oX3_pressedToRest q_573 q_575 q_27 rfl (by omega) (by decide) rfl (Nat.le_of_ble_eq_true rfl) 33 rfl dX11_press_30 rfl ?_
  refine a_callV (as := [.long (f_rest (C.1 0) 4096 (f_so C T))]) (rest := []) (st2 := [.int (f_brA C)]) (u1 := 1) (v1 := 3) (u2 := 0) (v2 := 0) (r_X11_bring hf.2.1) (⟨_, _, _, _, rfl, rfl⟩) oX11_bring q_394 q_396 q_4 rfl (by omega) (by decide) rfl (Nat.le_of_ble_eq_true rfl) 36 rfl dX11_press_33 rfl ?_
  exact a_ireturn .int rfl rfl (rfl) (rfl) dX11_press_36
theorem r_X11_rounds {j o : Nat} {T : f_T} (hf : f_is G C tl j o T) (hn0 : 0 < C.1 0) (hn : C.1 0 ≤ 6) : g_Run G mX11_rounds 5 0 0 [.ref (g_ad G 0), .int (nI j)] (g_hp G C tl) (some (.int (f_rounds (C.1 0) 4096 (f_so C T) 0))) (g_hp G C tl) := by
  refine g_Run.of (lv := [(0, .ref (g_ad G 0)), (1, .int (nI j))]) (by decide) (Nat.le_of_ble_eq_true rfl) rfl ?_
  refine a_aload_n 0 1 rfl dX11_rounds_0 rfl rfl ?_
  refine a_get 2 cl_10 f_RX11_28_10 (by decide) (rfl) rfl 4 rfl dX11_rounds_1 ?_
  refine a_iload_n 1 5 rfl dX11_rounds_4 rfl rfl ?_
  refine a_callVN (as := [.int (nI j)]) (rest := []) (st2 := [.ref (g_ad G (38 + o))]) (u1 := 0) (v1 := 0) (u2 := 0) (v2 := 0) (r_at_in hf) (⟨_, _, _, _, rfl, rfl⟩) oX4_at q_446 q_448 q_9 rfl (by omega) (by decide) rfl (Nat.le_of_ble_eq_true rfl) 8 rfl dX11_rounds_5 rfl ?_
  refine a_astore_n (lv' := [(2, .ref (g_ad G (38 + o))), (0, .ref (g_ad G 0)), (1, .int (nI j))]) 9 rfl dX11_rounds_8 rfl (by decide) rfl ?_
  refine a_aload_n 0 10 rfl dX11_rounds_9 rfl rfl ?_
  refine a_ifnonnull 17 dX11_rounds_10 (by decide) ?_
  refine a_aload_n 1 18 rfl dX11_rounds_17 rfl rfl ?_
  refine a_get 0 cl_10 f_RX11_12_10 (by decide) (rfl) rfl 21 rfl dX11_rounds_18 ?_
  refine a_aload_n 1 22 rfl dX11_rounds_21 rfl rfl ?_
  refine a_get 0 cl_10 f_RX11_12_10 (by decide) (rfl) rfl 25 rfl dX11_rounds_22 ?_
  refine a_aload_n 0 26 rfl dX11_rounds_25 rfl rfl ?_
  refine a_callVN (as := [.ref (g_ad G (38 + o))]) (rest := [.ref (g_ad G 1)]) (st2 := [.long (f_so C T), .ref (g_ad G 1)]) (u1 := 0) (v1 := 0) (u2 := 0) (v2 := 0) (r_so hf hn) (⟨_, _, _, _, rfl, rfl⟩) oX3_setsOf q_467 q_469 q_13 rfl (by omega) (by decide) rfl (Nat.le_of_ble_eq_true rfl) 29 rfl dX11_rounds_26 rfl ?_
  refine a_callVN (as := [.long (f_so C T)]) (rest := []) (st2 := [.int (f_rounds (C.1 0) 4096 (f_so C T) 0)]) (u1 := 0) (v1 := 0) (u2 := 0) (v2 := 0) (r_X3_roundsOf (n := C.1 0) rfl hn0 hn) (⟨_, _, _, _, rfl, rfl⟩) oX3_roundsOf q_582 q_584 q_28 rfl (by omega) (by decide) rfl (Nat.le_of_ble_eq_true rfl) 32 rfl dX11_rounds_29 rfl ?_
  exact a_ireturn .int rfl rfl (rfl) (rfl) dX11_rounds_32
end FA1
