/-! The class's calls: ordered, first, the grid's, cascades -/
section GR1
variable {G : g_G} {C : f_C} {tl : List va_E} {x z9 : Int64} {y y2 y3 : Int32} {j o : Nat} {T : f_T}
theorem r_X11_ordered_out (hy : y < 0 ∨ ¬ y < 4) : g_Run G mX11_ordered 6 0 0 [.ref (g_ad G 0), .int y, .int y2] (g_hp G C tl) (some (.int (-1))) (g_hp G C tl) := by
  refine g_Run.of (lv := [(0, .ref (g_ad G 0)), (1, .int y), (2, .int y2)]) (by decide) (Nat.le_of_ble_eq_true rfl) rfl ?_
  refine a_iload_n 1 1 rfl dX11_ordered_0 rfl rfl ?_
  refine a_if_lt 9 4 rfl dX11_ordered_1 (by decide) (fun c1 => ?_) (fun c1 => ?_)
  refine a_iconst (x := (-1)) 10 rfl dX11_ordered_9 (by decide) ?_
  refine a_goto 22 dX11_ordered_10 (by decide) ?_
  exact a_ireturn .int rfl rfl (rfl) (rfl) dX11_ordered_22
  refine a_iload_n 1 5 rfl dX11_ordered_4 rfl rfl ?_
  refine a_iconst (x := 4) 6 rfl dX11_ordered_5 (by decide) ?_
  refine a_icmp_lt 13 9 rfl dX11_ordered_6 (by decide) (fun hc => absurd hc ((hy.resolve_left c1))) (fun _ => ?_)
  refine a_iconst (x := (-1)) 10 rfl dX11_ordered_9 (by decide) ?_
  refine a_goto 22 dX11_ordered_10 (by decide) ?_
  exact a_ireturn .int rfl rfl (rfl) (rfl) dX11_ordered_22
theorem r_X11_ordered_of {o9 : Nat} {f2 : Nat → Int32} (ho : o9 < 4) (w : g_Run G mX7_placeBy 5 0 0 [.ref (g_ad G 1), .int (nI o9), .int y2] (g_hp G C tl) (some (.int y3)) ((g_hp G C tl).set 2 (c_I G 64 f2))) : g_Run G mX11_ordered 6 0 0 [.ref (g_ad G 0), .int (nI o9), .int y2] (g_hp G C tl) (some (.int y3)) (g_hp G (f_uI C 0 f2) tl) := by
  refine g_Run.of (lv := [(0, .ref (g_ad G 0)), (1, .int (nI o9)), (2, .int y2)]) (by decide) (Nat.le_of_ble_eq_true rfl) rfl ?_
  refine a_iload_n 1 1 rfl dX11_ordered_0 rfl rfl ?_
  refine a_if_lt 9 4 rfl dX11_ordered_1 (by decide) (fun hc => absurd hc (nI_pos (by omega))) (fun _ => ?_)
  refine a_iload_n 1 5 rfl dX11_ordered_4 rfl rfl ?_
  refine a_iconst (x := 4) 6 rfl dX11_ordered_5 (by decide) ?_
  refine a_icmp_lt 13 9 rfl dX11_ordered_6 (by decide) (fun _ => ?_) (fun hc => absurd (nI_lt (b := 4) ho (by omega)) hc)
  refine a_aload_n 0 14 rfl dX11_ordered_13 rfl rfl ?_
  refine a_get 0 cl_10 f_RX11_12_10 (by decide) (rfl) rfl 17 rfl dX11_ordered_14 ?_
  refine a_iload_n 1 18 rfl dX11_ordered_17 rfl rfl ?_
  refine a_iload_n 2 19 rfl dX11_ordered_18 rfl rfl ?_
  refine a_callU (as := [.int (nI o9), .int y2]) (C := RX3) (owner := "LeastShadows$Ground") (x := ⟨"LeastShadows$Cube", "placeBy", "(II)I"⟩) (rest := []) (st2 := [.int y3]) (u1 := 0) (v1 := 0) (u2 := 0) (v2 := 0) (w) (⟨_, _, _, _, rfl, rfl⟩) oX7_placeBy ⟨q_590, q_591, q_593, q_594, ⟨by decide, by decide⟩, Or.inl rfl⟩ rfl (by omega) (by decide) rfl (Nat.le_of_ble_eq_true rfl) 22 rfl dX11_ordered_19 rfl ?_
  refine a_eq (h2 := g_hp G (f_uI C 0 f2) tl) rfl rfl rfl (rfl) ?_
  exact a_ireturn .int rfl rfl (rfl) (rfl) dX11_ordered_22
theorem r_X11_ordered {o9 : Nat} (hn : C.1 0 ≤ 6) (ho : o9 < 4) : ∃ f2 : Nat → Int32, (∀ j, j < 2 ^ C.1 0 → f2 j = f_keyC (C.1 0) o9 (nI j)) ∧ (∀ s9, s9 < 2 ^ C.1 0 → nI (f_rank f2 s9 (2 ^ C.1 0)) = y2 → (∀ q7, q7 < s9 → ¬ nI (f_rank f2 q7 (2 ^ C.1 0)) = y2) → g_Run G mX11_ordered 6 0 0 [.ref (g_ad G 0), .int (nI o9), .int y2] (g_hp G C tl) (some (.int (nI s9))) (g_hp G (f_uI C 0 f2) tl)) ∧ ((∀ q7, q7 < 2 ^ C.1 0 → ¬ nI (f_rank f2 q7 (2 ^ C.1 0)) = y2) → g_Run G mX11_ordered 6 0 0 [.ref (g_ad G 0), .int (nI o9), .int y2] (g_hp G C tl) (some (.int (-2))) (g_hp G (f_uI C 0 f2) tl)) := by
  obtain ⟨f2, hk, w1, w2⟩ := r_placeBy_cube (G := G) (h := g_hp G C tl) (y := y2) (n := C.1 0) (f := C.2.2.2.1 0) (a := 1) (ka := 2) rfl rfl (by decide) hn ho
  exact ⟨f2, hk, fun s9 h1 h2 h3 => r_X11_ordered_of ho (w1 s9 h1 h2 h3), fun h1 => r_X11_ordered_of ho (w2 h1)⟩
theorem r_X11_first_out (hn : C.1 0 ≤ 6) (hy : y < 0 ∨ 4 ≤ y ∨ y2 < 0 ∨ ¬ y2 ≤ nI (2 ^ C.1 0)) : g_Run G mX11_first 6 1 3 [.ref (g_ad G 0), .int y, .int y2] (g_hp G C tl) (some (.int (-1))) (g_hp G C tl) := by
  refine g_Run.of (lv := [(0, .ref (g_ad G 0)), (1, .int y), (2, .int y2)]) (by decide) (Nat.le_of_ble_eq_true rfl) rfl ?_
  refine a_iload_n 1 1 rfl dX11_first_0 rfl rfl ?_
  refine a_if_lt 24 4 rfl dX11_first_1 (by decide) (fun c1 => ?_) (fun c1 => ?_)
  refine a_iconst (x := (-1)) 25 rfl dX11_first_24 (by decide) ?_
  exact a_ireturn .int rfl rfl (rfl) (rfl) dX11_first_25
  refine a_iload_n 1 5 rfl dX11_first_4 rfl rfl ?_
  refine a_iconst (x := 4) 6 rfl dX11_first_5 (by decide) ?_
  refine a_icmp_ge 24 9 rfl dX11_first_6 (by decide) (fun c6 => ?_) (fun c6 => ?_)
  refine a_iconst (x := (-1)) 25 rfl dX11_first_24 (by decide) ?_
  exact a_ireturn .int rfl rfl (rfl) (rfl) dX11_first_25
  refine a_iload_n 2 10 rfl dX11_first_9 rfl rfl ?_
  refine a_if_lt 24 13 rfl dX11_first_10 (by decide) (fun c10 => ?_) (fun c10 => ?_)
  refine a_iconst (x := (-1)) 25 rfl dX11_first_24 (by decide) ?_
  exact a_ireturn .int rfl rfl (rfl) (rfl) dX11_first_25
  refine a_iload_n 2 14 rfl dX11_first_13 rfl rfl ?_
  refine a_aload_n 0 15 rfl dX11_first_14 rfl rfl ?_
  refine a_get 0 cl_10 f_RX11_12_10 (by decide) (rfl) rfl 18 rfl dX11_first_15 ?_
  refine a_callV (as := []) (rest := [.int y2]) (st2 := [.int (nI (2 ^ C.1 0)), .int y2]) (u1 := 0) (v1 := 0) (u2 := 1) (v2 := 3) (r_X3_places (n := C.1 0) rfl hn) (⟨_, _, _, _, rfl, rfl⟩) oX3_places q_623 q_388 q_1663 rfl (by omega) (by decide) rfl (Nat.le_of_ble_eq_true rfl) 21 rfl dX11_first_18 rfl ?_
  refine a_icmp_le 26 24 rfl dX11_first_21 (by decide) (fun hc => absurd hc ((((hy.resolve_left c1).resolve_left c6).resolve_left c10))) (fun _ => ?_)
  refine a_iconst (x := (-1)) 25 rfl dX11_first_24 (by decide) ?_
  exact a_ireturn .int rfl rfl (rfl) (rfl) dX11_first_25

theorem r_X11_firstCells_out  (hy : y < 0 ∨ 3 ≤ y ∨ y2 < 0 ∨ ¬ y2 ≤ nI (C.1 1 * C.1 2)) : g_Run G mX11_firstCells 6 0 0 [.ref (g_ad G 0), .int y, .int y2] (g_hp G C tl) (some (.long (-9223372036854775808))) (g_hp G C tl) := by
  refine g_Run.of (lv := [(0, .ref (g_ad G 0)), (1, .int y), (2, .int y2)]) (by decide) (Nat.le_of_ble_eq_true rfl) rfl ?_
  refine a_iload_n 1 1 rfl dX11_firstCells_0 rfl rfl ?_
  refine a_if_lt 24 4 rfl dX11_firstCells_1 (by decide) (fun c1 => ?_) (fun c1 => ?_)
  refine a_ldc2 q_466 27 rfl dX11_firstCells_24 ?_
  exact a_lreturn rfl (rfl) (rfl) dX11_firstCells_27
  refine a_iload_n 1 5 rfl dX11_firstCells_4 rfl rfl ?_
  refine a_iconst (x := 3) 6 rfl dX11_firstCells_5 (by decide) ?_
  refine a_icmp_ge 24 9 rfl dX11_firstCells_6 (by decide) (fun c6 => ?_) (fun c6 => ?_)
  refine a_ldc2 q_466 27 rfl dX11_firstCells_24 ?_
  exact a_lreturn rfl (rfl) (rfl) dX11_firstCells_27
  refine a_iload_n 2 10 rfl dX11_firstCells_9 rfl rfl ?_
  refine a_if_lt 24 13 rfl dX11_firstCells_10 (by decide) (fun c10 => ?_) (fun c10 => ?_)
  refine a_ldc2 q_466 27 rfl dX11_firstCells_24 ?_
  exact a_lreturn rfl (rfl) (rfl) dX11_firstCells_27
  refine a_iload_n 2 14 rfl dX11_firstCells_13 rfl rfl ?_
  refine a_aload_n 0 15 rfl dX11_firstCells_14 rfl rfl ?_
  refine a_get 1 cl_10 f_RX11_21_10 (by decide) (rfl) rfl 18 rfl dX11_firstCells_15 ?_
  refine a_callV (as := []) (rest := [.int y2]) (st2 := [.int (nI (C.1 1 * C.1 2)), .int y2]) (u1 := 0) (v1 := 0) (u2 := 0) (v2 := 0) (r_X6_places (w9 := C.1 1) (t9 := C.1 2) rfl) (⟨_, _, _, _, rfl, rfl⟩) oX6_places q_783 q_391 q_1672 rfl (by omega) (by decide) rfl (Nat.le_of_ble_eq_true rfl) 21 rfl dX11_firstCells_18 rfl ?_
  refine a_icmp_le 28 24 rfl dX11_firstCells_21 (by decide) (fun hc => absurd hc ((((hy.resolve_left c1).resolve_left c6).resolve_left c10))) (fun _ => ?_)
  refine a_ldc2 q_466 27 rfl dX11_firstCells_24 ?_
  exact a_lreturn rfl (rfl) (rfl) dX11_firstCells_27

theorem r_X11_first {o9 m9 : Nat} (hn : C.1 0 ≤ 6) (hm : C.1 3 ≤ 8) (ho : o9 < 4) (h9 : m9 ≤ 2 ^ C.1 0) : ∃ f2 : Nat → Int32, (∀ j, j < 2 ^ C.1 0 → f2 j = f_keyC (C.1 0) o9 (nI j)) ∧ g_Run G mX11_first 6 1 3 [.ref (g_ad G 0), .int (nI o9), .int (nI m9)] (g_hp G C tl) (some (.int (f_brA C))) (g_hp G (f_brC G (f_uI C 0 f2) tl) (f_brT C tl (f_firsts f2 (2 ^ C.1 0) (nI m9) (2 ^ C.1 0)))) := by
  have hp : 2 ^ C.1 0 ≤ 64 := Nat.pow_le_pow_right (by decide) hn
  obtain ⟨f2, hk, w⟩ := r_first_cube (G := G) (tl := tl) (y := nI m9) hn ho
  refine ⟨f2, hk, ?_⟩
  refine g_Run.of (lv := [(0, .ref (g_ad G 0)), (1, .int (nI o9)), (2, .int (nI m9))]) (by decide) (Nat.le_of_ble_eq_true rfl) rfl ?_
  refine a_iload_n 1 1 rfl dX11_first_0 rfl rfl ?_
  refine a_if_lt 24 4 rfl dX11_first_1 (by decide) (fun hc => absurd hc (nI_pos (by omega))) (fun _ => ?_)
  refine a_iload_n 1 5 rfl dX11_first_4 rfl rfl ?_
  refine a_iconst (x := 4) 6 rfl dX11_first_5 (by decide) ?_
  refine a_icmp_ge 24 9 rfl dX11_first_6 (by decide) (fun hc => absurd hc (nI_ge (b := 4) ho (by omega))) (fun _ => ?_)
  refine a_iload_n 2 10 rfl dX11_first_9 rfl rfl ?_
  refine a_if_lt 24 13 rfl dX11_first_10 (by decide) (fun hc => absurd hc (nI_pos (by omega))) (fun _ => ?_)
  refine a_iload_n 2 14 rfl dX11_first_13 rfl rfl ?_
  refine a_aload_n 0 15 rfl dX11_first_14 rfl rfl ?_
  refine a_get 0 cl_10 f_RX11_12_10 (by decide) (rfl) rfl 18 rfl dX11_first_15 ?_
  refine a_callV (as := []) (rest := [.int (nI m9)]) (st2 := [.int (nI (2 ^ C.1 0)), .int (nI m9)]) (u1 := 0) (v1 := 0) (u2 := 1) (v2 := 3) (r_X3_places (n := C.1 0) rfl hn) (⟨_, _, _, _, rfl, rfl⟩) oX3_places q_623 q_388 q_1663 rfl (by omega) (by decide) rfl (Nat.le_of_ble_eq_true rfl) 21 rfl dX11_first_18 rfl ?_
  refine a_icmp_le 26 24 rfl dX11_first_21 (by decide) (fun _ => ?_) (fun hc => absurd (nI_le h9 (by omega)) hc)
  refine a_aload_n 0 27 rfl dX11_first_26 rfl rfl ?_
  refine a_aload_n 0 28 rfl dX11_first_27 rfl rfl ?_
  refine a_get 0 cl_10 f_RX11_12_10 (by decide) (rfl) rfl 31 rfl dX11_first_28 ?_
  refine a_iload_n 1 32 rfl dX11_first_31 rfl rfl ?_
  refine a_iload_n 2 33 rfl dX11_first_32 rfl rfl ?_
  refine a_callU (as := [.int (nI o9), .int (nI m9)]) (C := RX3) (owner := "LeastShadows$Ground") (x := ⟨"LeastShadows$Cube", "firstBy", "(II)J"⟩) (rest := [.ref (g_ad G 0)]) (st2 := [.long (f_firsts f2 (2 ^ C.1 0) (nI m9) (2 ^ C.1 0)), .ref (g_ad G 0)]) (u1 := 0) (v1 := 0) (u2 := 1) (v2 := 3) (w) (⟨_, _, _, _, rfl, rfl⟩) oX7_firstBy ⟨q_624, q_625, q_627, q_628, ⟨by decide, by decide⟩, Or.inl rfl⟩ rfl (by omega) (by decide) rfl (Nat.le_of_ble_eq_true rfl) 36 rfl dX11_first_33 rfl ?_
  refine a_eq (h2 := g_hp G (f_uI C 0 f2) tl) rfl rfl rfl (rfl) ?_
  refine a_callV (as := [.long (f_firsts f2 (2 ^ C.1 0) (nI m9) (2 ^ C.1 0))]) (rest := []) (st2 := [.int (f_brA C)]) (u1 := 1) (v1 := 3) (u2 := 0) (v2 := 0) (r_X11_bring (C := f_uI C 0 f2) hm) (⟨_, _, _, _, rfl, rfl⟩) oX11_bring q_394 q_396 q_4 rfl (by omega) (by decide) rfl (Nat.le_of_ble_eq_true rfl) 39 rfl dX11_first_36 rfl ?_
  exact a_ireturn .int rfl rfl (rfl) (rfl) dX11_first_39
theorem r_X11_firstCells {o9 m9 : Nat} (hp : C.1 1 * C.1 2 ≤ 64) (hw0 : 0 < C.1 1) (hw : C.1 1 ≤ 8) (ho : o9 < 3) (h9 : m9 ≤ C.1 1 * C.1 2) : ∃ f2 : Nat → Int32, (∀ j, j < C.1 1 * C.1 2 → f2 j = f_keyG (C.1 1) o9 (nI j)) ∧ g_Run G mX11_firstCells 6 0 0 [.ref (g_ad G 0), .int (nI o9), .int (nI m9)] (g_hp G C tl) (some (.long (f_firsts f2 (C.1 1 * C.1 2) (nI m9) (C.1 1 * C.1 2)))) (g_hp G (f_uI C 1 f2) tl) := by
  obtain ⟨f2, hk, w⟩ := r_first_grid (G := G) (tl := tl) (y := nI m9) hp hw0 hw ho
  refine ⟨f2, hk, ?_⟩
  refine g_Run.of (lv := [(0, .ref (g_ad G 0)), (1, .int (nI o9)), (2, .int (nI m9))]) (by decide) (Nat.le_of_ble_eq_true rfl) rfl ?_
  refine a_iload_n 1 1 rfl dX11_firstCells_0 rfl rfl ?_
  refine a_if_lt 24 4 rfl dX11_firstCells_1 (by decide) (fun hc => absurd hc (nI_pos (by omega))) (fun _ => ?_)
  refine a_iload_n 1 5 rfl dX11_firstCells_4 rfl rfl ?_
  refine a_iconst (x := 3) 6 rfl dX11_firstCells_5 (by decide) ?_
  refine a_icmp_ge 24 9 rfl dX11_firstCells_6 (by decide) (fun hc => absurd hc (nI_ge (b := 3) ho (by omega))) (fun _ => ?_)
  refine a_iload_n 2 10 rfl dX11_firstCells_9 rfl rfl ?_
  refine a_if_lt 24 13 rfl dX11_firstCells_10 (by decide) (fun hc => absurd hc (nI_pos (by omega))) (fun _ => ?_)
  refine a_iload_n 2 14 rfl dX11_firstCells_13 rfl rfl ?_
  refine a_aload_n 0 15 rfl dX11_firstCells_14 rfl rfl ?_
  refine a_get 1 cl_10 f_RX11_21_10 (by decide) (rfl) rfl 18 rfl dX11_firstCells_15 ?_
  refine a_callV (as := []) (rest := [.int (nI m9)]) (st2 := [.int (nI (C.1 1 * C.1 2)), .int (nI m9)]) (u1 := 0) (v1 := 0) (u2 := 0) (v2 := 0) (r_X6_places (w9 := C.1 1) (t9 := C.1 2) rfl) (⟨_, _, _, _, rfl, rfl⟩) oX6_places q_783 q_391 q_1672 rfl (by omega) (by decide) rfl (Nat.le_of_ble_eq_true rfl) 21 rfl dX11_firstCells_18 rfl ?_
  refine a_icmp_le 28 24 rfl dX11_firstCells_21 (by decide) (fun _ => ?_) (fun hc => absurd (nI_le h9 (by omega)) hc)
  refine a_aload_n 0 29 rfl dX11_firstCells_28 rfl rfl ?_
  refine a_get 1 cl_10 f_RX11_21_10 (by decide) (rfl) rfl 32 rfl dX11_firstCells_29 ?_
  refine a_iload_n 1 33 rfl dX11_firstCells_32 rfl rfl ?_
  refine a_iload_n 2 34 rfl dX11_firstCells_33 rfl rfl ?_
  refine a_callU (as := [.int (nI o9), .int (nI m9)]) (C := RX6) (owner := "LeastShadows$Ground") (x := ⟨"LeastShadows$Grid", "firstBy", "(II)J"⟩) (rest := []) (st2 := [.long (f_firsts f2 (C.1 1 * C.1 2) (nI m9) (C.1 1 * C.1 2))]) (u1 := 0) (v1 := 0) (u2 := 0) (v2 := 0) (w) (⟨_, _, _, _, rfl, rfl⟩) oX7_firstBy ⟨q_784, q_785, q_786, q_628, ⟨by decide, by decide⟩, Or.inl rfl⟩ rfl (by omega) (by decide) rfl (Nat.le_of_ble_eq_true rfl) 37 rfl dX11_firstCells_34 rfl ?_
  refine a_eq (h2 := g_hp G (f_uI C 1 f2) tl) rfl rfl rfl (rfl) ?_
  exact a_lreturn rfl (rfl) (rfl) dX11_firstCells_37
theorem r_X11_leastCells_ref (hp : C.1 1 * C.1 2 ≤ 64) (hr : ¬ f_ref1 (C.1 1 * C.1 2) y y2 = 0) : g_Run G mX11_leastCells 6 0 0 [.ref (g_ad G 0), .int y, .int y2] (g_hp G C tl) (some (.int (f_ref1 (C.1 1 * C.1 2) y y2))) (g_hp G C tl) := by
  refine g_Run.of (lv := [(0, .ref (g_ad G 0)), (1, .int y), (2, .int y2)]) (by decide) (Nat.le_of_ble_eq_true rfl) rfl ?_
  refine a_aload_n 0 1 rfl dX11_leastCells_0 rfl rfl ?_
  refine a_get 1 cl_10 f_RX11_21_10 (by decide) (rfl) rfl 4 rfl dX11_leastCells_1 ?_
  refine a_iload_n 1 5 rfl dX11_leastCells_4 rfl rfl ?_
  refine a_iload_n 2 6 rfl dX11_leastCells_5 rfl rfl ?_
  refine a_callS (as := [.ref (g_ad G 3), .int y, .int y2]) (rest := []) (st2 := [.int (f_ref1 (C.1 1 * C.1 2) y y2)]) (u1 := 0) (v1 := 0) (u2 := 0) (v2 := 0) (r_ref_grid hp) oX11_refusalOfLeastOn q_638 q_639 rfl (by omega) (by decide) rfl (Nat.le_of_ble_eq_true rfl) 9 rfl dX11_leastCells_6 rfl ?_
  refine a_istore_n (lv' := [(3, .int (f_ref1 (C.1 1 * C.1 2) y y2)), (0, .ref (g_ad G 0)), (1, .int y), (2, .int y2)]) 10 rfl dX11_leastCells_9 rfl (by decide) rfl ?_
  refine a_iload_n 0 11 rfl dX11_leastCells_10 rfl rfl ?_
  refine a_if_eq 18 14 rfl dX11_leastCells_11 (by decide) (fun hc => absurd hc (hr)) (fun _ => ?_)
  refine a_iload_n 0 15 rfl dX11_leastCells_14 rfl rfl ?_
  refine a_goto 42 dX11_leastCells_15 (by decide) ?_
  exact a_ireturn .int rfl rfl (rfl) (rfl) dX11_leastCells_42
theorem r_X11_leastCells0 (hp : C.1 1 * C.1 2 ≤ 64) (ht : C.1 2 ≤ 8) (hr : f_ref1 (C.1 1 * C.1 2) 0 y2 = 0) : g_Run G mX11_leastCells 6 0 0 [.ref (g_ad G 0), .int 0, .int y2] (g_hp G C tl) (some (.int ((fun x => f_bcL (f_borderG (C.1 1) (C.1 2) x)) (f_lo (fun x => f_bcL (f_borderG (C.1 1) (C.1 2) x)) y2 (f_all (C.1 1 * C.1 2)))))) (g_hp G C tl) := by
  refine g_Run.of (lv := [(0, .ref (g_ad G 0)), (1, .int 0), (2, .int y2)]) (by decide) (Nat.le_of_ble_eq_true rfl) rfl ?_
  refine a_aload_n 0 1 rfl dX11_leastCells_0 rfl rfl ?_
  refine a_get 1 cl_10 f_RX11_21_10 (by decide) (rfl) rfl 4 rfl dX11_leastCells_1 ?_
  refine a_iload_n 1 5 rfl dX11_leastCells_4 rfl rfl ?_
  refine a_iload_n 2 6 rfl dX11_leastCells_5 rfl rfl ?_
  refine a_callS (as := [.ref (g_ad G 3), .int 0, .int y2]) (rest := []) (st2 := [.int (f_ref1 (C.1 1 * C.1 2) 0 y2)]) (u1 := 0) (v1 := 0) (u2 := 0) (v2 := 0) (r_ref_grid hp) oX11_refusalOfLeastOn q_638 q_639 rfl (by omega) (by decide) rfl (Nat.le_of_ble_eq_true rfl) 9 rfl dX11_leastCells_6 rfl ?_
  refine a_istore_n (lv' := [(3, .int (f_ref1 (C.1 1 * C.1 2) 0 y2)), (0, .ref (g_ad G 0)), (1, .int 0), (2, .int y2)]) 10 rfl dX11_leastCells_9 rfl (by decide) rfl ?_
  refine a_iload_n 0 11 rfl dX11_leastCells_10 rfl rfl ?_
  refine a_if_eq 18 14 rfl dX11_leastCells_11 (by decide) (fun _ => ?_) (fun hc => absurd (hr) hc)
  refine a_aload_n 1 19 rfl dX11_leastCells_18 rfl rfl ?_
  refine a_get 1 cl_10 f_RX11_21_10 (by decide) (rfl) rfl 22 rfl dX11_leastCells_19 ?_
  refine a_iload_n 2 23 rfl dX11_leastCells_22 rfl rfl ?_
  refine a_aload_n 1 24 rfl dX11_leastCells_23 rfl rfl ?_
  refine a_get 1 cl_10 f_RX11_21_10 (by decide) (rfl) rfl 27 rfl dX11_leastCells_24 ?_
  refine a_iload_n 2 28 rfl dX11_leastCells_27 rfl rfl ?_
  refine a_iload_n 3 29 rfl dX11_leastCells_28 rfl rfl ?_
  refine a_aload_n 1 30 rfl dX11_leastCells_29 rfl rfl ?_
  refine a_get 1 cl_10 f_RX11_21_10 (by decide) (rfl) rfl 33 rfl dX11_leastCells_30 ?_
  refine a_callU (as := []) (C := RX6) (owner := "LeastShadows$Ground") (x := ⟨"LeastShadows$Grid", "all", "()J"⟩) (rest := [.int y2, .int 0, .ref (g_ad G 3), .int 0, .ref (g_ad G 3)]) (st2 := [.long (f_all (C.1 1 * C.1 2)), .int y2, .int 0, .ref (g_ad G 3), .int 0, .ref (g_ad G 3)]) (u1 := 0) (v1 := 0) (u2 := 0) (v2 := 0) (r_all_grid (w9 := C.1 1) (t9 := C.1 2) rfl hp) (⟨_, _, _, _, rfl, rfl⟩) oX7_all ⟨q_791, q_679, q_680, q_379, ⟨by decide, by decide⟩, Or.inl rfl⟩ rfl (by omega) (by decide) rfl (Nat.le_of_ble_eq_true rfl) 36 rfl dX11_leastCells_33 rfl ?_
  refine a_callU (as := [.int 0, .int y2, .long (f_all (C.1 1 * C.1 2))]) (C := RX6) (owner := "LeastShadows$Ground") (x := ⟨"LeastShadows$Grid", "leastOf", "(IIJ)J"⟩) (rest := [.int 0, .ref (g_ad G 3)]) (st2 := [.long (f_lo (fun x => f_bcL (f_borderG (C.1 1) (C.1 2) x)) y2 (f_all (C.1 1 * C.1 2))), .int 0, .ref (g_ad G 3)]) (u1 := 0) (v1 := 0) (u2 := 0) (v2 := 0) (r_lo_grid0 hp ht) (⟨_, _, _, _, rfl, rfl⟩) oX7_leastOf ⟨q_792, q_793, q_794, q_652, ⟨by decide, by decide⟩, Or.inl rfl⟩ rfl (by omega) (by decide) rfl (Nat.le_of_ble_eq_true rfl) 39 rfl dX11_leastCells_36 rfl ?_
  refine a_callV (as := [.int 0, .long (f_lo (fun x => f_bcL (f_borderG (C.1 1) (C.1 2) x)) y2 (f_all (C.1 1 * C.1 2)))]) (rest := []) (st2 := [.int ((fun x => f_bcL (f_borderG (C.1 1) (C.1 2) x)) (f_lo (fun x => f_bcL (f_borderG (C.1 1) (C.1 2) x)) y2 (f_all (C.1 1 * C.1 2))))]) (u1 := 0) (v1 := 0) (u2 := 0) (v2 := 0) (r_X6_measure0 (w9 := C.1 1) (t9 := C.1 2) rfl hp ht) (⟨_, _, _, _, rfl, rfl⟩) oX6_measure q_773 q_667 q_1671 rfl (by omega) (by decide) rfl (Nat.le_of_ble_eq_true rfl) 42 rfl dX11_leastCells_39 rfl ?_
  exact a_ireturn .int rfl rfl (rfl) (rfl) dX11_leastCells_42
theorem r_X11_cells0 (hp : C.1 1 * C.1 2 ≤ 64) (ht : C.1 2 ≤ 8) (hx : x &&& (f_all (C.1 1 * C.1 2) ^^^ (-1)) = 0) : g_Run G mX11_cells 6 0 0 [.ref (g_ad G 0), .long x, .int 0] (g_hp G C tl) (some (.int ((fun x => f_bcL (f_borderG (C.1 1) (C.1 2) x)) x))) (g_hp G C tl) := by
  refine g_Run.of (lv := [(0, .ref (g_ad G 0)), (1, .long x), (3, .int 0)]) (by decide) (Nat.le_of_ble_eq_true rfl) rfl ?_
  refine a_aload_n 0 1 rfl dX11_cells_0 rfl rfl ?_
  refine a_get 1 cl_10 f_RX11_21_10 (by decide) (rfl) rfl 4 rfl dX11_cells_1 ?_
  refine a_lload_n 1 5 rfl dX11_cells_4 rfl rfl ?_
  refine a_callU (as := [.long x]) (C := RX6) (owner := "LeastShadows$Ground") (x := ⟨"LeastShadows$Grid", "holds", "(J)Z"⟩) (rest := []) (st2 := [.int (if x &&& (f_all (C.1 1 * C.1 2) ^^^ (-1)) = 0 then 1 else 0)]) (u1 := 0) (v1 := 0) (u2 := 0) (v2 := 0) (r_holds_grid (w9 := C.1 1) (t9 := C.1 2) rfl hp) (⟨_, _, _, _, rfl, rfl⟩) oX7_holds ⟨q_770, q_771, q_772, q_376, ⟨by decide, by decide⟩, Or.inl rfl⟩ rfl (by omega) (by decide) rfl (Nat.le_of_ble_eq_true rfl) 8 rfl dX11_cells_5 rfl ?_
  refine a_if_eq 20 11 rfl dX11_cells_8 (by decide) (fun hc => absurd hc ((by rw [if_pos hx]; decide))) (fun _ => ?_)
  refine a_iload_n 2 12 rfl dX11_cells_11 rfl rfl ?_
  refine a_if_lt 20 15 rfl dX11_cells_12 (by decide) (fun hc => absurd hc ((by decide))) (fun _ => ?_)
  refine a_iload_n 2 16 rfl dX11_cells_15 rfl rfl ?_
  refine a_iconst (x := 1) 17 rfl dX11_cells_16 (by decide) ?_
  refine a_icmp_le 24 20 rfl dX11_cells_17 (by decide) (fun _ => ?_) (fun hc => absurd ((by decide)) hc)
  refine a_aload_n 0 25 rfl dX11_cells_24 rfl rfl ?_
  refine a_get 1 cl_10 f_RX11_21_10 (by decide) (rfl) rfl 28 rfl dX11_cells_25 ?_
  refine a_iload_n 2 29 rfl dX11_cells_28 rfl rfl ?_
  refine a_lload_n 1 30 rfl dX11_cells_29 rfl rfl ?_
  refine a_callV (as := [.int 0, .long x]) (rest := []) (st2 := [.int ((fun x => f_bcL (f_borderG (C.1 1) (C.1 2) x)) x)]) (u1 := 0) (v1 := 0) (u2 := 0) (v2 := 0) (r_X6_measure0 (w9 := C.1 1) (t9 := C.1 2) rfl hp ht) (⟨_, _, _, _, rfl, rfl⟩) oX6_measure q_773 q_667 q_1671 rfl (by omega) (by decide) rfl (Nat.le_of_ble_eq_true rfl) 33 rfl dX11_cells_30 rfl ?_
  exact a_ireturn .int rfl rfl (rfl) (rfl) dX11_cells_33

theorem r_X11_leastCells1 (hp : C.1 1 * C.1 2 ≤ 64) (ht : C.1 2 ≤ 8) (hr : f_ref1 (C.1 1 * C.1 2) 1 y2 = 0) : g_Run G mX11_leastCells 6 0 0 [.ref (g_ad G 0), .int 1, .int y2] (g_hp G C tl) (some (.int ((f_edgesG (C.1 1) (C.1 2)) (f_lo (f_edgesG (C.1 1) (C.1 2)) y2 (f_all (C.1 1 * C.1 2)))))) (g_hp G C tl) := by
  refine g_Run.of (lv := [(0, .ref (g_ad G 0)), (1, .int 1), (2, .int y2)]) (by decide) (Nat.le_of_ble_eq_true rfl) rfl ?_
  refine a_aload_n 0 1 rfl dX11_leastCells_0 rfl rfl ?_
  refine a_get 1 cl_10 f_RX11_21_10 (by decide) (rfl) rfl 4 rfl dX11_leastCells_1 ?_
  refine a_iload_n 1 5 rfl dX11_leastCells_4 rfl rfl ?_
  refine a_iload_n 2 6 rfl dX11_leastCells_5 rfl rfl ?_
  refine a_callS (as := [.ref (g_ad G 3), .int 1, .int y2]) (rest := []) (st2 := [.int (f_ref1 (C.1 1 * C.1 2) 1 y2)]) (u1 := 0) (v1 := 0) (u2 := 0) (v2 := 0) (r_ref_grid hp) oX11_refusalOfLeastOn q_638 q_639 rfl (by omega) (by decide) rfl (Nat.le_of_ble_eq_true rfl) 9 rfl dX11_leastCells_6 rfl ?_
  refine a_istore_n (lv' := [(3, .int (f_ref1 (C.1 1 * C.1 2) 1 y2)), (0, .ref (g_ad G 0)), (1, .int 1), (2, .int y2)]) 10 rfl dX11_leastCells_9 rfl (by decide) rfl ?_
  refine a_iload_n 0 11 rfl dX11_leastCells_10 rfl rfl ?_
  refine a_if_eq 18 14 rfl dX11_leastCells_11 (by decide) (fun _ => ?_) (fun hc => absurd (hr) hc)
  refine a_aload_n 1 19 rfl dX11_leastCells_18 rfl rfl ?_
  refine a_get 1 cl_10 f_RX11_21_10 (by decide) (rfl) rfl 22 rfl dX11_leastCells_19 ?_
  refine a_iload_n 2 23 rfl dX11_leastCells_22 rfl rfl ?_
  refine a_aload_n 1 24 rfl dX11_leastCells_23 rfl rfl ?_
  refine a_get 1 cl_10 f_RX11_21_10 (by decide) (rfl) rfl 27 rfl dX11_leastCells_24 ?_
  refine a_iload_n 2 28 rfl dX11_leastCells_27 rfl rfl ?_
  refine a_iload_n 3 29 rfl dX11_leastCells_28 rfl rfl ?_
  refine a_aload_n 1 30 rfl dX11_leastCells_29 rfl rfl ?_
  refine a_get 1 cl_10 f_RX11_21_10 (by decide) (rfl) rfl 33 rfl dX11_leastCells_30 ?_
  refine a_callU (as := []) (C := RX6) (owner := "LeastShadows$Ground") (x := ⟨"LeastShadows$Grid", "all", "()J"⟩) (rest := [.int y2, .int 1, .ref (g_ad G 3), .int 1, .ref (g_ad G 3)]) (st2 := [.long (f_all (C.1 1 * C.1 2)), .int y2, .int 1, .ref (g_ad G 3), .int 1, .ref (g_ad G 3)]) (u1 := 0) (v1 := 0) (u2 := 0) (v2 := 0) (r_all_grid (w9 := C.1 1) (t9 := C.1 2) rfl hp) (⟨_, _, _, _, rfl, rfl⟩) oX7_all ⟨q_791, q_679, q_680, q_379, ⟨by decide, by decide⟩, Or.inl rfl⟩ rfl (by omega) (by decide) rfl (Nat.le_of_ble_eq_true rfl) 36 rfl dX11_leastCells_33 rfl ?_
  refine a_callU (as := [.int 1, .int y2, .long (f_all (C.1 1 * C.1 2))]) (C := RX6) (owner := "LeastShadows$Ground") (x := ⟨"LeastShadows$Grid", "leastOf", "(IIJ)J"⟩) (rest := [.int 1, .ref (g_ad G 3)]) (st2 := [.long (f_lo (f_edgesG (C.1 1) (C.1 2)) y2 (f_all (C.1 1 * C.1 2))), .int 1, .ref (g_ad G 3)]) (u1 := 0) (v1 := 0) (u2 := 0) (v2 := 0) (r_lo_grid1 hp ht) (⟨_, _, _, _, rfl, rfl⟩) oX7_leastOf ⟨q_792, q_793, q_794, q_652, ⟨by decide, by decide⟩, Or.inl rfl⟩ rfl (by omega) (by decide) rfl (Nat.le_of_ble_eq_true rfl) 39 rfl dX11_leastCells_36 rfl ?_
  refine a_callV (as := [.int 1, .long (f_lo (f_edgesG (C.1 1) (C.1 2)) y2 (f_all (C.1 1 * C.1 2)))]) (rest := []) (st2 := [.int ((f_edgesG (C.1 1) (C.1 2)) (f_lo (f_edgesG (C.1 1) (C.1 2)) y2 (f_all (C.1 1 * C.1 2))))]) (u1 := 0) (v1 := 0) (u2 := 0) (v2 := 0) (r_X6_measure1 (w9 := C.1 1) (t9 := C.1 2) rfl hp ht) (⟨_, _, _, _, rfl, rfl⟩) oX6_measure q_773 q_667 q_1671 rfl (by omega) (by decide) rfl (Nat.le_of_ble_eq_true rfl) 42 rfl dX11_leastCells_39 rfl ?_
  exact a_ireturn .int rfl rfl (rfl) (rfl) dX11_leastCells_42
theorem r_X11_cells1 (hp : C.1 1 * C.1 2 ≤ 64) (ht : C.1 2 ≤ 8) (hx : x &&& (f_all (C.1 1 * C.1 2) ^^^ (-1)) = 0) : g_Run G mX11_cells 6 0 0 [.ref (g_ad G 0), .long x, .int 1] (g_hp G C tl) (some (.int ((f_edgesG (C.1 1) (C.1 2)) x))) (g_hp G C tl) := by
  refine g_Run.of (lv := [(0, .ref (g_ad G 0)), (1, .long x), (3, .int 1)]) (by decide) (Nat.le_of_ble_eq_true rfl) rfl ?_
  refine a_aload_n 0 1 rfl dX11_cells_0 rfl rfl ?_
  refine a_get 1 cl_10 f_RX11_21_10 (by decide) (rfl) rfl 4 rfl dX11_cells_1 ?_
  refine a_lload_n 1 5 rfl dX11_cells_4 rfl rfl ?_
  refine a_callU (as := [.long x]) (C := RX6) (owner := "LeastShadows$Ground") (x := ⟨"LeastShadows$Grid", "holds", "(J)Z"⟩) (rest := []) (st2 := [.int (if x &&& (f_all (C.1 1 * C.1 2) ^^^ (-1)) = 0 then 1 else 0)]) (u1 := 0) (v1 := 0) (u2 := 0) (v2 := 0) (r_holds_grid (w9 := C.1 1) (t9 := C.1 2) rfl hp) (⟨_, _, _, _, rfl, rfl⟩) oX7_holds ⟨q_770, q_771, q_772, q_376, ⟨by decide, by decide⟩, Or.inl rfl⟩ rfl (by omega) (by decide) rfl (Nat.le_of_ble_eq_true rfl) 8 rfl dX11_cells_5 rfl ?_
  refine a_if_eq 20 11 rfl dX11_cells_8 (by decide) (fun hc => absurd hc ((by rw [if_pos hx]; decide))) (fun _ => ?_)
  refine a_iload_n 2 12 rfl dX11_cells_11 rfl rfl ?_
  refine a_if_lt 20 15 rfl dX11_cells_12 (by decide) (fun hc => absurd hc ((by decide))) (fun _ => ?_)
  refine a_iload_n 2 16 rfl dX11_cells_15 rfl rfl ?_
  refine a_iconst (x := 1) 17 rfl dX11_cells_16 (by decide) ?_
  refine a_icmp_le 24 20 rfl dX11_cells_17 (by decide) (fun _ => ?_) (fun hc => absurd ((by decide)) hc)
  refine a_aload_n 0 25 rfl dX11_cells_24 rfl rfl ?_
  refine a_get 1 cl_10 f_RX11_21_10 (by decide) (rfl) rfl 28 rfl dX11_cells_25 ?_
  refine a_iload_n 2 29 rfl dX11_cells_28 rfl rfl ?_
  refine a_lload_n 1 30 rfl dX11_cells_29 rfl rfl ?_
  refine a_callV (as := [.int 1, .long x]) (rest := []) (st2 := [.int ((f_edgesG (C.1 1) (C.1 2)) x)]) (u1 := 0) (v1 := 0) (u2 := 0) (v2 := 0) (r_X6_measure1 (w9 := C.1 1) (t9 := C.1 2) rfl hp ht) (⟨_, _, _, _, rfl, rfl⟩) oX6_measure q_773 q_667 q_1671 rfl (by omega) (by decide) rfl (Nat.le_of_ble_eq_true rfl) 33 rfl dX11_cells_30 rfl ?_
  exact a_ireturn .int rfl rfl (rfl) (rfl) dX11_cells_33

theorem r_X11_cells_out (hp : C.1 1 * C.1 2 ≤ 64) (hy : ¬ x &&& (f_all (C.1 1 * C.1 2) ^^^ (-1)) = 0 ∨ y < 0 ∨ ¬ y ≤ 1) : g_Run G mX11_cells 6 0 0 [.ref (g_ad G 0), .long x, .int y] (g_hp G C tl) (some (.int (-1))) (g_hp G C tl) := by
  refine g_Run.of (lv := [(0, .ref (g_ad G 0)), (1, .long x), (3, .int y)]) (by decide) (Nat.le_of_ble_eq_true rfl) rfl ?_
  refine a_aload_n 0 1 rfl dX11_cells_0 rfl rfl ?_
  refine a_get 1 cl_10 f_RX11_21_10 (by decide) (rfl) rfl 4 rfl dX11_cells_1 ?_
  refine a_lload_n 1 5 rfl dX11_cells_4 rfl rfl ?_
  refine a_callU (as := [.long x]) (C := RX6) (owner := "LeastShadows$Ground") (x := ⟨"LeastShadows$Grid", "holds", "(J)Z"⟩) (rest := []) (st2 := [.int (if x &&& (f_all (C.1 1 * C.1 2) ^^^ (-1)) = 0 then 1 else 0)]) (u1 := 0) (v1 := 0) (u2 := 0) (v2 := 0) (r_holds_grid (w9 := C.1 1) (t9 := C.1 2) rfl hp) (⟨_, _, _, _, rfl, rfl⟩) oX7_holds ⟨q_770, q_771, q_772, q_376, ⟨by decide, by decide⟩, Or.inl rfl⟩ rfl (by omega) (by decide) rfl (Nat.le_of_ble_eq_true rfl) 8 rfl dX11_cells_5 rfl ?_
  by_cases hx : x &&& (f_all (C.1 1 * C.1 2) ^^^ (-1)) = 0
  · skip
    refine a_if_eq 20 11 rfl dX11_cells_8 (by decide) (fun hc => absurd hc ((by rw [if_pos hx]; decide))) (fun _ => ?_)
    refine a_iload_n 2 12 rfl dX11_cells_11 rfl rfl ?_
    refine a_if_lt 20 15 rfl dX11_cells_12 (by decide) (fun c12 => ?_) (fun c12 => ?_)
    refine a_iconst (x := (-1)) 21 rfl dX11_cells_20 (by decide) ?_
    refine a_goto 33 dX11_cells_21 (by decide) ?_
    exact a_ireturn .int rfl rfl (rfl) (rfl) dX11_cells_33
    refine a_iload_n 2 16 rfl dX11_cells_15 rfl rfl ?_
    refine a_iconst (x := 1) 17 rfl dX11_cells_16 (by decide) ?_
    refine a_icmp_le 24 20 rfl dX11_cells_17 (by decide) (fun hc => absurd hc (((hy.resolve_left (fun z => z hx)).resolve_left c12))) (fun _ => ?_)
    refine a_iconst (x := (-1)) 21 rfl dX11_cells_20 (by decide) ?_
    refine a_goto 33 dX11_cells_21 (by decide) ?_
    exact a_ireturn .int rfl rfl (rfl) (rfl) dX11_cells_33
  · skip
    refine a_if_eq 20 11 rfl dX11_cells_8 (by decide) (fun _ => ?_) (fun hc => absurd ((by rw [if_neg hx])) hc)
    refine a_iconst (x := (-1)) 21 rfl dX11_cells_20 (by decide) ?_
    refine a_goto 33 dX11_cells_21 (by decide) ?_
    exact a_ireturn .int rfl rfl (rfl) (rfl) dX11_cells_33
theorem r_X11_border (hp : C.1 1 * C.1 2 ≤ 64) (ht : C.1 2 ≤ 8) (hx : x &&& (f_all (C.1 1 * C.1 2) ^^^ (-1)) = 0) : g_Run G mX11_border 6 0 0 [.ref (g_ad G 0), .long x] (g_hp G C tl) (some (.long (f_borderG (C.1 1) (C.1 2) x))) (g_hp G C tl) := by
  refine g_Run.of (lv := [(0, .ref (g_ad G 0)), (1, .long x)]) (by decide) (Nat.le_of_ble_eq_true rfl) rfl ?_
  refine a_aload_n 0 1 rfl dX11_border_0 rfl rfl ?_
  refine a_get 1 cl_10 f_RX11_21_10 (by decide) (rfl) rfl 4 rfl dX11_border_1 ?_
  refine a_lload_n 1 5 rfl dX11_border_4 rfl rfl ?_
  refine a_callU (as := [.long x]) (C := RX6) (owner := "LeastShadows$Ground") (x := ⟨"LeastShadows$Grid", "holds", "(J)Z"⟩) (rest := []) (st2 := [.int (if x &&& (f_all (C.1 1 * C.1 2) ^^^ (-1)) = 0 then 1 else 0)]) (u1 := 0) (v1 := 0) (u2 := 0) (v2 := 0) (r_holds_grid (w9 := C.1 1) (t9 := C.1 2) rfl hp) (⟨_, _, _, _, rfl, rfl⟩) oX7_holds ⟨q_770, q_771, q_772, q_376, ⟨by decide, by decide⟩, Or.inl rfl⟩ rfl (by omega) (by decide) rfl (Nat.le_of_ble_eq_true rfl) 8 rfl dX11_border_5 rfl ?_
  refine a_if_eq 22 11 rfl dX11_border_8 (by decide) (fun hc => absurd hc ((by rw [if_pos hx]; decide))) (fun _ => ?_)
  refine a_aload_n 0 12 rfl dX11_border_11 rfl rfl ?_
  refine a_get 1 cl_10 f_RX11_21_10 (by decide) (rfl) rfl 15 rfl dX11_border_12 ?_
  refine a_lload_n 1 16 rfl dX11_border_15 rfl rfl ?_
  refine a_callVN (as := [.long x]) (rest := []) (st2 := [.long (f_borderG (C.1 1) (C.1 2) x)]) (u1 := 0) (v1 := 0) (u2 := 0) (v2 := 0) (r_X6_borderOf (w9 := C.1 1) (t9 := C.1 2) rfl hp ht) (⟨_, _, _, _, rfl, rfl⟩) oX6_borderOf q_778 q_671 q_31 rfl (by omega) (by decide) rfl (Nat.le_of_ble_eq_true rfl) 19 rfl dX11_border_16 rfl ?_
  refine a_goto 25 dX11_border_19 (by decide) ?_
  exact a_lreturn rfl (rfl) (rfl) dX11_border_25
theorem r_X11_border_out (hp : C.1 1 * C.1 2 ≤ 64) (hx : ¬ x &&& (f_all (C.1 1 * C.1 2) ^^^ (-1)) = 0) : g_Run G mX11_border 6 0 0 [.ref (g_ad G 0), .long x] (g_hp G C tl) (some (.long (-9223372036854775808))) (g_hp G C tl) := by
  refine g_Run.of (lv := [(0, .ref (g_ad G 0)), (1, .long x)]) (by decide) (Nat.le_of_ble_eq_true rfl) rfl ?_
  refine a_aload_n 0 1 rfl dX11_border_0 rfl rfl ?_
  refine a_get 1 cl_10 f_RX11_21_10 (by decide) (rfl) rfl 4 rfl dX11_border_1 ?_
  refine a_lload_n 1 5 rfl dX11_border_4 rfl rfl ?_
  refine a_callU (as := [.long x]) (C := RX6) (owner := "LeastShadows$Ground") (x := ⟨"LeastShadows$Grid", "holds", "(J)Z"⟩) (rest := []) (st2 := [.int (if x &&& (f_all (C.1 1 * C.1 2) ^^^ (-1)) = 0 then 1 else 0)]) (u1 := 0) (v1 := 0) (u2 := 0) (v2 := 0) (r_holds_grid (w9 := C.1 1) (t9 := C.1 2) rfl hp) (⟨_, _, _, _, rfl, rfl⟩) oX7_holds ⟨q_770, q_771, q_772, q_376, ⟨by decide, by decide⟩, Or.inl rfl⟩ rfl (by omega) (by decide) rfl (Nat.le_of_ble_eq_true rfl) 8 rfl dX11_border_5 rfl ?_
  refine a_if_eq 22 11 rfl dX11_border_8 (by decide) (fun _ => ?_) (fun hc => absurd ((by rw [if_neg hx])) hc)
  refine a_ldc2 q_466 25 rfl dX11_border_22 ?_
  exact a_lreturn rfl (rfl) (rfl) dX11_border_25
theorem r_X11_grid {w9 t9 : Nat} (h1 : 1 ≤ w9) (h2 : w9 ≤ 8) (h3 : 1 ≤ t9) (h4 : t9 ≤ 8) : g_Run G mX11_grid 2 0 0 [.ref (g_ad G 0), .int (nI w9), .int (nI t9)] (g_hp G C tl) (some (.int (10 * nI (C.1 1) + nI (C.1 2)))) (g_hp G (f_un (f_un C 1 w9) 2 t9) tl) := by
  refine g_Run.of (lv := [(0, .ref (g_ad G 0)), (1, .int (nI w9)), (2, .int (nI t9))]) (by decide) (Nat.le_of_ble_eq_true rfl) rfl ?_
  refine a_iload_n 1 1 rfl dX11_grid_0 rfl rfl ?_
  refine a_iconst (x := 1) 2 rfl dX11_grid_1 (by decide) ?_
  refine a_icmp_lt 22 5 rfl dX11_grid_2 (by decide) (fun hc => absurd hc (nI_nlt (b := 1) h1 (by omega))) (fun _ => ?_)
  refine a_iload_n 1 6 rfl dX11_grid_5 rfl rfl ?_
  refine a_bipush (x := 8) 8 rfl dX11_grid_6 (by decide) ?_
  refine a_icmp_gt 22 11 rfl dX11_grid_8 (by decide) (fun hc => absurd hc (nI_nlt (a := 8) h2 (by omega))) (fun _ => ?_)
  refine a_iload_n 2 12 rfl dX11_grid_11 rfl rfl ?_
  refine a_iconst (x := 1) 13 rfl dX11_grid_12 (by decide) ?_
  refine a_icmp_lt 22 16 rfl dX11_grid_13 (by decide) (fun hc => absurd hc (nI_nlt (b := 1) h3 (by omega))) (fun _ => ?_)
  refine a_iload_n 2 17 rfl dX11_grid_16 rfl rfl ?_
  refine a_bipush (x := 8) 19 rfl dX11_grid_17 (by decide) ?_
  refine a_icmp_le 24 22 rfl dX11_grid_19 (by decide) (fun _ => ?_) (fun hc => absurd ((nI_le (b := 8) h4 (by omega))) hc)
  refine a_bipush (x := 10) 26 rfl dX11_grid_24 (by decide) ?_
  refine a_aload_n 0 27 rfl dX11_grid_26 rfl rfl ?_
  refine a_get 1 cl_10 f_RX11_21_10 (by decide) (rfl) rfl 30 rfl dX11_grid_27 ?_
  refine a_callVN (as := []) (rest := [.int 10]) (st2 := [.int (nI (C.1 1)), .int 10]) (u1 := 0) (v1 := 0) (u2 := 0) (v2 := 0) (r_X6_width rfl) (⟨_, _, _, _, rfl, rfl⟩) oX6_width q_754 q_756 q_38 rfl (by omega) (by decide) rfl (Nat.le_of_ble_eq_true rfl) 33 rfl dX11_grid_30 rfl ?_
  refine a_imul 34 rfl dX11_grid_33 ?_
  refine a_aload_n 0 35 rfl dX11_grid_34 rfl rfl ?_
  refine a_get 1 cl_10 f_RX11_21_10 (by decide) (rfl) rfl 38 rfl dX11_grid_35 ?_
  refine a_callVN (as := []) (rest := [.int (10 * (nI (C.1 1)))]) (st2 := [.int (nI (C.1 2)), .int (10 * (nI (C.1 1)))]) (u1 := 0) (v1 := 0) (u2 := 0) (v2 := 0) (r_X6_height rfl) (⟨_, _, _, _, rfl, rfl⟩) oX6_height q_758 q_760 q_39 rfl (by omega) (by decide) rfl (Nat.le_of_ble_eq_true rfl) 41 rfl dX11_grid_38 rfl ?_
  refine a_iadd 42 rfl dX11_grid_41 ?_
  refine a_istore_n (lv' := [(3, .int ((10 * (nI (C.1 1))) + (nI (C.1 2)))), (0, .ref (g_ad G 0)), (1, .int (nI w9)), (2, .int (nI t9))]) 43 rfl dX11_grid_42 rfl (by decide) rfl ?_
  refine a_aload_n 1 44 rfl dX11_grid_43 rfl rfl ?_
  refine a_get 1 cl_10 f_RX11_21_10 (by decide) (rfl) rfl 47 rfl dX11_grid_44 ?_
  refine a_iload_n 2 48 rfl dX11_grid_47 rfl rfl ?_
  refine a_iload_n 3 49 rfl dX11_grid_48 rfl rfl ?_
  refine a_callVN (as := [.int (nI w9), .int (nI t9)]) (rest := []) (st2 := []) (u1 := 0) (v1 := 0) (u2 := 0) (v2 := 0) (r_X6_reshape (y := nI (C.1 1)) (y2 := nI (C.1 2)) rfl) (⟨_, _, _, _, rfl, rfl⟩) oX6_reshape q_762 q_764 q_40 rfl (by omega) (by decide) rfl (Nat.le_of_ble_eq_true rfl) 52 rfl dX11_grid_49 rfl ?_
  refine a_eq (h2 := g_hp G (f_un (f_un C 1 w9) 2 t9) tl) rfl rfl rfl (rfl) ?_
  refine a_iload_n 0 53 rfl dX11_grid_52 rfl rfl ?_
  exact a_ireturn .int rfl rfl (rfl) (rfl) dX11_grid_53
theorem r_X11_grid_out (hy : y < 1 ∨ 8 < y ∨ y2 < 1 ∨ ¬ y2 ≤ 8) : g_Run G mX11_grid 2 0 0 [.ref (g_ad G 0), .int y, .int y2] (g_hp G C tl) (some (.int (-1))) (g_hp G C tl) := by
  refine g_Run.of (lv := [(0, .ref (g_ad G 0)), (1, .int y), (2, .int y2)]) (by decide) (Nat.le_of_ble_eq_true rfl) rfl ?_
  refine a_iload_n 1 1 rfl dX11_grid_0 rfl rfl ?_
  refine a_iconst (x := 1) 2 rfl dX11_grid_1 (by decide) ?_
  refine a_icmp_lt 22 5 rfl dX11_grid_2 (by decide) (fun c2 => ?_) (fun c2 => ?_)
  refine a_iconst (x := (-1)) 23 rfl dX11_grid_22 (by decide) ?_
  exact a_ireturn .int rfl rfl (rfl) (rfl) dX11_grid_23
  refine a_iload_n 1 6 rfl dX11_grid_5 rfl rfl ?_
  refine a_bipush (x := 8) 8 rfl dX11_grid_6 (by decide) ?_
  refine a_icmp_gt 22 11 rfl dX11_grid_8 (by decide) (fun c8 => ?_) (fun c8 => ?_)
  refine a_iconst (x := (-1)) 23 rfl dX11_grid_22 (by decide) ?_
  exact a_ireturn .int rfl rfl (rfl) (rfl) dX11_grid_23
  refine a_iload_n 2 12 rfl dX11_grid_11 rfl rfl ?_
  refine a_iconst (x := 1) 13 rfl dX11_grid_12 (by decide) ?_
  refine a_icmp_lt 22 16 rfl dX11_grid_13 (by decide) (fun c13 => ?_) (fun c13 => ?_)
  refine a_iconst (x := (-1)) 23 rfl dX11_grid_22 (by decide) ?_
  exact a_ireturn .int rfl rfl (rfl) (rfl) dX11_grid_23
  refine a_iload_n 2 17 rfl dX11_grid_16 rfl rfl ?_
  refine a_bipush (x := 8) 19 rfl dX11_grid_17 (by decide) ?_
  refine a_icmp_le 24 22 rfl dX11_grid_19 (by decide) (fun hc => absurd hc ((((hy.resolve_left c2).resolve_left c8).resolve_left c13))) (fun _ => ?_)
  refine a_iconst (x := (-1)) 23 rfl dX11_grid_22 (by decide) ?_
  exact a_ireturn .int rfl rfl (rfl) (rfl) dX11_grid_23
-- cascades
theorem r_noCas {m9 k9 : Nat} (h1 : m9 ≤ 2000000000) (h2 : 1 ≤ k9) (h3 : k9 ≤ 12) {h : List va_E} : g_Run G mX11_isNoCascade 1 0 0 [.int (nI m9), .int (nI k9)] h (some (.int 0)) h := by
  refine g_Run.of (lv := [(0, .int (nI m9)), (1, .int (nI k9))]) (by decide) (Nat.le_of_ble_eq_true rfl) rfl ?_
  refine a_iload_n 0 1 rfl dX11_isNoCascade_0 rfl rfl ?_
  refine a_if_lt 21 4 rfl dX11_isNoCascade_1 (by decide) (fun hc => absurd hc (nI_pos (by omega))) (fun _ => ?_)
  refine a_iload_n 0 5 rfl dX11_isNoCascade_4 rfl rfl ?_
  refine a_ldc q_712 7 rfl dX11_isNoCascade_5 ?_
  refine a_icmp_gt 21 10 rfl dX11_isNoCascade_7 (by decide) (fun hc => absurd hc (nI_nlt (a := 2000000000) h1 (by omega))) (fun _ => ?_)
  refine a_iload_n 1 11 rfl dX11_isNoCascade_10 rfl rfl ?_
  refine a_iconst (x := 1) 12 rfl dX11_isNoCascade_11 (by decide) ?_
  refine a_icmp_lt 21 15 rfl dX11_isNoCascade_12 (by decide) (fun hc => absurd hc (nI_nlt (b := 1) h2 (by omega))) (fun _ => ?_)
  refine a_iload_n 1 16 rfl dX11_isNoCascade_15 rfl rfl ?_
  refine a_bipush (x := 12) 18 rfl dX11_isNoCascade_16 (by decide) ?_
  refine a_icmp_le 25 21 rfl dX11_isNoCascade_18 (by decide) (fun _ => ?_) (fun hc => absurd ((nI_le (b := 12) h3 (by omega))) hc)
  refine a_iconst (x := 0) 26 rfl dX11_isNoCascade_25 (by decide) ?_
  exact a_ireturn .boolean rfl rfl (rfl) (rfl) dX11_isNoCascade_26
theorem r_noCas1 {h : List va_E} (hy : y < 0 ∨ 2000000000 < y ∨ y2 < 1 ∨ ¬ y2 ≤ 12) : g_Run G mX11_isNoCascade 1 0 0 [.int y, .int y2] h (some (.int 1)) h := by
  refine g_Run.of (lv := [(0, .int y), (1, .int y2)]) (by decide) (Nat.le_of_ble_eq_true rfl) rfl ?_
  refine a_iload_n 0 1 rfl dX11_isNoCascade_0 rfl rfl ?_
  refine a_if_lt 21 4 rfl dX11_isNoCascade_1 (by decide) (fun c1 => ?_) (fun c1 => ?_)
  refine a_iconst (x := 1) 22 rfl dX11_isNoCascade_21 (by decide) ?_
  refine a_goto 26 dX11_isNoCascade_22 (by decide) ?_
  exact a_ireturn .boolean rfl rfl (rfl) (rfl) dX11_isNoCascade_26
  refine a_iload_n 0 5 rfl dX11_isNoCascade_4 rfl rfl ?_
  refine a_ldc q_712 7 rfl dX11_isNoCascade_5 ?_
  refine a_icmp_gt 21 10 rfl dX11_isNoCascade_7 (by decide) (fun c7 => ?_) (fun c7 => ?_)
  refine a_iconst (x := 1) 22 rfl dX11_isNoCascade_21 (by decide) ?_
  refine a_goto 26 dX11_isNoCascade_22 (by decide) ?_
  exact a_ireturn .boolean rfl rfl (rfl) (rfl) dX11_isNoCascade_26
  refine a_iload_n 1 11 rfl dX11_isNoCascade_10 rfl rfl ?_
  refine a_iconst (x := 1) 12 rfl dX11_isNoCascade_11 (by decide) ?_
  refine a_icmp_lt 21 15 rfl dX11_isNoCascade_12 (by decide) (fun c12 => ?_) (fun c12 => ?_)
  refine a_iconst (x := 1) 22 rfl dX11_isNoCascade_21 (by decide) ?_
  refine a_goto 26 dX11_isNoCascade_22 (by decide) ?_
  exact a_ireturn .boolean rfl rfl (rfl) (rfl) dX11_isNoCascade_26
  refine a_iload_n 1 16 rfl dX11_isNoCascade_15 rfl rfl ?_
  refine a_bipush (x := 12) 18 rfl dX11_isNoCascade_16 (by decide) ?_
  refine a_icmp_le 25 21 rfl dX11_isNoCascade_18 (by decide) (fun hc => absurd hc ((((hy.resolve_left c1).resolve_left c7).resolve_left c12))) (fun _ => ?_)
  refine a_iconst (x := 1) 22 rfl dX11_isNoCascade_21 (by decide) ?_
  refine a_goto 26 dX11_isNoCascade_22 (by decide) ?_
  exact a_ireturn .boolean rfl rfl (rfl) (rfl) dX11_isNoCascade_26
theorem r_X11_bound_out (hy : y < 0 ∨ 2000000000 < y ∨ y2 < 1 ∨ ¬ y2 ≤ 12) : g_Run G mX11_bound 4 0 0 [.ref (g_ad G 0), .int y, .int y2] (g_hp G C tl) (some (.int (-1))) (g_hp G C tl) := by
  refine g_Run.of (lv := [(0, .ref (g_ad G 0)), (1, .int y), (2, .int y2)]) (by decide) (Nat.le_of_ble_eq_true rfl) rfl ?_
  refine a_iload_n 1 1 rfl dX11_bound_0 rfl rfl ?_
  refine a_iload_n 2 2 rfl dX11_bound_1 rfl rfl ?_
  refine a_callS (as := [.int y, .int y2]) (rest := []) (st2 := [.int 1]) (u1 := 0) (v1 := 0) (u2 := 0) (v2 := 0) (r_noCas1 hy) oX11_isNoCascade q_709 q_710 rfl (by omega) (by decide) rfl (Nat.le_of_ble_eq_true rfl) 5 rfl dX11_bound_2 rfl ?_
  refine a_if_eq 10 8 rfl dX11_bound_5 (by decide) (fun hc => absurd hc ((by decide))) (fun _ => ?_)
  refine a_iconst (x := (-1)) 9 rfl dX11_bound_8 (by decide) ?_
  exact a_ireturn .int rfl rfl (rfl) (rfl) dX11_bound_9
/-- the cells when a cascade is laid -/
def f_caC (C : f_C) (m9 k9 : Nat) : f_C := f_ul (f_ui (f_uI C 4 (f_lay (C.2.2.2.1 4) 0 (f_cas k9 m9))) 2 (nI (f_cas k9 m9).length)) (lN (f_cab k9 m9))
theorem r_lay {m9 k9 : Nat} (h1 : m9 ≤ 2000000000) (h3 : k9 ≤ 12) : g_Run G mX1_lay 3 0 0 [.ref (g_ad G 15), .int (nI m9), .int (nI k9)] (g_hp G C tl) none (g_hp G (f_caC C m9 k9) tl) := r_X1_lay (G := G) (h := g_hp G C tl) (a := 15) (ka := 16) (m0 := C.2.1 2) (b0 := C.2.2.1) (f0 := C.2.2.2.1 4) rfl rfl (by decide) h1 h3
theorem r_X11_bound {m9 k9 : Nat} (h1 : m9 ≤ 2000000000) (h2 : 1 ≤ k9) (h3 : k9 ≤ 12) : g_Run G mX11_bound 4 0 0 [.ref (g_ad G 0), .int (nI m9), .int (nI k9)] (g_hp G C tl) (some (.int (nI (f_cab k9 m9)))) (g_hp G (f_caC C m9 k9) tl) := by
  refine g_Run.of (lv := [(0, .ref (g_ad G 0)), (1, .int (nI m9)), (2, .int (nI k9))]) (by decide) (Nat.le_of_ble_eq_true rfl) rfl ?_
  refine a_iload_n 1 1 rfl dX11_bound_0 rfl rfl ?_
  refine a_iload_n 2 2 rfl dX11_bound_1 rfl rfl ?_
  refine a_callS (as := [.int (nI m9), .int (nI k9)]) (rest := []) (st2 := [.int 0]) (u1 := 0) (v1 := 0) (u2 := 0) (v2 := 0) (r_noCas h1 h2 h3) oX11_isNoCascade q_709 q_710 rfl (by omega) (by decide) rfl (Nat.le_of_ble_eq_true rfl) 5 rfl dX11_bound_2 rfl ?_
  refine a_if_eq 10 8 rfl dX11_bound_5 (by decide) (fun _ => ?_) (fun hc => absurd (rfl) hc)
  refine a_aload_n 0 11 rfl dX11_bound_10 rfl rfl ?_
  refine a_get 7 cl_10 f_RX11_52_10 (by decide) (rfl) rfl 14 rfl dX11_bound_11 ?_
  refine a_iload_n 1 15 rfl dX11_bound_14 rfl rfl ?_
  refine a_iload_n 2 16 rfl dX11_bound_15 rfl rfl ?_
  refine a_callVN (as := [.int (nI m9), .int (nI k9)]) (rest := []) (st2 := []) (u1 := 0) (v1 := 0) (u2 := 0) (v2 := 0) (r_lay h1 h3) (⟨_, _, _, _, rfl, rfl⟩) oX1_lay q_713 q_715 q_34 rfl (by omega) (by decide) rfl (Nat.le_of_ble_eq_true rfl) 19 rfl dX11_bound_16 rfl ?_
  refine a_eq (h2 := g_hp G (f_ul (f_ui (f_uI C 4 (f_lay (C.2.2.2.1 4) 0 (f_cas k9 m9))) 2 (nI (f_cas k9 m9).length)) (lN (f_cab k9 m9))) tl) rfl rfl rfl (rfl) ?_
  refine a_aload_n 0 20 rfl dX11_bound_19 rfl rfl ?_
  refine a_get 7 cl_10 f_RX11_52_10 (by decide) (rfl) rfl 23 rfl dX11_bound_20 ?_
  refine a_callVN (as := []) (rest := []) (st2 := [.long (lN (f_cab k9 m9))]) (u1 := 0) (v1 := 0) (u2 := 0) (v2 := 0) (r_X1_bounds rfl) (⟨_, _, _, _, rfl, rfl⟩) oX1_bounds q_741 q_743 q_37 rfl (by omega) (by decide) rfl (Nat.le_of_ble_eq_true rfl) 26 rfl dX11_bound_23 rfl ?_
  refine a_l2i 27 rfl dX11_bound_26 ?_
  refine a_eq (st2 := [.int (nI (f_cab k9 m9))]) rfl rfl (by rw [lN_i]) rfl ?_
  exact a_ireturn .int rfl rfl (rfl) (rfl) dX11_bound_27
theorem r_X11_cascade_out1 (hy : y < 0 ∨ 2000000000 < y ∨ y2 < 1 ∨ ¬ y2 ≤ 12) : g_Run G mX11_cascade 4 0 0 [.ref (g_ad G 0), .int y, .int y2, .int y3] (g_hp G C tl) (some (.int (-1))) (g_hp G C tl) := by
  refine g_Run.of (lv := [(0, .ref (g_ad G 0)), (1, .int y), (2, .int y2), (3, .int y3)]) (by decide) (Nat.le_of_ble_eq_true rfl) rfl ?_
  refine a_iload_n 1 1 rfl dX11_cascade_0 rfl rfl ?_
  refine a_iload_n 2 2 rfl dX11_cascade_1 rfl rfl ?_
  refine a_callS (as := [.int y, .int y2]) (rest := []) (st2 := [.int 1]) (u1 := 0) (v1 := 0) (u2 := 0) (v2 := 0) (r_noCas1 hy) oX11_isNoCascade q_709 q_710 rfl (by omega) (by decide) rfl (Nat.le_of_ble_eq_true rfl) 5 rfl dX11_cascade_2 rfl ?_
  refine a_if_ne 13 8 rfl dX11_cascade_5 (by decide) (fun _ => ?_) (fun hc => absurd hc ((by decide)))
  refine a_iconst (x := (-1)) 14 rfl dX11_cascade_13 (by decide) ?_
  exact a_ireturn .int rfl rfl (rfl) (rfl) dX11_cascade_14
theorem r_X11_cascade_out2 {m9 k9 : Nat} (h1 : m9 ≤ 2000000000) (h2 : 1 ≤ k9) (h3 : k9 ≤ 12) (hy : ¬ (-1) ≤ y3) : g_Run G mX11_cascade 4 0 0 [.ref (g_ad G 0), .int (nI m9), .int (nI k9), .int y3] (g_hp G C tl) (some (.int (-1))) (g_hp G C tl) := by
  refine g_Run.of (lv := [(0, .ref (g_ad G 0)), (1, .int (nI m9)), (2, .int (nI k9)), (3, .int y3)]) (by decide) (Nat.le_of_ble_eq_true rfl) rfl ?_
  refine a_iload_n 1 1 rfl dX11_cascade_0 rfl rfl ?_
  refine a_iload_n 2 2 rfl dX11_cascade_1 rfl rfl ?_
  refine a_callS (as := [.int (nI m9), .int (nI k9)]) (rest := []) (st2 := [.int 0]) (u1 := 0) (v1 := 0) (u2 := 0) (v2 := 0) (r_noCas h1 h2 h3) oX11_isNoCascade q_709 q_710 rfl (by omega) (by decide) rfl (Nat.le_of_ble_eq_true rfl) 5 rfl dX11_cascade_2 rfl ?_
  refine a_if_ne 13 8 rfl dX11_cascade_5 (by decide) (fun hc => absurd (rfl) hc) (fun _ => ?_)
  refine a_iload_n 3 9 rfl dX11_cascade_8 rfl rfl ?_
  refine a_iconst (x := (-1)) 10 rfl dX11_cascade_9 (by decide) ?_
  refine a_icmp_ge 15 13 rfl dX11_cascade_10 (by decide) (fun hc => absurd hc (hy)) (fun _ => ?_)
  refine a_iconst (x := (-1)) 14 rfl dX11_cascade_13 (by decide) ?_
  exact a_ireturn .int rfl rfl (rfl) (rfl) dX11_cascade_14
theorem r_X11_cascadeN {m9 k9 : Nat} (h1 : m9 ≤ 2000000000) (h2 : 1 ≤ k9) (h3 : k9 ≤ 12) : g_Run G mX11_cascade 4 0 0 [.ref (g_ad G 0), .int (nI m9), .int (nI k9), .int (-1)] (g_hp G C tl) (some (.int (nI (f_cas k9 m9).length))) (g_hp G (f_caC C m9 k9) tl) := by
  refine g_Run.of (lv := [(0, .ref (g_ad G 0)), (1, .int (nI m9)), (2, .int (nI k9)), (3, .int ((-1)))]) (by decide) (Nat.le_of_ble_eq_true rfl) rfl ?_
  refine a_iload_n 1 1 rfl dX11_cascade_0 rfl rfl ?_
  refine a_iload_n 2 2 rfl dX11_cascade_1 rfl rfl ?_
  refine a_callS (as := [.int (nI m9), .int (nI k9)]) (rest := []) (st2 := [.int 0]) (u1 := 0) (v1 := 0) (u2 := 0) (v2 := 0) (r_noCas h1 h2 h3) oX11_isNoCascade q_709 q_710 rfl (by omega) (by decide) rfl (Nat.le_of_ble_eq_true rfl) 5 rfl dX11_cascade_2 rfl ?_
  refine a_if_ne 13 8 rfl dX11_cascade_5 (by decide) (fun hc => absurd (rfl) hc) (fun _ => ?_)
  refine a_iload_n 3 9 rfl dX11_cascade_8 rfl rfl ?_
  refine a_iconst (x := (-1)) 10 rfl dX11_cascade_9 (by decide) ?_
  refine a_icmp_ge 15 13 rfl dX11_cascade_10 (by decide) (fun _ => ?_) (fun hc => absurd ((by decide)) hc)
  refine a_aload_n 0 16 rfl dX11_cascade_15 rfl rfl ?_
  refine a_get 7 cl_10 f_RX11_52_10 (by decide) (rfl) rfl 19 rfl dX11_cascade_16 ?_
  refine a_iload_n 1 20 rfl dX11_cascade_19 rfl rfl ?_
  refine a_iload_n 2 21 rfl dX11_cascade_20 rfl rfl ?_
  refine a_callVN (as := [.int (nI m9), .int (nI k9)]) (rest := []) (st2 := []) (u1 := 0) (v1 := 0) (u2 := 0) (v2 := 0) (r_lay h1 h3) (⟨_, _, _, _, rfl, rfl⟩) oX1_lay q_713 q_715 q_34 rfl (by omega) (by decide) rfl (Nat.le_of_ble_eq_true rfl) 24 rfl dX11_cascade_21 rfl ?_
  refine a_eq (h2 := g_hp G (f_ul (f_ui (f_uI C 4 (f_lay (C.2.2.2.1 4) 0 (f_cas k9 m9))) 2 (nI (f_cas k9 m9).length)) (lN (f_cab k9 m9))) tl) rfl rfl rfl (rfl) ?_
  refine a_iload_n 3 25 rfl dX11_cascade_24 rfl rfl ?_
  refine a_iconst (x := (-1)) 26 rfl dX11_cascade_25 (by decide) ?_
  refine a_icmp_ne 39 29 rfl dX11_cascade_26 (by decide) (fun hc => absurd (rfl) hc) (fun _ => ?_)
  refine a_aload_n 0 30 rfl dX11_cascade_29 rfl rfl ?_
  refine a_get 7 cl_10 f_RX11_52_10 (by decide) (rfl) rfl 33 rfl dX11_cascade_30 ?_
  refine a_callVN (as := []) (rest := []) (st2 := [.int (nI (f_cas k9 m9).length)]) (u1 := 0) (v1 := 0) (u2 := 0) (v2 := 0) (r_X1_many rfl) (⟨_, _, _, _, rfl, rfl⟩) oX1_many q_729 q_731 q_35 rfl (by omega) (by decide) rfl (Nat.le_of_ble_eq_true rfl) 36 rfl dX11_cascade_33 rfl ?_
  refine a_goto 47 dX11_cascade_36 (by decide) ?_
  exact a_ireturn .int rfl rfl (rfl) (rfl) dX11_cascade_47
theorem r_X11_cascade_in {m9 k9 j9 : Nat} (h1 : m9 ≤ 2000000000) (h2 : 1 ≤ k9) (h3 : k9 ≤ 12) (hj : j9 < (f_cas k9 m9).length) : g_Run G mX11_cascade 4 0 0 [.ref (g_ad G 0), .int (nI m9), .int (nI k9), .int (nI j9)] (g_hp G C tl) (some (.int (nI ((f_cas k9 m9).getD j9 0)))) (g_hp G (f_caC C m9 k9) tl) := by
  have hl := f_cas_len k9 m9
  have hv : f_lay (C.2.2.2.1 4) 0 (f_cas k9 m9) j9 = nI ((f_cas k9 m9).getD j9 0) := by
    have e9 := f_lay_at (f_cas k9 m9) (C.2.2.2.1 4) 0 j9 ((f_cas k9 m9)[j9]) (List.getElem?_eq_getElem hj)
    rw [Nat.zero_add] at e9
    rw [e9, List.getD_eq_getElem?_getD, List.getElem?_eq_getElem hj]; rfl
  have w := r_X1_at_in (G := G) (h := g_hp G (f_caC C m9 k9) tl) (a := 15) (ka := 16) (m := (f_cas k9 m9).length) (j := j9) (bd := lN (f_cab k9 m9)) (f := f_lay (C.2.2.2.1 4) 0 (f_cas k9 m9)) rfl rfl (by omega) hj
  rw [hv] at w
  refine g_Run.of (lv := [(0, .ref (g_ad G 0)), (1, .int (nI m9)), (2, .int (nI k9)), (3, .int (nI j9))]) (by decide) (Nat.le_of_ble_eq_true rfl) rfl ?_
  refine a_iload_n 1 1 rfl dX11_cascade_0 rfl rfl ?_
  refine a_iload_n 2 2 rfl dX11_cascade_1 rfl rfl ?_
  refine a_callS (as := [.int (nI m9), .int (nI k9)]) (rest := []) (st2 := [.int 0]) (u1 := 0) (v1 := 0) (u2 := 0) (v2 := 0) (r_noCas h1 h2 h3) oX11_isNoCascade q_709 q_710 rfl (by omega) (by decide) rfl (Nat.le_of_ble_eq_true rfl) 5 rfl dX11_cascade_2 rfl ?_
  refine a_if_ne 13 8 rfl dX11_cascade_5 (by decide) (fun hc => absurd (rfl) hc) (fun _ => ?_)
  refine a_iload_n 3 9 rfl dX11_cascade_8 rfl rfl ?_
  refine a_iconst (x := (-1)) 10 rfl dX11_cascade_9 (by decide) ?_
  refine a_icmp_ge 15 13 rfl dX11_cascade_10 (by decide) (fun _ => ?_) (fun hc => absurd ((Int32.le_iff_toInt_le.mpr (by rw [nI_toInt (by omega)]; show (-1 : Int) ≤ _; omega))) hc)
  refine a_aload_n 0 16 rfl dX11_cascade_15 rfl rfl ?_
  refine a_get 7 cl_10 f_RX11_52_10 (by decide) (rfl) rfl 19 rfl dX11_cascade_16 ?_
  refine a_iload_n 1 20 rfl dX11_cascade_19 rfl rfl ?_
  refine a_iload_n 2 21 rfl dX11_cascade_20 rfl rfl ?_
  refine a_callVN (as := [.int (nI m9), .int (nI k9)]) (rest := []) (st2 := []) (u1 := 0) (v1 := 0) (u2 := 0) (v2 := 0) (r_lay h1 h3) (⟨_, _, _, _, rfl, rfl⟩) oX1_lay q_713 q_715 q_34 rfl (by omega) (by decide) rfl (Nat.le_of_ble_eq_true rfl) 24 rfl dX11_cascade_21 rfl ?_
  refine a_eq (h2 := g_hp G (f_ul (f_ui (f_uI C 4 (f_lay (C.2.2.2.1 4) 0 (f_cas k9 m9))) 2 (nI (f_cas k9 m9).length)) (lN (f_cab k9 m9))) tl) rfl rfl rfl (rfl) ?_
  refine a_iload_n 3 25 rfl dX11_cascade_24 rfl rfl ?_
  refine a_iconst (x := (-1)) 26 rfl dX11_cascade_25 (by decide) ?_
  refine a_icmp_ne 39 29 rfl dX11_cascade_26 (by decide) (fun _ => ?_) (fun hc => absurd hc ((fun z => absurd (congrArg Int32.toInt z) (by rw [nI_toInt (by omega)]; show ¬ (_ : Int) = -1; omega))))
  refine a_aload_n 0 40 rfl dX11_cascade_39 rfl rfl ?_
  refine a_get 7 cl_10 f_RX11_52_10 (by decide) (rfl) rfl 43 rfl dX11_cascade_40 ?_
  refine a_iload_n 3 44 rfl dX11_cascade_43 rfl rfl ?_
  refine a_callVN (as := [.int (nI j9)]) (rest := []) (st2 := [.int (nI ((f_cas k9 m9).getD j9 0))]) (u1 := 0) (v1 := 0) (u2 := 0) (v2 := 0) (w) (⟨_, _, _, _, rfl, rfl⟩) oX1_at q_733 q_735 q_36 rfl (by omega) (by decide) rfl (Nat.le_of_ble_eq_true rfl) 47 rfl dX11_cascade_44 rfl ?_
  exact a_ireturn .int rfl rfl (rfl) (rfl) dX11_cascade_47
theorem r_X11_cascade_at {m9 k9 : Nat} (h1 : m9 ≤ 2000000000) (h2 : 1 ≤ k9) (h3 : k9 ≤ 12) (hy : (-1) ≤ y3) (hy2 : ¬ y3 = -1) (hj : ¬ vp_in y3 (f_cas k9 m9).length) : g_Run G mX11_cascade 4 0 0 [.ref (g_ad G 0), .int (nI m9), .int (nI k9), .int y3] (g_hp G C tl) (some (.int (-2))) (g_hp G (f_caC C m9 k9) tl) := by
  have hl := f_cas_len k9 m9
  refine g_Run.of (lv := [(0, .ref (g_ad G 0)), (1, .int (nI m9)), (2, .int (nI k9)), (3, .int y3)]) (by decide) (Nat.le_of_ble_eq_true rfl) rfl ?_
  refine a_iload_n 1 1 rfl dX11_cascade_0 rfl rfl ?_
  refine a_iload_n 2 2 rfl dX11_cascade_1 rfl rfl ?_
  refine a_callS (as := [.int (nI m9), .int (nI k9)]) (rest := []) (st2 := [.int 0]) (u1 := 0) (v1 := 0) (u2 := 0) (v2 := 0) (r_noCas h1 h2 h3) oX11_isNoCascade q_709 q_710 rfl (by omega) (by decide) rfl (Nat.le_of_ble_eq_true rfl) 5 rfl dX11_cascade_2 rfl ?_
  refine a_if_ne 13 8 rfl dX11_cascade_5 (by decide) (fun hc => absurd (rfl) hc) (fun _ => ?_)
  refine a_iload_n 3 9 rfl dX11_cascade_8 rfl rfl ?_
  refine a_iconst (x := (-1)) 10 rfl dX11_cascade_9 (by decide) ?_
  refine a_icmp_ge 15 13 rfl dX11_cascade_10 (by decide) (fun _ => ?_) (fun hc => absurd (hy) hc)
  refine a_aload_n 0 16 rfl dX11_cascade_15 rfl rfl ?_
  refine a_get 7 cl_10 f_RX11_52_10 (by decide) (rfl) rfl 19 rfl dX11_cascade_16 ?_
  refine a_iload_n 1 20 rfl dX11_cascade_19 rfl rfl ?_
  refine a_iload_n 2 21 rfl dX11_cascade_20 rfl rfl ?_
  refine a_callVN (as := [.int (nI m9), .int (nI k9)]) (rest := []) (st2 := []) (u1 := 0) (v1 := 0) (u2 := 0) (v2 := 0) (r_lay h1 h3) (⟨_, _, _, _, rfl, rfl⟩) oX1_lay q_713 q_715 q_34 rfl (by omega) (by decide) rfl (Nat.le_of_ble_eq_true rfl) 24 rfl dX11_cascade_21 rfl ?_
  refine a_eq (h2 := g_hp G (f_ul (f_ui (f_uI C 4 (f_lay (C.2.2.2.1 4) 0 (f_cas k9 m9))) 2 (nI (f_cas k9 m9).length)) (lN (f_cab k9 m9))) tl) rfl rfl rfl (rfl) ?_
  refine a_iload_n 3 25 rfl dX11_cascade_24 rfl rfl ?_
  refine a_iconst (x := (-1)) 26 rfl dX11_cascade_25 (by decide) ?_
  refine a_icmp_ne 39 29 rfl dX11_cascade_26 (by decide) (fun _ => ?_) (fun hc => absurd hc (hy2))
  refine a_aload_n 0 40 rfl dX11_cascade_39 rfl rfl ?_
  refine a_get 7 cl_10 f_RX11_52_10 (by decide) (rfl) rfl 43 rfl dX11_cascade_40 ?_
  refine a_iload_n 3 44 rfl dX11_cascade_43 rfl rfl ?_
  refine a_callVN (as := [.int y3]) (rest := []) (st2 := [.int ((-2))]) (u1 := 0) (v1 := 0) (u2 := 0) (v2 := 0) (r_X1_at_out (m := (f_cas k9 m9).length) (bd := lN (f_cab k9 m9)) rfl (by omega) hj) (⟨_, _, _, _, rfl, rfl⟩) oX1_at q_733 q_735 q_36 rfl (by omega) (by decide) rfl (Nat.le_of_ble_eq_true rfl) 47 rfl dX11_cascade_44 rfl ?_
  exact a_ireturn .int rfl rfl (rfl) (rfl) dX11_cascade_47
theorem r_X11_scaled_out1 (hy : y < 0 ∨ 2000000000 < y ∨ y2 < 1 ∨ ¬ y2 ≤ 12) : g_Run G mX11_scaled 4 0 0 [.ref (g_ad G 0), .int y, .int y2, .int y3] (g_hp G C tl) (some (.int (-1))) (g_hp G C tl) := by
  refine g_Run.of (lv := [(0, .ref (g_ad G 0)), (1, .int y), (2, .int y2), (3, .int y3)]) (by decide) (Nat.le_of_ble_eq_true rfl) rfl ?_
  refine a_iload_n 1 1 rfl dX11_scaled_0 rfl rfl ?_
  refine a_iload_n 2 2 rfl dX11_scaled_1 rfl rfl ?_
  refine a_callS (as := [.int y, .int y2]) (rest := []) (st2 := [.int 1]) (u1 := 0) (v1 := 0) (u2 := 0) (v2 := 0) (r_noCas1 hy) oX11_isNoCascade q_709 q_710 rfl (by omega) (by decide) rfl (Nat.le_of_ble_eq_true rfl) 5 rfl dX11_scaled_2 rfl ?_
  refine a_if_ne 19 8 rfl dX11_scaled_5 (by decide) (fun _ => ?_) (fun hc => absurd hc ((by decide)))
  refine a_iconst (x := (-1)) 20 rfl dX11_scaled_19 (by decide) ?_
  exact a_ireturn .int rfl rfl (rfl) (rfl) dX11_scaled_20
theorem r_X11_scaled_out2 {m9 k9 : Nat} (h1 : m9 ≤ 2000000000) (h2 : 1 ≤ k9) (h3 : k9 ≤ 12) (hy : y3 < 1 ∨ ¬ y3 ≤ 2000000000) : g_Run G mX11_scaled 4 0 0 [.ref (g_ad G 0), .int (nI m9), .int (nI k9), .int y3] (g_hp G C tl) (some (.int (-1))) (g_hp G C tl) := by
  refine g_Run.of (lv := [(0, .ref (g_ad G 0)), (1, .int (nI m9)), (2, .int (nI k9)), (3, .int y3)]) (by decide) (Nat.le_of_ble_eq_true rfl) rfl ?_
  refine a_iload_n 1 1 rfl dX11_scaled_0 rfl rfl ?_
  refine a_iload_n 2 2 rfl dX11_scaled_1 rfl rfl ?_
  refine a_callS (as := [.int (nI m9), .int (nI k9)]) (rest := []) (st2 := [.int 0]) (u1 := 0) (v1 := 0) (u2 := 0) (v2 := 0) (r_noCas h1 h2 h3) oX11_isNoCascade q_709 q_710 rfl (by omega) (by decide) rfl (Nat.le_of_ble_eq_true rfl) 5 rfl dX11_scaled_2 rfl ?_
  refine a_if_ne 19 8 rfl dX11_scaled_5 (by decide) (fun hc => absurd (rfl) hc) (fun _ => ?_)
  refine a_iload_n 3 9 rfl dX11_scaled_8 rfl rfl ?_
  refine a_iconst (x := 1) 10 rfl dX11_scaled_9 (by decide) ?_
  refine a_icmp_lt 19 13 rfl dX11_scaled_10 (by decide) (fun c10 => ?_) (fun c10 => ?_)
  refine a_iconst (x := (-1)) 20 rfl dX11_scaled_19 (by decide) ?_
  exact a_ireturn .int rfl rfl (rfl) (rfl) dX11_scaled_20
  refine a_iload_n 3 14 rfl dX11_scaled_13 rfl rfl ?_
  refine a_ldc q_712 16 rfl dX11_scaled_14 ?_
  refine a_icmp_le 21 19 rfl dX11_scaled_16 (by decide) (fun hc => absurd hc ((hy.resolve_left c10))) (fun _ => ?_)
  refine a_iconst (x := (-1)) 20 rfl dX11_scaled_19 (by decide) ?_
  exact a_ireturn .int rfl rfl (rfl) (rfl) dX11_scaled_20
theorem r_X11_scaled {m9 k9 b9 : Nat} (h1 : m9 ≤ 2000000000) (h2 : 1 ≤ k9) (h3 : k9 ≤ 12) (h4 : 1 ≤ b9) (h5 : b9 ≤ 2000000000) : g_Run G mX11_scaled 4 0 0 [.ref (g_ad G 0), .int (nI m9), .int (nI k9), .int (nI b9)] (g_hp G C tl) (some (.int (if 2147483647 < lN (f_cab k9 m9) * lN b9 then -6 else (lN (f_cab k9 m9) * lN b9).toInt32))) (g_hp G (f_caC C m9 k9) tl) := by
  refine g_Run.of (lv := [(0, .ref (g_ad G 0)), (1, .int (nI m9)), (2, .int (nI k9)), (3, .int (nI b9))]) (by decide) (Nat.le_of_ble_eq_true rfl) rfl ?_
  refine a_iload_n 1 1 rfl dX11_scaled_0 rfl rfl ?_
  refine a_iload_n 2 2 rfl dX11_scaled_1 rfl rfl ?_
  refine a_callS (as := [.int (nI m9), .int (nI k9)]) (rest := []) (st2 := [.int 0]) (u1 := 0) (v1 := 0) (u2 := 0) (v2 := 0) (r_noCas h1 h2 h3) oX11_isNoCascade q_709 q_710 rfl (by omega) (by decide) rfl (Nat.le_of_ble_eq_true rfl) 5 rfl dX11_scaled_2 rfl ?_
  refine a_if_ne 19 8 rfl dX11_scaled_5 (by decide) (fun hc => absurd (rfl) hc) (fun _ => ?_)
  refine a_iload_n 3 9 rfl dX11_scaled_8 rfl rfl ?_
  refine a_iconst (x := 1) 10 rfl dX11_scaled_9 (by decide) ?_
  refine a_icmp_lt 19 13 rfl dX11_scaled_10 (by decide) (fun hc => absurd hc (nI_nlt (b := 1) h4 (by omega))) (fun _ => ?_)
  refine a_iload_n 3 14 rfl dX11_scaled_13 rfl rfl ?_
  refine a_ldc q_712 16 rfl dX11_scaled_14 ?_
  refine a_icmp_le 21 19 rfl dX11_scaled_16 (by decide) (fun _ => ?_) (fun hc => absurd ((nI_le (b := 2000000000) h5 (by omega))) hc)
  refine a_aload_n 0 22 rfl dX11_scaled_21 rfl rfl ?_
  refine a_get 7 cl_10 f_RX11_52_10 (by decide) (rfl) rfl 25 rfl dX11_scaled_22 ?_
  refine a_iload_n 1 26 rfl dX11_scaled_25 rfl rfl ?_
  refine a_iload_n 2 27 rfl dX11_scaled_26 rfl rfl ?_
  refine a_callVN (as := [.int (nI m9), .int (nI k9)]) (rest := []) (st2 := []) (u1 := 0) (v1 := 0) (u2 := 0) (v2 := 0) (r_lay h1 h3) (⟨_, _, _, _, rfl, rfl⟩) oX1_lay q_713 q_715 q_34 rfl (by omega) (by decide) rfl (Nat.le_of_ble_eq_true rfl) 30 rfl dX11_scaled_27 rfl ?_
  refine a_eq (h2 := g_hp G (f_ul (f_ui (f_uI C 4 (f_lay (C.2.2.2.1 4) 0 (f_cas k9 m9))) 2 (nI (f_cas k9 m9).length)) (lN (f_cab k9 m9))) tl) rfl rfl rfl (rfl) ?_
  refine a_aload_n 0 31 rfl dX11_scaled_30 rfl rfl ?_
  refine a_get 7 cl_10 f_RX11_52_10 (by decide) (rfl) rfl 34 rfl dX11_scaled_31 ?_
  refine a_callVN (as := []) (rest := []) (st2 := [.long (lN (f_cab k9 m9))]) (u1 := 0) (v1 := 0) (u2 := 0) (v2 := 0) (r_X1_bounds rfl) (⟨_, _, _, _, rfl, rfl⟩) oX1_bounds q_741 q_743 q_37 rfl (by omega) (by decide) rfl (Nat.le_of_ble_eq_true rfl) 37 rfl dX11_scaled_34 rfl ?_
  refine a_iload_n 3 38 rfl dX11_scaled_37 rfl rfl ?_
  refine a_i2l 39 rfl dX11_scaled_38 ?_
  refine a_eq (st2 := [.long (lN b9), .long (lN (f_cab k9 m9))]) rfl rfl (by rw [nI_l (by omega)]) rfl ?_
  refine a_lmul 40 rfl dX11_scaled_39 ?_
  refine a_lstore (lv' := [(4, .long ((lN (f_cab k9 m9)) * (lN b9))), (0, .ref (g_ad G 0)), (1, .int (nI m9)), (2, .int (nI k9)), (3, .int (nI b9))]) 42 rfl dX11_scaled_40 (by decide) rfl ?_
  refine a_lload 0 44 rfl dX11_scaled_42 rfl ?_
  refine a_ldc2 q_749 47 rfl dX11_scaled_44 ?_
  refine a_lcmp 48 rfl dX11_scaled_47 ?_
  by_cases e9 : 2147483647 < lN (f_cab k9 m9) * lN b9
  · skip
    refine a_if_le 56 51 rfl dX11_scaled_48 (by decide) (fun hc => absurd hc ((fun z => absurd (g_cmp_gt.mpr e9) (Int32.not_lt.mpr z)))) (fun _ => ?_)
    refine a_bipush (x := (-6)) 53 rfl dX11_scaled_51 (by decide) ?_
    refine a_goto 59 dX11_scaled_53 (by decide) ?_
    exact a_ireturn .int rfl rfl ((by rw [if_pos e9])) (rfl) dX11_scaled_59
  · skip
    refine a_if_le 56 51 rfl dX11_scaled_48 (by decide) (fun _ => ?_) (fun hc => absurd ((Int32.not_lt.mp (fun z => e9 (g_cmp_gt.mp z)))) hc)
    refine a_lload 0 58 rfl dX11_scaled_56 rfl ?_
    refine a_l2i 59 rfl dX11_scaled_58 ?_
    exact a_ireturn .int rfl rfl ((by rw [if_neg e9])) (rfl) dX11_scaled_59
end GR1
