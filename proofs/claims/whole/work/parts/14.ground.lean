/-! Grid's leaves; the keys; Ground's methods over a cube and over a grid; what changes the keys alone -/
section GR1
variable {G : g_G} {h : List va_E} {a ka n w9 t9 : Nat} {x : Int64} {y y2 : Int32}
theorem r_X6_places (hC : h[a]? = some (c_O 6 [.ref (g_ad G ka), .int (nI w9), .int (nI t9)])) : g_Run G mX6_places 1 0 0 [.ref (g_ad G a)] h (some (.int (nI (w9 * t9)))) h := by
  refine g_Run.of (lv := [(0, .ref (g_ad G a))]) (by decide) (Nat.le_of_ble_eq_true rfl) rfl ?_
  refine a_aload_n 0 1 rfl dX6_places_0 rfl rfl ?_
  refine a_get 1 cl_6 f_RX6_9_6 (by decide) (hC) rfl 4 rfl dX6_places_1 ?_
  refine a_aload_n 0 5 rfl dX6_places_4 rfl rfl ?_
  refine a_get 2 cl_6 f_RX6_15_6 (by decide) (hC) rfl 8 rfl dX6_places_5 ?_
  refine a_imul 9 rfl dX6_places_8 ?_
  exact a_ireturn .int rfl rfl ((by rw [pk_mul])) (rfl) dX6_places_9
theorem r_X6_width (hC : h[a]? = some (c_O 6 [.ref (g_ad G ka), .int y, .int y2])) : g_Run G mX6_width 1 0 0 [.ref (g_ad G a)] h (some (.int y)) h := by
  refine g_Run.of (lv := [(0, .ref (g_ad G a))]) (by decide) (Nat.le_of_ble_eq_true rfl) rfl ?_
  refine a_aload_n 0 1 rfl dX6_width_0 rfl rfl ?_
  refine a_get 1 cl_6 f_RX6_9_6 (by decide) (hC) rfl 4 rfl dX6_width_1 ?_
  exact a_ireturn .int rfl rfl (rfl) (rfl) dX6_width_4
theorem r_X6_height (hC : h[a]? = some (c_O 6 [.ref (g_ad G ka), .int y, .int y2])) : g_Run G mX6_height 1 0 0 [.ref (g_ad G a)] h (some (.int y2)) h := by
  refine g_Run.of (lv := [(0, .ref (g_ad G a))]) (by decide) (Nat.le_of_ble_eq_true rfl) rfl ?_
  refine a_aload_n 0 1 rfl dX6_height_0 rfl rfl ?_
  refine a_get 2 cl_6 f_RX6_15_6 (by decide) (hC) rfl 4 rfl dX6_height_1 ?_
  exact a_ireturn .int rfl rfl (rfl) (rfl) dX6_height_4
theorem r_X6_reshape {y3 y4 : Int32} (hC : h[a]? = some (c_O 6 [.ref (g_ad G ka), .int y, .int y2])) : g_Run G mX6_reshape 1 0 0 [.ref (g_ad G a), .int y3, .int y4] h none (h.set a (c_O 6 [.ref (g_ad G ka), .int y3, .int y4])) := by
  refine g_Run.of (lv := [(0, .ref (g_ad G a)), (1, .int y3), (2, .int y4)]) (by decide) (Nat.le_of_ble_eq_true rfl) rfl ?_
  refine a_aload_n 0 1 rfl dX6_reshape_0 rfl rfl ?_
  refine a_iload_n 1 2 rfl dX6_reshape_1 rfl rfl ?_
  refine a_put (fs' := [.ref (g_ad G ka), .int y3, .int y2]) 1 cl_6 f_RX6_9_6 (by decide) (hC) rfl rfl rfl (Nat.le_of_ble_eq_true rfl) rfl 5 rfl dX6_reshape_2 ?_
  refine a_aload_n 0 6 rfl dX6_reshape_5 rfl rfl ?_
  refine a_iload_n 2 7 rfl dX6_reshape_6 rfl rfl ?_
  refine a_put (fs' := [.ref (g_ad G ka), .int y3, .int y4]) 2 cl_6 f_RX6_15_6 (by decide) (g_set_eq (hC)) rfl rfl rfl (Nat.le_of_ble_eq_true rfl) rfl 10 rfl dX6_reshape_7 ?_
  exact a_return rfl (rfl) ((by rw [List.set_set])) dX6_reshape_10
/-- the first i cells of column y -/
def f_column (w : Nat) (y : Int32) : Nat → Int64
  | 0 => 0
  | i + 1 => f_column w y i ||| f_sl 1 (y + nI w * nI i)
theorem r_X6_column (hC : h[a]? = some (c_O 6 [.ref (g_ad G ka), .int (nI w9), .int (nI t9)])) (ht : t9 ≤ 8) : g_Run G mX6_column 1 0 0 [.ref (g_ad G a), .int y] h (some (.long (f_column w9 y t9))) h := by
  refine g_Run.of (lv := [(0, .ref (g_ad G a)), (1, .int y)]) (by decide) (Nat.le_of_ble_eq_true rfl) rfl ?_
  refine a_lconst (x := 0) 1 rfl dX6_column_0 (by decide) ?_
  refine a_lstore_n (lv' := [(2, .long 0), (0, .ref (g_ad G a)), (1, .int y)]) 2 rfl dX6_column_1 rfl (by decide) rfl ?_
  refine a_iconst (x := 0) 3 rfl dX6_column_2 (by decide) ?_
  refine a_istore (lv' := [(4, .int 0), (2, .long 0), (0, .ref (g_ad G a)), (1, .int y)]) 5 rfl dX6_column_3 (by decide) rfl ?_
  have key : ∀ jj ii : Nat, ii + jj = t9 → g_A G mX6_column 1 0 0 5 [(4, .int (nI ii)), (2, .long (f_column w9 y ii)), (0, .ref (g_ad G a)), (1, .int y)] [] h (some (.long (f_column w9 y t9))) h := by
    intro jj
    induction jj with
    | zero =>
      intro ii hii
      refine a_iload 0 7 rfl dX6_column_5 rfl ?_
      refine a_aload_n 2 8 rfl dX6_column_7 rfl rfl ?_
      refine a_get 2 cl_6 f_RX6_15_6 (by decide) (hC) rfl 11 rfl dX6_column_8 ?_
      refine a_icmp_ge 34 14 rfl dX6_column_11 (by decide) (fun _ => ?_) (fun hc => absurd (nI_le (by omega) (by omega)) hc)
      refine a_lload_n 1 35 rfl dX6_column_34 rfl rfl ?_
      exact a_lreturn rfl ((by rw [show ii = t9 by omega])) (rfl) dX6_column_35
    | succ jj ih =>
      intro ii hii
      refine a_iload 0 7 rfl dX6_column_5 rfl ?_
      refine a_aload_n 2 8 rfl dX6_column_7 rfl rfl ?_
      refine a_get 2 cl_6 f_RX6_15_6 (by decide) (hC) rfl 11 rfl dX6_column_8 ?_
      refine a_icmp_ge 34 14 rfl dX6_column_11 (by decide) (fun hc => absurd hc (nI_ge (by omega) (by omega))) (fun _ => ?_)
      refine a_lload_n 1 15 rfl dX6_column_14 rfl rfl ?_
      refine a_lconst (x := 1) 16 rfl dX6_column_15 (by decide) ?_
      refine a_iload_n 3 17 rfl dX6_column_16 rfl rfl ?_
      refine a_aload_n 2 18 rfl dX6_column_17 rfl rfl ?_
      refine a_get 1 cl_6 f_RX6_9_6 (by decide) (hC) rfl 21 rfl dX6_column_18 ?_
      refine a_iload 0 23 rfl dX6_column_21 rfl ?_
      refine a_imul 24 rfl dX6_column_23 ?_
      refine a_iadd 25 rfl dX6_column_24 ?_
      refine a_lshl 26 rfl dX6_column_25 ?_
      refine a_lor 27 rfl dX6_column_26 ?_
      refine a_lstore_n (lv' := [(2, .long ((f_column w9 y ii) ||| (f_sl (1 : Int64) (y + ((nI w9) * (nI ii)))))), (4, .int (nI ii)), (0, .ref (g_ad G a)), (1, .int y)]) 28 rfl dX6_column_27 rfl (by decide) rfl ?_
      refine a_iinc (y := nI (ii + 1)) (lv' := [(4, .int (nI (ii + 1))), (2, .long ((f_column w9 y ii) ||| (f_sl (1 : Int64) (y + ((nI w9) * (nI ii)))))), (0, .ref (g_ad G a)), (1, .int y)]) 1 31 rfl dX6_column_28 rfl (nI_1 ii) (by decide) rfl ?_
      refine a_goto 5 dX6_column_31 (by decide) ?_
      exact ih (ii + 1) (by omega)
  exact key t9 0 (by omega)
theorem r_all_grid (hC : h[a]? = some (c_O 6 [.ref (g_ad G ka), .int (nI w9), .int (nI t9)])) (hp : w9 * t9 ≤ 64) : g_Run G mX7_all 2 0 0 [.ref (g_ad G a)] h (some (.long (f_all (w9 * t9)))) h := by
  refine g_Run.of (lv := [(0, .ref (g_ad G a))]) (by decide) (Nat.le_of_ble_eq_true rfl) rfl ?_
  refine a_aload_n 0 1 rfl dX7_all_0 rfl rfl ?_
  refine a_callU (as := []) (C := RX6) (owner := "LeastShadows$Ground") (x := ⟨"LeastShadows$Ground", "places", "()I"⟩) (rest := []) (st2 := [.int (nI (w9 * t9))]) (u1 := 0) (v1 := 0) (u2 := 0) (v2 := 0) (r_X6_places hC) (⟨_, _, _, _, hC, rfl⟩) oX6_places ⟨q_384, q_386, q_390, q_391, ⟨by decide, by decide⟩, Or.inr q_385⟩ rfl (by decide) (by decide) rfl (Nat.le_of_ble_eq_true rfl) 4 rfl dX7_all_1 rfl ?_
  refine a_bipush (x := 64) 6 rfl dX7_all_4 (by decide) ?_
  refine a_icmp_lt 15 9 rfl dX7_all_6 (by decide) (fun c6 => ?_) (fun c6 => ?_)
  · skip
    have hlt : ¬ 64 ≤ w9 * t9 := fun z => absurd c6 (nI_nlt (b := 64) z (by omega))
    refine a_lconst (x := 1) 16 rfl dX7_all_15 (by decide) ?_
    refine a_aload_n 0 17 rfl dX7_all_16 rfl rfl ?_
    refine a_callU (as := []) (C := RX6) (owner := "LeastShadows$Ground") (x := ⟨"LeastShadows$Ground", "places", "()I"⟩) (rest := [.long 1]) (st2 := [.int (nI (w9 * t9)), .long 1]) (u1 := 0) (v1 := 0) (u2 := 0) (v2 := 0) (r_X6_places hC) (⟨_, _, _, _, hC, rfl⟩) oX6_places ⟨q_384, q_386, q_390, q_391, ⟨by decide, by decide⟩, Or.inr q_385⟩ rfl (by decide) (by decide) rfl (Nat.le_of_ble_eq_true rfl) 20 rfl dX7_all_17 rfl ?_
    refine a_lshl 21 rfl dX7_all_20 ?_
    refine a_lconst (x := 1) 22 rfl dX7_all_21 (by decide) ?_
    refine a_lsub 23 rfl dX7_all_22 ?_
    exact a_lreturn rfl ((by rw [f_all, if_neg hlt]; rfl)) (rfl) dX7_all_23
  · skip
    refine a_ldc2 q_393 12 rfl dX7_all_9 ?_
    refine a_goto 23 dX7_all_12 (by decide) ?_
    exact a_lreturn rfl ((by rw [f_all, if_pos (Nat.le_of_not_lt fun z => c6 (nI_lt (b := 64) z (by omega)))])) (rfl) dX7_all_23
theorem r_holds_grid (hC : h[a]? = some (c_O 6 [.ref (g_ad G ka), .int (nI w9), .int (nI t9)])) (hp : w9 * t9 ≤ 64) : g_Run G mX7_holds 3 0 0 [.ref (g_ad G a), .long x] h (some (.int (if x &&& (f_all (w9 * t9) ^^^ (-1)) = 0 then 1 else 0))) h := by
  refine g_Run.of (lv := [(0, .ref (g_ad G a)), (1, .long x)]) (by decide) (Nat.le_of_ble_eq_true rfl) rfl ?_
  refine a_lload_n 1 1 rfl dX7_holds_0 rfl rfl ?_
  refine a_aload_n 0 2 rfl dX7_holds_1 rfl rfl ?_
  refine a_callU (as := []) (C := RX6) (owner := "LeastShadows$Ground") (x := ⟨"LeastShadows$Ground", "all", "()J"⟩) (rest := [.long x]) (st2 := [.long (f_all (w9 * t9)), .long x]) (u1 := 0) (v1 := 0) (u2 := 0) (v2 := 0) (r_all_grid hC hp) (⟨_, _, _, _, hC, rfl⟩) oX7_all ⟨q_378, q_380, q_382, q_379, ⟨by decide, by decide⟩, Or.inl rfl⟩ rfl (by decide) (by decide) rfl (Nat.le_of_ble_eq_true rfl) 5 rfl dX7_holds_2 rfl ?_
  refine a_ldc2 q_393 8 rfl dX7_holds_5 ?_
  refine a_lxor 9 rfl dX7_holds_8 ?_
  refine a_land 10 rfl dX7_holds_9 ?_
  refine a_lconst (x := 0) 11 rfl dX7_holds_10 (by decide) ?_
  refine a_lcmp 12 rfl dX7_holds_11 ?_
  refine a_if_ne 19 15 rfl dX7_holds_12 (by decide) (fun c12 => ?_) (fun c12 => ?_)
  · skip
    refine a_iconst (x := 0) 20 rfl dX7_holds_19 (by decide) ?_
    exact a_ireturn .boolean rfl rfl ((by rw [if_neg (g_cmp_ne.mp c12)])) (rfl) dX7_holds_20
  · skip
    refine a_iconst (x := 1) 16 rfl dX7_holds_15 (by decide) ?_
    refine a_goto 20 dX7_holds_16 (by decide) ?_
    exact a_ireturn .boolean rfl rfl ((by rw [if_pos (g_cmp_eq.mp c12)])) (rfl) dX7_holds_20
def f_borderG (w t : Nat) (x : Int64) : Int64 := (f_sr (x &&& (f_column w 0 t ^^^ (-1))) 1 ||| f_sl (x &&& (f_column w (nI w - 1) t ^^^ (-1))) 1 ||| f_sr x (nI w) ||| f_sl x (nI w)) &&& f_all (w * t) &&& (x ^^^ (-1))
theorem r_X6_borderOf (hC : h[a]? = some (c_O 6 [.ref (g_ad G ka), .int (nI w9), .int (nI t9)])) (hp : w9 * t9 ≤ 64) (ht : t9 ≤ 8) : g_Run G mX6_borderOf 3 0 0 [.ref (g_ad G a), .long x] h (some (.long (f_borderG w9 t9 x))) h := by
  refine g_Run.of (lv := [(0, .ref (g_ad G a)), (1, .long x)]) (by decide) (Nat.le_of_ble_eq_true rfl) rfl ?_
  refine a_lload_n 1 1 rfl dX6_borderOf_0 rfl rfl ?_
  refine a_aload_n 0 2 rfl dX6_borderOf_1 rfl rfl ?_
  refine a_iconst (x := 0) 3 rfl dX6_borderOf_2 (by decide) ?_
  refine a_callV (as := [.int 0]) (rest := [.long x]) (st2 := [.long (f_column w9 0 t9), .long x]) (u1 := 0) (v1 := 0) (u2 := 0) (v2 := 0) (r_X6_column hC ht) (⟨_, _, _, _, hC, rfl⟩) oX6_column q_673 q_675 q_32 rfl (by decide) (by decide) rfl (Nat.le_of_ble_eq_true rfl) 6 rfl dX6_borderOf_3 rfl ?_
  refine a_ldc2 q_677 9 rfl dX6_borderOf_6 ?_
  refine a_lxor 10 rfl dX6_borderOf_9 ?_
  refine a_land 11 rfl dX6_borderOf_10 ?_
  refine a_iconst (x := 1) 12 rfl dX6_borderOf_11 (by decide) ?_
  refine a_lushr 13 rfl dX6_borderOf_12 ?_
  refine a_lstore_n (lv' := [(3, .long (f_sr (x &&& ((f_column w9 0 t9) ^^^ (-1))) (1 : Int32))), (0, .ref (g_ad G a)), (1, .long x)]) 14 rfl dX6_borderOf_13 rfl (by decide) rfl ?_
  refine a_lload_n 2 15 rfl dX6_borderOf_14 rfl rfl ?_
  refine a_aload_n 1 16 rfl dX6_borderOf_15 rfl rfl ?_
  refine a_aload_n 1 17 rfl dX6_borderOf_16 rfl rfl ?_
  refine a_get 1 cl_6 f_RX6_9_6 (by decide) (hC) rfl 20 rfl dX6_borderOf_17 ?_
  refine a_iconst (x := 1) 21 rfl dX6_borderOf_20 (by decide) ?_
  refine a_isub 22 rfl dX6_borderOf_21 ?_
  refine a_callV (as := [.int ((nI w9) - 1)]) (rest := [.long x]) (st2 := [.long (f_column w9 (nI w9 - 1) t9), .long x]) (u1 := 0) (v1 := 0) (u2 := 0) (v2 := 0) (r_X6_column hC ht) (⟨_, _, _, _, hC, rfl⟩) oX6_column q_673 q_675 q_32 rfl (by decide) (by decide) rfl (Nat.le_of_ble_eq_true rfl) 25 rfl dX6_borderOf_22 rfl ?_
  refine a_ldc2 q_677 28 rfl dX6_borderOf_25 ?_
  refine a_lxor 29 rfl dX6_borderOf_28 ?_
  refine a_land 30 rfl dX6_borderOf_29 ?_
  refine a_iconst (x := 1) 31 rfl dX6_borderOf_30 (by decide) ?_
  refine a_lshl 32 rfl dX6_borderOf_31 ?_
  refine a_lstore (lv' := [(5, .long (f_sl (x &&& ((f_column w9 (nI w9 - 1) t9) ^^^ (-1))) (1 : Int32))), (3, .long (f_sr (x &&& ((f_column w9 0 t9) ^^^ (-1))) (1 : Int32))), (0, .ref (g_ad G a)), (1, .long x)]) 34 rfl dX6_borderOf_32 (by decide) rfl ?_
  refine a_lload_n 1 35 rfl dX6_borderOf_34 rfl rfl ?_
  refine a_lload 0 37 rfl dX6_borderOf_35 rfl ?_
  refine a_lor 38 rfl dX6_borderOf_37 ?_
  refine a_lload_n 3 39 rfl dX6_borderOf_38 rfl rfl ?_
  refine a_aload_n 2 40 rfl dX6_borderOf_39 rfl rfl ?_
  refine a_get 1 cl_6 f_RX6_9_6 (by decide) (hC) rfl 43 rfl dX6_borderOf_40 ?_
  refine a_lushr 44 rfl dX6_borderOf_43 ?_
  refine a_lor 45 rfl dX6_borderOf_44 ?_
  refine a_lload_n 3 46 rfl dX6_borderOf_45 rfl rfl ?_
  refine a_aload_n 2 47 rfl dX6_borderOf_46 rfl rfl ?_
  refine a_get 1 cl_6 f_RX6_9_6 (by decide) (hC) rfl 50 rfl dX6_borderOf_47 ?_
  refine a_lshl 51 rfl dX6_borderOf_50 ?_
  refine a_lor 52 rfl dX6_borderOf_51 ?_
  refine a_aload_n 2 53 rfl dX6_borderOf_52 rfl rfl ?_
  refine a_callU (as := []) (C := RX6) (owner := "LeastShadows$Ground") (x := ⟨"LeastShadows$Grid", "all", "()J"⟩) (rest := [.long ((((f_sr (x &&& ((f_column w9 0 t9) ^^^ (-1))) (1 : Int32)) ||| (f_sl (x &&& ((f_column w9 (nI w9 - 1) t9) ^^^ (-1))) (1 : Int32))) ||| (f_sr x (nI w9))) ||| (f_sl x (nI w9)))]) (st2 := [.long (f_all (w9 * t9)), .long ((((f_sr (x &&& ((f_column w9 0 t9) ^^^ (-1))) (1 : Int32)) ||| (f_sl (x &&& ((f_column w9 (nI w9 - 1) t9) ^^^ (-1))) (1 : Int32))) ||| (f_sr x (nI w9))) ||| (f_sl x (nI w9)))]) (u1 := 0) (v1 := 0) (u2 := 0) (v2 := 0) (r_all_grid hC hp) (⟨_, _, _, _, hC, rfl⟩) oX7_all ⟨q_678, q_679, q_680, q_379, ⟨by decide, by decide⟩, Or.inl rfl⟩ rfl (by decide) (by decide) rfl (Nat.le_of_ble_eq_true rfl) 56 rfl dX6_borderOf_53 rfl ?_
  refine a_land 57 rfl dX6_borderOf_56 ?_
  refine a_lload_n 3 58 rfl dX6_borderOf_57 rfl rfl ?_
  refine a_ldc2 q_677 61 rfl dX6_borderOf_58 ?_
  refine a_lxor 62 rfl dX6_borderOf_61 ?_
  refine a_land 63 rfl dX6_borderOf_62 ?_
  exact a_lreturn rfl (rfl) (rfl) dX6_borderOf_63
def f_edgesG (w t : Nat) (x : Int64) : Int32 := f_bcL ((x ^^^ f_sr x 1) &&& (f_column w (nI w - 1) t ^^^ (-1)) &&& f_all (w * t)) + f_bcL ((x ^^^ f_sr x (nI w)) &&& f_sr (f_all (w * t)) (nI w))
theorem r_X6_edgesOf (hC : h[a]? = some (c_O 6 [.ref (g_ad G ka), .int (nI w9), .int (nI t9)])) (hp : w9 * t9 ≤ 64) (ht : t9 ≤ 8) : g_Run G mX6_edgesOf 3 0 0 [.ref (g_ad G a), .long x] h (some (.int (f_edgesG w9 t9 x))) h := by
  refine g_Run.of (lv := [(0, .ref (g_ad G a)), (1, .long x)]) (by decide) (Nat.le_of_ble_eq_true rfl) rfl ?_
  refine a_lload_n 1 1 rfl dX6_edgesOf_0 rfl rfl ?_
  refine a_lload_n 1 2 rfl dX6_edgesOf_1 rfl rfl ?_
  refine a_iconst (x := 1) 3 rfl dX6_edgesOf_2 (by decide) ?_
  refine a_lushr 4 rfl dX6_edgesOf_3 ?_
  refine a_lxor 5 rfl dX6_edgesOf_4 ?_
  refine a_aload_n 0 6 rfl dX6_edgesOf_5 rfl rfl ?_
  refine a_aload_n 0 7 rfl dX6_edgesOf_6 rfl rfl ?_
  refine a_get 1 cl_6 f_RX6_9_6 (by decide) (hC) rfl 10 rfl dX6_edgesOf_7 ?_
  refine a_iconst (x := 1) 11 rfl dX6_edgesOf_10 (by decide) ?_
  refine a_isub 12 rfl dX6_edgesOf_11 ?_
  refine a_callV (as := [.int ((nI w9) - 1)]) (rest := [.long (x ^^^ (f_sr x (1 : Int32)))]) (st2 := [.long (f_column w9 (nI w9 - 1) t9), .long (x ^^^ (f_sr x (1 : Int32)))]) (u1 := 0) (v1 := 0) (u2 := 0) (v2 := 0) (r_X6_column hC ht) (⟨_, _, _, _, hC, rfl⟩) oX6_column q_673 q_675 q_32 rfl (by decide) (by decide) rfl (Nat.le_of_ble_eq_true rfl) 15 rfl dX6_edgesOf_12 rfl ?_
  refine a_ldc2 q_677 18 rfl dX6_edgesOf_15 ?_
  refine a_lxor 19 rfl dX6_edgesOf_18 ?_
  refine a_land 20 rfl dX6_edgesOf_19 ?_
  refine a_aload_n 0 21 rfl dX6_edgesOf_20 rfl rfl ?_
  refine a_callU (as := []) (C := RX6) (owner := "LeastShadows$Ground") (x := ⟨"LeastShadows$Grid", "all", "()J"⟩) (rest := [.long ((x ^^^ (f_sr x (1 : Int32))) &&& ((f_column w9 (nI w9 - 1) t9) ^^^ (-1)))]) (st2 := [.long (f_all (w9 * t9)), .long ((x ^^^ (f_sr x (1 : Int32))) &&& ((f_column w9 (nI w9 - 1) t9) ^^^ (-1)))]) (u1 := 0) (v1 := 0) (u2 := 0) (v2 := 0) (r_all_grid hC hp) (⟨_, _, _, _, hC, rfl⟩) oX7_all ⟨q_678, q_679, q_680, q_379, ⟨by decide, by decide⟩, Or.inl rfl⟩ rfl (by decide) (by decide) rfl (Nat.le_of_ble_eq_true rfl) 24 rfl dX6_edgesOf_21 rfl ?_
  refine a_land 25 rfl dX6_edgesOf_24 ?_
  refine a_lstore_n (lv' := [(3, .long (((x ^^^ (f_sr x (1 : Int32))) &&& ((f_column w9 (nI w9 - 1) t9) ^^^ (-1))) &&& (f_all (w9 * t9)))), (0, .ref (g_ad G a)), (1, .long x)]) 26 rfl dX6_edgesOf_25 rfl (by decide) rfl ?_
  refine a_lload_n 2 27 rfl dX6_edgesOf_26 rfl rfl ?_
  refine a_lload_n 2 28 rfl dX6_edgesOf_27 rfl rfl ?_
  refine a_aload_n 1 29 rfl dX6_edgesOf_28 rfl rfl ?_
  refine a_get 1 cl_6 f_RX6_9_6 (by decide) (hC) rfl 32 rfl dX6_edgesOf_29 ?_
  refine a_lushr 33 rfl dX6_edgesOf_32 ?_
  refine a_lxor 34 rfl dX6_edgesOf_33 ?_
  refine a_aload_n 1 35 rfl dX6_edgesOf_34 rfl rfl ?_
  refine a_callU (as := []) (C := RX6) (owner := "LeastShadows$Ground") (x := ⟨"LeastShadows$Grid", "all", "()J"⟩) (rest := [.long (x ^^^ (f_sr x (nI w9)))]) (st2 := [.long (f_all (w9 * t9)), .long (x ^^^ (f_sr x (nI w9)))]) (u1 := 0) (v1 := 0) (u2 := 0) (v2 := 0) (r_all_grid hC hp) (⟨_, _, _, _, hC, rfl⟩) oX7_all ⟨q_678, q_679, q_680, q_379, ⟨by decide, by decide⟩, Or.inl rfl⟩ rfl (by decide) (by decide) rfl (Nat.le_of_ble_eq_true rfl) 38 rfl dX6_edgesOf_35 rfl ?_
  refine a_aload_n 1 39 rfl dX6_edgesOf_38 rfl rfl ?_
  refine a_get 1 cl_6 f_RX6_9_6 (by decide) (hC) rfl 42 rfl dX6_edgesOf_39 ?_
  refine a_lushr 43 rfl dX6_edgesOf_42 ?_
  refine a_land 44 rfl dX6_edgesOf_43 ?_
  refine a_lstore (lv' := [(5, .long ((x ^^^ (f_sr x (nI w9))) &&& (f_sr (f_all (w9 * t9)) (nI w9)))), (3, .long (((x ^^^ (f_sr x (1 : Int32))) &&& ((f_column w9 (nI w9 - 1) t9) ^^^ (-1))) &&& (f_all (w9 * t9)))), (0, .ref (g_ad G a)), (1, .long x)]) 46 rfl dX6_edgesOf_44 (by decide) rfl ?_
  refine a_lload_n 1 47 rfl dX6_edgesOf_46 rfl rfl ?_
  refine a_callS (as := [.long (((x ^^^ (f_sr x (1 : Int32))) &&& ((f_column w9 (nI w9 - 1) t9) ^^^ (-1))) &&& (f_all (w9 * t9)))]) (rest := []) (st2 := [.int (f_bcL ((x ^^^ f_sr x 1) &&& (f_column w9 (nI w9 - 1) t9 ^^^ (-1)) &&& f_all (w9 * t9)))]) (u1 := 0) (v1 := 0) (u2 := 0) (v2 := 0) (r_bitCountL) oJ13_bitCount_95d88 q_681 q_522 rfl (by decide) (by decide) rfl (Nat.le_of_ble_eq_true rfl) 50 rfl dX6_edgesOf_47 rfl ?_
  refine a_lload 0 52 rfl dX6_edgesOf_50 rfl ?_
  refine a_callS (as := [.long ((x ^^^ (f_sr x (nI w9))) &&& (f_sr (f_all (w9 * t9)) (nI w9)))]) (rest := [.int (f_bcL ((x ^^^ f_sr x 1) &&& (f_column w9 (nI w9 - 1) t9 ^^^ (-1)) &&& f_all (w9 * t9)))]) (st2 := [.int (f_bcL ((x ^^^ f_sr x (nI w9)) &&& f_sr (f_all (w9 * t9)) (nI w9))), .int (f_bcL ((x ^^^ f_sr x 1) &&& (f_column w9 (nI w9 - 1) t9 ^^^ (-1)) &&& f_all (w9 * t9)))]) (u1 := 0) (v1 := 0) (u2 := 0) (v2 := 0) (r_bitCountL) oJ13_bitCount_95d88 q_681 q_522 rfl (by decide) (by decide) rfl (Nat.le_of_ble_eq_true rfl) 55 rfl dX6_edgesOf_52 rfl ?_
  refine a_iadd 56 rfl dX6_edgesOf_55 ?_
  exact a_ireturn .int rfl rfl (rfl) (rfl) dX6_edgesOf_56
theorem r_X6_measure0 (hC : h[a]? = some (c_O 6 [.ref (g_ad G ka), .int (nI w9), .int (nI t9)])) (hp : w9 * t9 ≤ 64) (ht : t9 ≤ 8) : g_Run G mX6_measure 4 0 0 [.ref (g_ad G a), .int 0, .long x] h (some (.int (f_bcL (f_borderG w9 t9 x)))) h := by
  refine g_Run.of (lv := [(0, .ref (g_ad G a)), (1, .int 0), (2, .long x)]) (by decide) (Nat.le_of_ble_eq_true rfl) rfl ?_
  refine a_iload_n 1 1 rfl dX6_measure_0 rfl rfl ?_
  refine a_if_ne 15 4 rfl dX6_measure_1 (by decide) (fun hc => absurd (rfl) hc) (fun _ => ?_)
  refine a_aload_n 0 5 rfl dX6_measure_4 rfl rfl ?_
  refine a_lload_n 2 6 rfl dX6_measure_5 rfl rfl ?_
  refine a_callV (as := [.long x]) (rest := []) (st2 := [.long (f_borderG w9 t9 x)]) (u1 := 0) (v1 := 0) (u2 := 0) (v2 := 0) (r_X6_borderOf hC hp ht) (⟨_, _, _, _, hC, rfl⟩) oX6_borderOf q_669 q_671 q_31 rfl (by decide) (by decide) rfl (Nat.le_of_ble_eq_true rfl) 9 rfl dX6_measure_6 rfl ?_
  refine a_callS (as := [.long (f_borderG w9 t9 x)]) (rest := []) (st2 := [.int (f_bcL (f_borderG w9 t9 x))]) (u1 := 0) (v1 := 0) (u2 := 0) (v2 := 0) (r_bitCountL) oJ13_bitCount_95d88 q_681 q_522 rfl (by decide) (by decide) rfl (Nat.le_of_ble_eq_true rfl) 12 rfl dX6_measure_9 rfl ?_
  refine a_goto 20 dX6_measure_12 (by decide) ?_
  exact a_ireturn .int rfl rfl (rfl) (rfl) dX6_measure_20
theorem r_X6_measure1 (hC : h[a]? = some (c_O 6 [.ref (g_ad G ka), .int (nI w9), .int (nI t9)])) (hp : w9 * t9 ≤ 64) (ht : t9 ≤ 8) : g_Run G mX6_measure 4 0 0 [.ref (g_ad G a), .int 1, .long x] h (some (.int (f_edgesG w9 t9 x))) h := by
  refine g_Run.of (lv := [(0, .ref (g_ad G a)), (1, .int 1), (2, .long x)]) (by decide) (Nat.le_of_ble_eq_true rfl) rfl ?_
  refine a_iload_n 1 1 rfl dX6_measure_0 rfl rfl ?_
  refine a_if_ne 15 4 rfl dX6_measure_1 (by decide) (fun _ => ?_) (fun hc => absurd hc ((by decide)))
  refine a_aload_n 0 16 rfl dX6_measure_15 rfl rfl ?_
  refine a_lload_n 2 17 rfl dX6_measure_16 rfl rfl ?_
  refine a_callV (as := [.long x]) (rest := []) (st2 := [.int (f_edgesG w9 t9 x)]) (u1 := 0) (v1 := 0) (u2 := 0) (v2 := 0) (r_X6_edgesOf hC hp ht) (⟨_, _, _, _, hC, rfl⟩) oX6_edgesOf q_682 q_684 q_33 rfl (by decide) (by decide) rfl (Nat.le_of_ble_eq_true rfl) 20 rfl dX6_measure_17 rfl ?_
  exact a_ireturn .int rfl rfl (rfl) (rfl) dX6_measure_20
theorem r_X3_measure0 (hC : h[a]? = some (c_O 3 [.ref (g_ad G ka), .int (nI n)])) (hn : n ≤ 6) : g_Run G mX3_measure 4 0 0 [.ref (g_ad G a), .int 0, .long x] h (some (.int (f_bcL (f_border x n)))) h := by
  refine g_Run.of (lv := [(0, .ref (g_ad G a)), (1, .int 0), (2, .long x)]) (by decide) (Nat.le_of_ble_eq_true rfl) rfl ?_
  refine a_iload_n 1 1 rfl dX3_measure_0 rfl rfl ?_
  refine a_lookup (off := 27) 28 dX3_measure_1 (by decide) (by decide) (by decide) ?_
  refine a_aload_n 0 29 rfl dX3_measure_28 rfl rfl ?_
  refine a_lload_n 2 30 rfl dX3_measure_29 rfl rfl ?_
  refine a_callV (as := [.long x]) (rest := []) (st2 := [.long (f_border x n)]) (u1 := 0) (v1 := 0) (u2 := 0) (v2 := 0) (r_X3_borderOf hC hn) (⟨_, _, _, _, hC, rfl⟩) oX3_borderOf q_664 q_513 q_20 rfl (by decide) (by decide) rfl (Nat.le_of_ble_eq_true rfl) 33 rfl dX3_measure_30 rfl ?_
  refine a_callS (as := [.long (f_border x n)]) (rest := []) (st2 := [.int (f_bcL (f_border x n))]) (u1 := 0) (v1 := 0) (u2 := 0) (v2 := 0) (r_bitCountL) oJ13_bitCount_95d88 q_531 q_522 rfl (by decide) (by decide) rfl (Nat.le_of_ble_eq_true rfl) 36 rfl dX3_measure_33 rfl ?_
  exact a_ireturn .int rfl rfl (rfl) (rfl) dX3_measure_36
theorem r_X3_measure1 (hC : h[a]? = some (c_O 3 [.ref (g_ad G ka), .int (nI n)])) (hn : n ≤ 6) : g_Run G mX3_measure 4 0 0 [.ref (g_ad G a), .int 1, .long x] h (some (.int (f_edges x n n))) h := by
  refine g_Run.of (lv := [(0, .ref (g_ad G a)), (1, .int 1), (2, .long x)]) (by decide) (Nat.le_of_ble_eq_true rfl) rfl ?_
  refine a_iload_n 1 1 rfl dX3_measure_0 rfl rfl ?_
  refine a_lookup (off := 36) 37 dX3_measure_1 (by decide) (by decide) (by decide) ?_
  refine a_aload_n 0 38 rfl dX3_measure_37 rfl rfl ?_
  refine a_lload_n 2 39 rfl dX3_measure_38 rfl rfl ?_
  refine a_callV (as := [.long x]) (rest := []) (st2 := [.int (f_edges x n n)]) (u1 := 0) (v1 := 0) (u2 := 0) (v2 := 0) (r_X3_edgesOf hC hn) (⟨_, _, _, _, hC, rfl⟩) oX3_edgesOf q_665 q_529 q_21 rfl (by decide) (by decide) rfl (Nat.le_of_ble_eq_true rfl) 42 rfl dX3_measure_39 rfl ?_
  exact a_ireturn .int rfl rfl (rfl) (rfl) dX3_measure_42
theorem r_X3_measure2 (hC : h[a]? = some (c_O 3 [.ref (g_ad G ka), .int (nI n)])) (hn : n ≤ 6) : g_Run G mX3_measure 4 0 0 [.ref (g_ad G a), .int 2, .long x] h (some (.int (f_bcL (f_shadow x n)))) h := by
  refine g_Run.of (lv := [(0, .ref (g_ad G a)), (1, .int 2), (2, .long x)]) (by decide) (Nat.le_of_ble_eq_true rfl) rfl ?_
  refine a_iload_n 1 1 rfl dX3_measure_0 rfl rfl ?_
  refine a_lookup (off := 42) 43 dX3_measure_1 (by decide) (by decide) (by decide) ?_
  refine a_aload_n 0 44 rfl dX3_measure_43 rfl rfl ?_
  refine a_lload_n 2 45 rfl dX3_measure_44 rfl rfl ?_
  refine a_callV (as := [.long x]) (rest := []) (st2 := [.long (f_shadow x n)]) (u1 := 0) (v1 := 0) (u2 := 0) (v2 := 0) (r_X3_shadowOf hC hn) (⟨_, _, _, _, hC, rfl⟩) oX3_shadowOf q_515 q_505 q_18 rfl (by decide) (by decide) rfl (Nat.le_of_ble_eq_true rfl) 48 rfl dX3_measure_45 rfl ?_
  refine a_callS (as := [.long (f_shadow x n)]) (rest := []) (st2 := [.int (f_bcL (f_shadow x n))]) (u1 := 0) (v1 := 0) (u2 := 0) (v2 := 0) (r_bitCountL) oJ13_bitCount_95d88 q_531 q_522 rfl (by decide) (by decide) rfl (Nat.le_of_ble_eq_true rfl) 51 rfl dX3_measure_48 rfl ?_
  exact a_ireturn .int rfl rfl (rfl) (rfl) dX3_measure_51
/-- the last elements first -/
def f_mirI (y : Int32) : Nat → Int32
  | 0 => 0
  | e + 1 => f_mirI y e * 2 + ((y.toUInt32 >>> ((nI e).toUInt32 &&& Int32.toUInt32 31)).toInt32 &&& 1)
def f_leK (y : Int32) : Int32 := f_bcI y * 64 + 64 - 1 - f_mirI y 6
theorem r_X3_leastElementKey : g_Run G mX3_leastElementKey 2 0 0 [.int y] h (some (.int (f_leK y))) h := by
  refine g_Run.of (lv := [(0, .int y)]) (by decide) (Nat.le_of_ble_eq_true rfl) rfl ?_
  refine a_iconst (x := 0) 1 rfl dX3_leastElementKey_0 (by decide) ?_
  refine a_istore_n (lv' := [(1, .int 0), (0, .int y)]) 2 rfl dX3_leastElementKey_1 rfl (by decide) rfl ?_
  refine a_iconst (x := 0) 3 rfl dX3_leastElementKey_2 (by decide) ?_
  refine a_istore_n (lv' := [(2, .int 0), (1, .int 0), (0, .int y)]) 4 rfl dX3_leastElementKey_3 rfl (by decide) rfl ?_
  have key : ∀ jj ii : Nat, ii + jj = 6 → g_A G mX3_leastElementKey 2 0 0 4 [(2, .int (nI ii)), (1, .int (f_mirI y ii)), (0, .int y)] [] h (some (.int (f_leK y))) h := by
    intro jj
    induction jj with
    | zero =>
      intro ii hii
      refine a_iload_n 0 5 rfl dX3_leastElementKey_4 rfl rfl ?_
      refine a_bipush (x := 6) 7 rfl dX3_leastElementKey_5 (by decide) ?_
      refine a_icmp_ge 26 10 rfl dX3_leastElementKey_7 (by decide) (fun _ => ?_) (fun hc => absurd ((nI_le (a := 6) (by omega) (by omega))) hc)
      refine a_iload_n 2 27 rfl dX3_leastElementKey_26 rfl rfl ?_
      refine a_callS (as := [.int y]) (rest := []) (st2 := [.int (f_bcI y)]) (u1 := 0) (v1 := 0) (u2 := 0) (v2 := 0) (r_bitCountI) oJ6_bitCount_0f7a4 q_489 q_490 rfl (by decide) (by decide) rfl (Nat.le_of_ble_eq_true rfl) 30 rfl dX3_leastElementKey_27 rfl ?_
      refine a_bipush (x := 64) 32 rfl dX3_leastElementKey_30 (by decide) ?_
      refine a_imul 33 rfl dX3_leastElementKey_32 ?_
      refine a_bipush (x := 64) 35 rfl dX3_leastElementKey_33 (by decide) ?_
      refine a_iadd 36 rfl dX3_leastElementKey_35 ?_
      refine a_iconst (x := 1) 37 rfl dX3_leastElementKey_36 (by decide) ?_
      refine a_isub 38 rfl dX3_leastElementKey_37 ?_
      refine a_iload_n 1 39 rfl dX3_leastElementKey_38 rfl rfl ?_
      refine a_isub 40 rfl dX3_leastElementKey_39 ?_
      exact a_ireturn .int rfl rfl ((by rw [f_leK, show ii = 6 by omega])) (rfl) dX3_leastElementKey_40
    | succ jj ih =>
      intro ii hii
      refine a_iload_n 0 5 rfl dX3_leastElementKey_4 rfl rfl ?_
      refine a_bipush (x := 6) 7 rfl dX3_leastElementKey_5 (by decide) ?_
      refine a_icmp_ge 26 10 rfl dX3_leastElementKey_7 (by decide) (fun hc => absurd hc (nI_ge (b := 6) (by omega) (by omega))) (fun _ => ?_)
      refine a_iload_n 1 11 rfl dX3_leastElementKey_10 rfl rfl ?_
      refine a_iconst (x := 2) 12 rfl dX3_leastElementKey_11 (by decide) ?_
      refine a_imul 13 rfl dX3_leastElementKey_12 ?_
      refine a_iload_n 2 14 rfl dX3_leastElementKey_13 rfl rfl ?_
      refine a_iload_n 0 15 rfl dX3_leastElementKey_14 rfl rfl ?_
      refine a_iushr 16 rfl dX3_leastElementKey_15 ?_
      refine a_iconst (x := 1) 17 rfl dX3_leastElementKey_16 (by decide) ?_
      refine a_iand 18 rfl dX3_leastElementKey_17 ?_
      refine a_iadd 19 rfl dX3_leastElementKey_18 ?_
      refine a_istore_n (lv' := [(1, .int (((f_mirI y ii) * 2) + (((y.toUInt32 >>> ((nI ii).toUInt32 &&& Int32.toUInt32 31)).toInt32) &&& 1))), (2, .int (nI ii)), (0, .int y)]) 20 rfl dX3_leastElementKey_19 rfl (by decide) rfl ?_
      refine a_iinc (y := nI (ii + 1)) (lv' := [(2, .int (nI (ii + 1))), (1, .int (((f_mirI y ii) * 2) + (((y.toUInt32 >>> ((nI ii).toUInt32 &&& Int32.toUInt32 31)).toInt32) &&& 1))), (0, .int y)]) 1 23 rfl dX3_leastElementKey_20 rfl (nI_1 ii) (by decide) rfl ?_
      refine a_goto 4 dX3_leastElementKey_23 (by decide) ?_
      exact ih (ii + 1) (by omega)
  exact key 6 0 (by omega)
def f_keyC (n o : Nat) (y : Int32) : Int32 := match o with
  | 1 => f_leK y
  | 2 => f_bcI y * 64 + y
  | 3 => f_leK y + (y.toUInt32 >>> ((nI n - 1).toUInt32 &&& Int32.toUInt32 31)).toInt32 * 1024
  | _ => y
theorem r_X3_keyBy {o : Nat} (hC : h[a]? = some (c_O 3 [.ref (g_ad G ka), .int (nI n)])) (ho : o < 4) : g_Run G mX3_keyBy 3 0 0 [.ref (g_ad G a), .int (nI o), .int y] h (some (.int (f_keyC n o y))) h := by
  refine g_Run.of (lv := [(0, .ref (g_ad G a)), (1, .int (nI o)), (2, .int y)]) (by decide) (Nat.le_of_ble_eq_true rfl) rfl ?_
  refine a_iload_n 1 1 rfl dX3_keyBy_0 rfl rfl ?_
  match o, ho with
  | 0, _ =>
    refine a_tableOut 61 dX3_keyBy_1 ((Or.inl (by decide))) (by decide) ?_
    refine a_iload_n 2 62 rfl dX3_keyBy_61 rfl rfl ?_
    exact a_ireturn .int rfl rfl (rfl) (rfl) dX3_keyBy_62
  | 1, _ =>
    refine a_tableIn (off := 27) 28 dX3_keyBy_1 (by decide) (by decide) (by decide) (by decide) ?_
    refine a_iload_n 2 29 rfl dX3_keyBy_28 rfl rfl ?_
    refine a_callS (as := [.int y]) (rest := []) (st2 := [.int (f_leK y)]) (u1 := 0) (v1 := 0) (u2 := 0) (v2 := 0) (r_X3_leastElementKey) oX3_leastElementKey q_606 q_607 rfl (by decide) (by decide) rfl (Nat.le_of_ble_eq_true rfl) 32 rfl dX3_keyBy_29 rfl ?_
    exact a_ireturn .int rfl rfl (rfl) (rfl) dX3_keyBy_32
  | 2, _ =>
    refine a_tableIn (off := 32) 33 dX3_keyBy_1 (by decide) (by decide) (by decide) (by decide) ?_
    refine a_iload_n 2 34 rfl dX3_keyBy_33 rfl rfl ?_
    refine a_callS (as := [.int y]) (rest := []) (st2 := [.int (f_bcI y)]) (u1 := 0) (v1 := 0) (u2 := 0) (v2 := 0) (r_bitCountI) oJ6_bitCount_0f7a4 q_489 q_490 rfl (by decide) (by decide) rfl (Nat.le_of_ble_eq_true rfl) 37 rfl dX3_keyBy_34 rfl ?_
    refine a_bipush (x := 64) 39 rfl dX3_keyBy_37 (by decide) ?_
    refine a_imul 40 rfl dX3_keyBy_39 ?_
    refine a_iload_n 2 41 rfl dX3_keyBy_40 rfl rfl ?_
    refine a_iadd 42 rfl dX3_keyBy_41 ?_
    exact a_ireturn .int rfl rfl (rfl) (rfl) dX3_keyBy_42
  | 3, _ =>
    refine a_tableIn (off := 42) 43 dX3_keyBy_1 (by decide) (by decide) (by decide) (by decide) ?_
    refine a_iload_n 2 44 rfl dX3_keyBy_43 rfl rfl ?_
    refine a_callS (as := [.int y]) (rest := []) (st2 := [.int (f_leK y)]) (u1 := 0) (v1 := 0) (u2 := 0) (v2 := 0) (r_X3_leastElementKey) oX3_leastElementKey q_606 q_607 rfl (by decide) (by decide) rfl (Nat.le_of_ble_eq_true rfl) 47 rfl dX3_keyBy_44 rfl ?_
    refine a_iload_n 2 48 rfl dX3_keyBy_47 rfl rfl ?_
    refine a_aload_n 0 49 rfl dX3_keyBy_48 rfl rfl ?_
    refine a_get 1 cl_3 f_RX3_9_3 (by decide) (hC) rfl 52 rfl dX3_keyBy_49 ?_
    refine a_iconst (x := 1) 53 rfl dX3_keyBy_52 (by decide) ?_
    refine a_isub 54 rfl dX3_keyBy_53 ?_
    refine a_iushr 55 rfl dX3_keyBy_54 ?_
    refine a_sipush (x := 1024) 58 rfl dX3_keyBy_55 (by decide) ?_
    refine a_imul 59 rfl dX3_keyBy_58 ?_
    refine a_iadd 60 rfl dX3_keyBy_59 ?_
    exact a_ireturn .int rfl rfl (rfl) (rfl) dX3_keyBy_60
def f_keyG (w o : Nat) (y : Int32) : Int32 := match o with
  | 1 => (y - y / nI w * nI w + y / nI w) * 8 + (y - y / nI w * nI w)
  | 2 => (if y - y / nI w * nI w < y / nI w then y / nI w else y - y / nI w * nI w) * 64 + y
  | _ => y
theorem r_X6_keyBy {o : Nat} (hC : h[a]? = some (c_O 6 [.ref (g_ad G ka), .int (nI w9), .int (nI t9)])) (hw0 : 0 < w9) (hw : w9 ≤ 8) (ho : o < 3) : g_Run G mX6_keyBy 2 0 0 [.ref (g_ad G a), .int (nI o), .int y] h (some (.int (f_keyG w9 o y))) h := by
  have hnz : ¬ nI w9 = 0 := nI_ne0 hw0 (by omega)
  refine g_Run.of (lv := [(0, .ref (g_ad G a)), (1, .int (nI o)), (2, .int y)]) (by decide) (Nat.le_of_ble_eq_true rfl) rfl ?_
  refine a_aload_n 0 1 rfl dX6_keyBy_0 rfl rfl ?_
  refine a_get 1 cl_6 f_RX6_9_6 (by decide) (hC) rfl 4 rfl dX6_keyBy_1 ?_
  refine a_if_gt 9 7 rfl dX6_keyBy_4 (by decide) (fun _ => ?_) (fun hc => absurd (nI_lt (a := 0) hw0 (by omega)) hc)
  refine a_iload_n 2 10 rfl dX6_keyBy_9 rfl rfl ?_
  refine a_aload_n 0 11 rfl dX6_keyBy_10 rfl rfl ?_
  refine a_get 1 cl_6 f_RX6_9_6 (by decide) (hC) rfl 14 rfl dX6_keyBy_11 ?_
  refine a_irem 15 rfl dX6_keyBy_14 (hnz) ?_
  refine a_istore_n (lv' := [(3, .int (y - y / (nI w9) * (nI w9))), (0, .ref (g_ad G a)), (1, .int (nI o)), (2, .int y)]) 16 rfl dX6_keyBy_15 rfl (by decide) rfl ?_
  refine a_iload_n 3 17 rfl dX6_keyBy_16 rfl rfl ?_
  refine a_aload_n 1 18 rfl dX6_keyBy_17 rfl rfl ?_
  refine a_get 1 cl_6 f_RX6_9_6 (by decide) (hC) rfl 21 rfl dX6_keyBy_18 ?_
  refine a_idiv 22 rfl dX6_keyBy_21 (hnz) ?_
  refine a_istore (lv' := [(4, .int (y / (nI w9))), (3, .int (y - y / (nI w9) * (nI w9))), (0, .ref (g_ad G a)), (1, .int (nI o)), (2, .int y)]) 24 rfl dX6_keyBy_22 (by decide) rfl ?_
  refine a_iload_n 3 25 rfl dX6_keyBy_24 rfl rfl ?_
  match o, ho with
  | 0, _ =>
    refine a_lookup (off := 49) 74 dX6_keyBy_25 (by decide) (by decide) (by decide) ?_
    refine a_iload_n 4 75 rfl dX6_keyBy_74 rfl rfl ?_
    exact a_ireturn .int rfl rfl (rfl) (rfl) dX6_keyBy_75
  | 1, _ =>
    refine a_lookup (off := 27) 52 dX6_keyBy_25 (by decide) (by decide) (by decide) ?_
    refine a_iload_n 1 53 rfl dX6_keyBy_52 rfl rfl ?_
    refine a_iload 0 55 rfl dX6_keyBy_53 rfl ?_
    refine a_iadd 56 rfl dX6_keyBy_55 ?_
    refine a_bipush (x := 8) 58 rfl dX6_keyBy_56 (by decide) ?_
    refine a_imul 59 rfl dX6_keyBy_58 ?_
    refine a_iload_n 1 60 rfl dX6_keyBy_59 rfl rfl ?_
    refine a_iadd 61 rfl dX6_keyBy_60 ?_
    exact a_ireturn .int rfl rfl (rfl) (rfl) dX6_keyBy_61
  | 2, _ =>
    refine a_lookup (off := 37) 62 dX6_keyBy_25 (by decide) (by decide) (by decide) ?_
    refine a_iload_n 1 63 rfl dX6_keyBy_62 rfl rfl ?_
    refine a_iload 0 65 rfl dX6_keyBy_63 rfl ?_
    refine a_maxII q_612 q_613 q_134 q_614 (by decide) (Nat.le_of_ble_eq_true rfl) 68 rfl dX6_keyBy_65 ?_
    refine a_bipush (x := 64) 70 rfl dX6_keyBy_68 (by decide) ?_
    refine a_imul 71 rfl dX6_keyBy_70 ?_
    refine a_iload_n 4 72 rfl dX6_keyBy_71 rfl rfl ?_
    refine a_iadd 73 rfl dX6_keyBy_72 ?_
    exact a_ireturn .int rfl rfl (rfl) (rfl) dX6_keyBy_73
/-- how many of the first i keys are below that at s -/
def f_rank (f : Nat → Int32) (s : Nat) : Nat → Nat
  | 0 => 0
  | i + 1 => if f i < f s then f_rank f s i + 1 else f_rank f s i
theorem f_rank_le (f : Nat → Int32) (s i : Nat) : f_rank f s i ≤ i := by
  induction i with
  | zero => exact Nat.le_refl _
  | succ i ih => unfold f_rank; split <;> omega
/-- the first i places by rank below m -/
def f_firsts (f : Nat → Int32) (p : Nat) (m : Int32) : Nat → Int64
  | 0 => 0
  | i + 1 => if nI (f_rank f i p) < m then f_firsts f p m i ||| f_sl 1 (nI i) else f_firsts f p m i
theorem r_layKeys_cube {o : Nat} {f : Nat → Int32} (hC : h[a]? = some (c_O 3 [.ref (g_ad G ka), .int (nI n)])) (hK : h[ka]? = some (c_I G 64 f)) (hne : ka ≠ a) (hn : n ≤ 6) (ho : o < 4) : ∃ f2 : Nat → Int32, (∀ j, j < 2 ^ n → f2 j = f_keyC n o (nI j)) ∧ g_Run G mX7_layKeys 4 0 0 [.ref (g_ad G a), .int (nI o)] h none (h.set ka (c_I G 64 f2)) := by
  have hp : 2 ^ n ≤ 64 := Nat.pow_le_pow_right (by decide) hn
  have key : ∀ jj ii : Nat, ii + jj = 2 ^ n → ∀ f1 : Nat → Int32, (∀ q7, q7 < ii → f1 q7 = f_keyC n o (nI q7)) → ∃ f2 : Nat → Int32, (∀ q7, q7 < 2 ^ n → f2 q7 = f_keyC n o (nI q7)) ∧ g_A G mX7_layKeys 4 0 0 2 [(2, .int (nI ii)), (0, .ref (g_ad G a)), (1, .int (nI o))] [] (h.set ka (c_I G 64 f1)) none (h.set ka (c_I G 64 f2)) := by
    intro jj
    induction jj with
    | zero =>
      intro ii hii f1 hf1
      have hC2 : (h.set ka (c_I G 64 f1))[a]? = some (c_O 3 [.ref (g_ad G ka), .int (nI n)]) := g_set_ne hne hC
      refine ⟨f1, fun q7 hq7 => hf1 q7 (by omega), ?_⟩
      refine a_iload_n 0 3 rfl dX7_layKeys_2 rfl rfl ?_
      refine a_aload_n 1 4 rfl dX7_layKeys_3 rfl rfl ?_
      refine a_callU (as := []) (C := RX3) (owner := "LeastShadows$Ground") (x := ⟨"LeastShadows$Ground", "places", "()I"⟩) (rest := [.int (nI ii)]) (st2 := [.int (nI (2 ^ n)), .int (nI ii)]) (u1 := 0) (v1 := 0) (u2 := 0) (v2 := 0) ((fun hC => r_X3_places hC hn) hC2) (⟨_, _, _, _, hC2, rfl⟩) oX3_places ⟨q_384, q_386, q_387, q_388, ⟨by decide, by decide⟩, Or.inr q_385⟩ rfl (by decide) (by decide) rfl (Nat.le_of_ble_eq_true rfl) 7 rfl dX7_layKeys_4 rfl ?_
      refine a_icmp_ge 37 10 rfl dX7_layKeys_7 (by decide) (fun _ => ?_) (fun hc => absurd (nI_le (by omega) (by omega)) hc)
      exact a_return rfl (rfl) (rfl) dX7_layKeys_37
    | succ jj ih =>
      intro ii hii f1 hf1
      have hC2 : (h.set ka (c_I G 64 f1))[a]? = some (c_O 3 [.ref (g_ad G ka), .int (nI n)]) := g_set_ne hne hC
      obtain ⟨f2, hf2, w⟩ := ih (ii + 1) (by omega) (upd f1 ii (f_keyC n o (nI ii))) (fun q7 hq7 => by
        by_cases e7 : q7 = ii
        · rw [e7]; exact pk_us
        · rw [pk_un e7]; exact hf1 q7 (by omega))
      refine ⟨f2, hf2, ?_⟩
      refine a_iload_n 0 3 rfl dX7_layKeys_2 rfl rfl ?_
      refine a_aload_n 1 4 rfl dX7_layKeys_3 rfl rfl ?_
      refine a_callU (as := []) (C := RX3) (owner := "LeastShadows$Ground") (x := ⟨"LeastShadows$Ground", "places", "()I"⟩) (rest := [.int (nI ii)]) (st2 := [.int (nI (2 ^ n)), .int (nI ii)]) (u1 := 0) (v1 := 0) (u2 := 0) (v2 := 0) ((fun hC => r_X3_places hC hn) hC2) (⟨_, _, _, _, hC2, rfl⟩) oX3_places ⟨q_384, q_386, q_387, q_388, ⟨by decide, by decide⟩, Or.inr q_385⟩ rfl (by decide) (by decide) rfl (Nat.le_of_ble_eq_true rfl) 7 rfl dX7_layKeys_4 rfl ?_
      refine a_icmp_ge 37 10 rfl dX7_layKeys_7 (by decide) (fun hc => absurd hc (nI_ge (by omega) (by omega))) (fun _ => ?_)
      refine a_iload_n 0 11 rfl dX7_layKeys_10 rfl rfl ?_
      refine a_aload_n 1 12 rfl dX7_layKeys_11 rfl rfl ?_
      refine a_get 0 cl_3 f_RX7_9_3 (by decide) (hC2) rfl 15 rfl dX7_layKeys_12 ?_
      refine a_alen (y := 64) 0 (g_set_eq hK) rfl rfl 16 rfl dX7_layKeys_15 ?_
      refine a_icmp_ge 37 19 rfl dX7_layKeys_16 (by decide) (fun hc => absurd hc (nI_ge (b := 64) (by omega) (by omega))) (fun _ => ?_)
      refine a_aload_n 1 20 rfl dX7_layKeys_19 rfl rfl ?_
      refine a_get 0 cl_3 f_RX7_9_3 (by decide) (hC2) rfl 23 rfl dX7_layKeys_20 ?_
      refine a_iload_n 0 24 rfl dX7_layKeys_23 rfl rfl ?_
      refine a_aload_n 1 25 rfl dX7_layKeys_24 rfl rfl ?_
      refine a_iload_n 2 26 rfl dX7_layKeys_25 rfl rfl ?_
      refine a_iload_n 0 27 rfl dX7_layKeys_26 rfl rfl ?_
      refine a_callU (as := [.int (nI o), .int (nI ii)]) (C := RX3) (owner := "LeastShadows$Ground") (x := ⟨"LeastShadows$Ground", "keyBy", "(II)I"⟩) (rest := [.int (nI ii), .ref (g_ad G ka)]) (st2 := [.int (f_keyC n o (nI ii)), .int (nI ii), .ref (g_ad G ka)]) (u1 := 0) (v1 := 0) (u2 := 0) (v2 := 0) (r_X3_keyBy hC2 ho) (⟨_, _, _, _, hC2, rfl⟩) oX3_keyBy ⟨q_600, q_602, q_603, q_604, ⟨by decide, by decide⟩, Or.inr q_601⟩ rfl (by decide) (by decide) rfl (Nat.le_of_ble_eq_true rfl) 30 rfl dX7_layKeys_27 rfl ?_
      refine a_iast (g_set_eq hK) (vp_in_nI (by omega) (by omega)) 31 rfl dX7_layKeys_30 ?_
      refine a_iinc (y := nI (ii + 1)) (lv' := [(2, .int (nI (ii + 1))), (0, .ref (g_ad G a)), (1, .int (nI o))]) 0 34 rfl dX7_layKeys_31 rfl (nI_1 ii) (by decide) rfl ?_
      refine a_goto 2 dX7_layKeys_34 (by decide) ?_
      refine a_eq rfl rfl rfl ?_ w
      rw [List.set_set, g_cl (by omega)]
  obtain ⟨f2, hf2, w⟩ := key (2 ^ n) 0 (by omega) f (fun q7 hq7 => absurd hq7 (Nat.not_lt_zero q7))
  refine ⟨f2, hf2, ?_⟩
  refine g_Run.of (lv := [(0, .ref (g_ad G a)), (1, .int (nI o))]) (by decide) (Nat.le_of_ble_eq_true rfl) rfl ?_
  refine a_iconst (x := 0) 1 rfl dX7_layKeys_0 (by decide) ?_
  refine a_istore_n (lv' := [(2, .int 0), (0, .ref (g_ad G a)), (1, .int (nI o))]) 2 rfl dX7_layKeys_1 rfl (by decide) rfl ?_
  refine a_eq rfl rfl rfl ?_ w
  rw [g_set_self hK]
theorem r_rankOf_cube {s9 : Nat} {f : Nat → Int32} (hC : h[a]? = some (c_O 3 [.ref (g_ad G ka), .int (nI n)])) (hK : h[ka]? = some (c_I G 64 f)) (hn : n ≤ 6) (hs : s9 < 2 ^ n) : g_Run G mX7_rankOf 2 0 0 [.ref (g_ad G a), .int (nI s9)] h (some (.int (nI (f_rank f s9 (2 ^ n))))) h := by
  have hp : 2 ^ n ≤ 64 := Nat.pow_le_pow_right (by decide) hn
  refine g_Run.of (lv := [(0, .ref (g_ad G a)), (1, .int (nI s9))]) (by decide) (Nat.le_of_ble_eq_true rfl) rfl ?_
  refine a_iload_n 1 1 rfl dX7_rankOf_0 rfl rfl ?_
  refine a_if_lt 13 4 rfl dX7_rankOf_1 (by decide) (fun hc => absurd hc (nI_pos (by omega))) (fun _ => ?_)
  refine a_iload_n 1 5 rfl dX7_rankOf_4 rfl rfl ?_
  refine a_aload_n 0 6 rfl dX7_rankOf_5 rfl rfl ?_
  refine a_get 0 cl_3 f_RX7_9_3 (by decide) (hC) rfl 9 rfl dX7_rankOf_6 ?_
  refine a_alen (y := 64) 0 (hK) rfl rfl 10 rfl dX7_rankOf_9 ?_
  refine a_icmp_lt 18 13 rfl dX7_rankOf_10 (by decide) (fun _ => ?_) (fun hc => absurd (nI_lt (b := 64) (by omega) (by omega)) hc)
  refine a_iconst (x := 0) 19 rfl dX7_rankOf_18 (by decide) ?_
  refine a_istore_n (lv' := [(2, .int 0), (0, .ref (g_ad G a)), (1, .int (nI s9))]) 20 rfl dX7_rankOf_19 rfl (by decide) rfl ?_
  refine a_iconst (x := 0) 21 rfl dX7_rankOf_20 (by decide) ?_
  refine a_istore_n (lv' := [(3, .int 0), (2, .int 0), (0, .ref (g_ad G a)), (1, .int (nI s9))]) 22 rfl dX7_rankOf_21 rfl (by decide) rfl ?_
  have key : ∀ jj ii : Nat, ii + jj = 2 ^ n → g_A G mX7_rankOf 2 0 0 22 [(3, .int (nI ii)), (2, .int (nI (f_rank f s9 ii))), (0, .ref (g_ad G a)), (1, .int (nI s9))] [] h (some (.int (nI (f_rank f s9 (2 ^ n))))) h := by
    intro jj
    induction jj with
    | zero =>
      intro ii hii
      refine a_iload_n 0 23 rfl dX7_rankOf_22 rfl rfl ?_
      refine a_aload_n 2 24 rfl dX7_rankOf_23 rfl rfl ?_
      refine a_callU (as := []) (C := RX3) (owner := "LeastShadows$Ground") (x := ⟨"LeastShadows$Ground", "places", "()I"⟩) (rest := [.int (nI ii)]) (st2 := [.int (nI (2 ^ n)), .int (nI ii)]) (u1 := 0) (v1 := 0) (u2 := 0) (v2 := 0) (r_X3_places hC hn) (⟨_, _, _, _, hC, rfl⟩) oX3_places ⟨q_384, q_386, q_387, q_388, ⟨by decide, by decide⟩, Or.inr q_385⟩ rfl (by decide) (by decide) rfl (Nat.le_of_ble_eq_true rfl) 27 rfl dX7_rankOf_24 rfl ?_
      refine a_icmp_ge 63 30 rfl dX7_rankOf_27 (by decide) (fun _ => ?_) (fun hc => absurd (nI_le (by omega) (by omega)) hc)
      refine a_iload_n 1 64 rfl dX7_rankOf_63 rfl rfl ?_
      exact a_ireturn .int rfl rfl ((by rw [show ii = 2 ^ n by omega])) (rfl) dX7_rankOf_64
    | succ jj ih =>
      intro ii hii
      refine a_iload_n 0 23 rfl dX7_rankOf_22 rfl rfl ?_
      refine a_aload_n 2 24 rfl dX7_rankOf_23 rfl rfl ?_
      refine a_callU (as := []) (C := RX3) (owner := "LeastShadows$Ground") (x := ⟨"LeastShadows$Ground", "places", "()I"⟩) (rest := [.int (nI ii)]) (st2 := [.int (nI (2 ^ n)), .int (nI ii)]) (u1 := 0) (v1 := 0) (u2 := 0) (v2 := 0) (r_X3_places hC hn) (⟨_, _, _, _, hC, rfl⟩) oX3_places ⟨q_384, q_386, q_387, q_388, ⟨by decide, by decide⟩, Or.inr q_385⟩ rfl (by decide) (by decide) rfl (Nat.le_of_ble_eq_true rfl) 27 rfl dX7_rankOf_24 rfl ?_
      refine a_icmp_ge 63 30 rfl dX7_rankOf_27 (by decide) (fun hc => absurd hc (nI_ge (by omega) (by omega))) (fun _ => ?_)
      refine a_iload_n 0 31 rfl dX7_rankOf_30 rfl rfl ?_
      refine a_aload_n 2 32 rfl dX7_rankOf_31 rfl rfl ?_
      refine a_get 0 cl_3 f_RX7_9_3 (by decide) (hC) rfl 35 rfl dX7_rankOf_32 ?_
      refine a_alen (y := 64) 0 (hK) rfl rfl 36 rfl dX7_rankOf_35 ?_
      refine a_icmp_ge 63 39 rfl dX7_rankOf_36 (by decide) (fun hc => absurd hc (nI_ge (b := 64) (by omega) (by omega))) (fun _ => ?_)
      refine a_aload_n 2 40 rfl dX7_rankOf_39 rfl rfl ?_
      refine a_get 0 cl_3 f_RX7_9_3 (by decide) (hC) rfl 43 rfl dX7_rankOf_40 ?_
      refine a_iload_n 0 44 rfl dX7_rankOf_43 rfl rfl ?_
      refine a_iald (hK) (vp_in_nI (by omega) (by omega)) 45 rfl dX7_rankOf_44 ?_
      refine a_aload_n 2 46 rfl dX7_rankOf_45 rfl rfl ?_
      refine a_get 0 cl_3 f_RX7_9_3 (by decide) (hC) rfl 49 rfl dX7_rankOf_46 ?_
      refine a_iload_n 3 50 rfl dX7_rankOf_49 rfl rfl ?_
      refine a_iald (hK) (vp_in_nI (by omega) (by omega)) 51 rfl dX7_rankOf_50 ?_
      refine a_eq (st2 := [.int (f s9), .int (f ii)]) rfl rfl (by rw [g_cl (by omega), g_cl (by omega)]) rfl ?_
      by_cases e8 : f ii < f s9
      · skip
        refine a_icmp_ge 57 54 rfl dX7_rankOf_51 (by decide) (fun hc => absurd hc ((Int32.not_le.mpr e8))) (fun _ => ?_)
        refine a_iinc (y := nI (f_rank f s9 ii + 1)) (lv' := [(2, .int (nI (f_rank f s9 ii + 1))), (3, .int (nI ii)), (0, .ref (g_ad G a)), (1, .int (nI s9))]) 1 57 rfl dX7_rankOf_54 rfl (nI_1 _) (by decide) rfl ?_
        refine a_iinc (y := nI (ii + 1)) (lv' := [(3, .int (nI (ii + 1))), (2, .int (nI (f_rank f s9 ii + 1))), (0, .ref (g_ad G a)), (1, .int (nI s9))]) 1 60 rfl dX7_rankOf_57 rfl (nI_1 ii) (by decide) rfl ?_
        refine a_goto 22 dX7_rankOf_60 (by decide) ?_
        have e9 : f_rank f s9 (ii + 1) = f_rank f s9 ii + 1 := if_pos e8
        rw [← e9]
        exact ih (ii + 1) (by omega)
      · skip
        refine a_icmp_ge 57 54 rfl dX7_rankOf_51 (by decide) (fun _ => ?_) (fun hc => absurd ((Int32.not_lt.mp e8)) hc)
        refine a_iinc (y := nI (ii + 1)) (lv' := [(3, .int (nI (ii + 1))), (2, .int (nI (f_rank f s9 ii))), (0, .ref (g_ad G a)), (1, .int (nI s9))]) 0 60 rfl dX7_rankOf_57 rfl (nI_1 ii) (by decide) rfl ?_
        refine a_goto 22 dX7_rankOf_60 (by decide) ?_
        have e9 : f_rank f s9 (ii + 1) = f_rank f s9 ii := if_neg e8
        rw [← e9]
        exact ih (ii + 1) (by omega)
  exact key (2 ^ n) 0 (by omega)
theorem r_firstBy_cube {o : Nat} {f : Nat → Int32} (hC : h[a]? = some (c_O 3 [.ref (g_ad G ka), .int (nI n)])) (hK : h[ka]? = some (c_I G 64 f)) (hne : ka ≠ a) (hn : n ≤ 6) (ho : o < 4) : ∃ f2 : Nat → Int32, (∀ j, j < 2 ^ n → f2 j = f_keyC n o (nI j)) ∧ g_Run G mX7_firstBy 5 0 0 [.ref (g_ad G a), .int (nI o), .int y] h (some (.long (f_firsts f2 (2 ^ n) y (2 ^ n)))) (h.set ka (c_I G 64 f2)) := by
  have hp : 2 ^ n ≤ 64 := Nat.pow_le_pow_right (by decide) hn
  obtain ⟨f2, hf2, w⟩ := r_layKeys_cube hC hK hne hn ho
  have hC2 : (h.set ka (c_I G 64 f2))[a]? = some (c_O 3 [.ref (g_ad G ka), .int (nI n)]) := g_set_ne hne hC
  have hK2 : (h.set ka (c_I G 64 f2))[ka]? = some (c_I G 64 f2) := g_set_eq hK
  refine ⟨f2, hf2, ?_⟩
  refine g_Run.of (lv := [(0, .ref (g_ad G a)), (1, .int (nI o)), (2, .int y)]) (by decide) (Nat.le_of_ble_eq_true rfl) rfl ?_
  refine a_aload_n 0 1 rfl dX7_firstBy_0 rfl rfl ?_
  refine a_iload_n 1 2 rfl dX7_firstBy_1 rfl rfl ?_
  refine a_callUP (as := [.int (nI o)]) (C := RX3) (rest := []) (st2 := []) (u1 := 0) (v1 := 0) (u2 := 0) (v2 := 0) (w) (⟨_, _, _, _, hC, rfl⟩) oX7_layKeys q_596 q_1661 q_375 rfl q_597 q_598 rfl (by decide) (by decide) rfl (Nat.le_of_ble_eq_true rfl) 5 rfl dX7_firstBy_2 rfl ?_
  refine a_lconst (x := 0) 6 rfl dX7_firstBy_5 (by decide) ?_
  refine a_lstore_n (lv' := [(3, .long 0), (0, .ref (g_ad G a)), (1, .int (nI o)), (2, .int y)]) 7 rfl dX7_firstBy_6 rfl (by decide) rfl ?_
  refine a_iconst (x := 0) 8 rfl dX7_firstBy_7 (by decide) ?_
  refine a_istore (lv' := [(5, .int 0), (3, .long 0), (0, .ref (g_ad G a)), (1, .int (nI o)), (2, .int y)]) 10 rfl dX7_firstBy_8 (by decide) rfl ?_
  have key : ∀ jj ii : Nat, ii + jj = 2 ^ n → g_A G mX7_firstBy 5 0 0 10 [(5, .int (nI ii)), (3, .long (f_firsts f2 (2 ^ n) y ii)), (0, .ref (g_ad G a)), (1, .int (nI o)), (2, .int y)] [] (h.set ka (c_I G 64 f2)) (some (.long (f_firsts f2 (2 ^ n) y (2 ^ n)))) (h.set ka (c_I G 64 f2)) := by
    intro jj
    induction jj with
    | zero =>
      intro ii hii
      refine a_iload 0 12 rfl dX7_firstBy_10 rfl ?_
      refine a_aload_n 2 13 rfl dX7_firstBy_12 rfl rfl ?_
      refine a_callU (as := []) (C := RX3) (owner := "LeastShadows$Ground") (x := ⟨"LeastShadows$Ground", "places", "()I"⟩) (rest := [.int (nI ii)]) (st2 := [.int (nI (2 ^ n)), .int (nI ii)]) (u1 := 0) (v1 := 0) (u2 := 0) (v2 := 0) ((fun hC => r_X3_places hC hn) hC2) (⟨_, _, _, _, hC2, rfl⟩) oX3_places ⟨q_384, q_386, q_387, q_388, ⟨by decide, by decide⟩, Or.inr q_385⟩ rfl (by decide) (by decide) rfl (Nat.le_of_ble_eq_true rfl) 16 rfl dX7_firstBy_13 rfl ?_
      refine a_icmp_ge 42 19 rfl dX7_firstBy_16 (by decide) (fun _ => ?_) (fun hc => absurd (nI_le (by omega) (by omega)) hc)
      refine a_lload_n 1 43 rfl dX7_firstBy_42 rfl rfl ?_
      exact a_lreturn rfl ((by rw [show ii = 2 ^ n by omega])) (rfl) dX7_firstBy_43
    | succ jj ih =>
      intro ii hii
      refine a_iload 0 12 rfl dX7_firstBy_10 rfl ?_
      refine a_aload_n 2 13 rfl dX7_firstBy_12 rfl rfl ?_
      refine a_callU (as := []) (C := RX3) (owner := "LeastShadows$Ground") (x := ⟨"LeastShadows$Ground", "places", "()I"⟩) (rest := [.int (nI ii)]) (st2 := [.int (nI (2 ^ n)), .int (nI ii)]) (u1 := 0) (v1 := 0) (u2 := 0) (v2 := 0) ((fun hC => r_X3_places hC hn) hC2) (⟨_, _, _, _, hC2, rfl⟩) oX3_places ⟨q_384, q_386, q_387, q_388, ⟨by decide, by decide⟩, Or.inr q_385⟩ rfl (by decide) (by decide) rfl (Nat.le_of_ble_eq_true rfl) 16 rfl dX7_firstBy_13 rfl ?_
      refine a_icmp_ge 42 19 rfl dX7_firstBy_16 (by decide) (fun hc => absurd hc (nI_ge (by omega) (by omega))) (fun _ => ?_)
      refine a_aload_n 2 20 rfl dX7_firstBy_19 rfl rfl ?_
      refine a_iload 0 22 rfl dX7_firstBy_20 rfl ?_
      refine a_callUP (as := [.int (nI ii)]) (C := RX3) (rest := []) (st2 := [.int (nI (f_rank f2 ii (2 ^ n)))]) (u1 := 0) (v1 := 0) (u2 := 0) (v2 := 0) (r_rankOf_cube hC2 hK2 hn (by omega)) (⟨_, _, _, _, hC2, rfl⟩) oX7_rankOf q_615 q_1662 q_375 rfl q_616 q_617 rfl (by decide) (by decide) rfl (Nat.le_of_ble_eq_true rfl) 25 rfl dX7_firstBy_22 rfl ?_
      refine a_iload_n 4 26 rfl dX7_firstBy_25 rfl rfl ?_
      by_cases e8 : nI (f_rank f2 ii (2 ^ n)) < y
      · skip
        refine a_icmp_ge 36 29 rfl dX7_firstBy_26 (by decide) (fun hc => absurd hc ((Int32.not_le.mpr e8))) (fun _ => ?_)
        refine a_lload_n 1 30 rfl dX7_firstBy_29 rfl rfl ?_
        refine a_lconst (x := 1) 31 rfl dX7_firstBy_30 (by decide) ?_
        refine a_iload 0 33 rfl dX7_firstBy_31 rfl ?_
        refine a_lshl 34 rfl dX7_firstBy_33 ?_
        refine a_lor 35 rfl dX7_firstBy_34 ?_
        refine a_lstore_n (lv' := [(3, .long ((f_firsts f2 (2 ^ n) y ii) ||| (f_sl (1 : Int64) (nI ii)))), (5, .int (nI ii)), (0, .ref (g_ad G a)), (1, .int (nI o)), (2, .int y)]) 36 rfl dX7_firstBy_35 rfl (by decide) rfl ?_
        refine a_iinc (y := nI (ii + 1)) (lv' := [(5, .int (nI (ii + 1))), (3, .long ((f_firsts f2 (2 ^ n) y ii) ||| (f_sl (1 : Int64) (nI ii)))), (0, .ref (g_ad G a)), (1, .int (nI o)), (2, .int y)]) 1 39 rfl dX7_firstBy_36 rfl (nI_1 ii) (by decide) rfl ?_
        refine a_goto 10 dX7_firstBy_39 (by decide) ?_
        have e9 : f_firsts f2 (2 ^ n) y (ii + 1) = f_firsts f2 (2 ^ n) y ii ||| f_sl 1 (nI ii) := if_pos e8
        rw [← e9]
        exact ih (ii + 1) (by omega)
      · skip
        refine a_icmp_ge 36 29 rfl dX7_firstBy_26 (by decide) (fun _ => ?_) (fun hc => absurd ((Int32.not_lt.mp e8)) hc)
        refine a_iinc (y := nI (ii + 1)) (lv' := [(5, .int (nI (ii + 1))), (3, .long (f_firsts f2 (2 ^ n) y ii)), (0, .ref (g_ad G a)), (1, .int (nI o)), (2, .int y)]) 0 39 rfl dX7_firstBy_36 rfl (nI_1 ii) (by decide) rfl ?_
        refine a_goto 10 dX7_firstBy_39 (by decide) ?_
        have e9 : f_firsts f2 (2 ^ n) y (ii + 1) = f_firsts f2 (2 ^ n) y ii := if_neg e8
        rw [← e9]
        exact ih (ii + 1) (by omega)
  exact key (2 ^ n) 0 (by omega)

theorem r_layKeys_grid {o : Nat} {f : Nat → Int32} (hC : h[a]? = some (c_O 6 [.ref (g_ad G ka), .int (nI w9), .int (nI t9)])) (hK : h[ka]? = some (c_I G 64 f)) (hne : ka ≠ a) (hp : w9 * t9 ≤ 64) (hw0 : 0 < w9) (hw : w9 ≤ 8) (ho : o < 3) : ∃ f2 : Nat → Int32, (∀ j, j < w9 * t9 → f2 j = f_keyG w9 o (nI j)) ∧ g_Run G mX7_layKeys 4 0 0 [.ref (g_ad G a), .int (nI o)] h none (h.set ka (c_I G 64 f2)) := by
  skip
  have key : ∀ jj ii : Nat, ii + jj = w9 * t9 → ∀ f1 : Nat → Int32, (∀ q7, q7 < ii → f1 q7 = f_keyG w9 o (nI q7)) → ∃ f2 : Nat → Int32, (∀ q7, q7 < w9 * t9 → f2 q7 = f_keyG w9 o (nI q7)) ∧ g_A G mX7_layKeys 4 0 0 2 [(2, .int (nI ii)), (0, .ref (g_ad G a)), (1, .int (nI o))] [] (h.set ka (c_I G 64 f1)) none (h.set ka (c_I G 64 f2)) := by
    intro jj
    induction jj with
    | zero =>
      intro ii hii f1 hf1
      have hC2 : (h.set ka (c_I G 64 f1))[a]? = some (c_O 6 [.ref (g_ad G ka), .int (nI w9), .int (nI t9)]) := g_set_ne hne hC
      refine ⟨f1, fun q7 hq7 => hf1 q7 (by omega), ?_⟩
      refine a_iload_n 0 3 rfl dX7_layKeys_2 rfl rfl ?_
      refine a_aload_n 1 4 rfl dX7_layKeys_3 rfl rfl ?_
      refine a_callU (as := []) (C := RX6) (owner := "LeastShadows$Ground") (x := ⟨"LeastShadows$Ground", "places", "()I"⟩) (rest := [.int (nI ii)]) (st2 := [.int (nI (w9 * t9)), .int (nI ii)]) (u1 := 0) (v1 := 0) (u2 := 0) (v2 := 0) ((fun hC => r_X6_places hC) hC2) (⟨_, _, _, _, hC2, rfl⟩) oX6_places ⟨q_384, q_386, q_390, q_391, ⟨by decide, by decide⟩, Or.inr q_385⟩ rfl (by decide) (by decide) rfl (Nat.le_of_ble_eq_true rfl) 7 rfl dX7_layKeys_4 rfl ?_
      refine a_icmp_ge 37 10 rfl dX7_layKeys_7 (by decide) (fun _ => ?_) (fun hc => absurd (nI_le (by omega) (by omega)) hc)
      exact a_return rfl (rfl) (rfl) dX7_layKeys_37
    | succ jj ih =>
      intro ii hii f1 hf1
      have hC2 : (h.set ka (c_I G 64 f1))[a]? = some (c_O 6 [.ref (g_ad G ka), .int (nI w9), .int (nI t9)]) := g_set_ne hne hC
      obtain ⟨f2, hf2, w⟩ := ih (ii + 1) (by omega) (upd f1 ii (f_keyG w9 o (nI ii))) (fun q7 hq7 => by
        by_cases e7 : q7 = ii
        · rw [e7]; exact pk_us
        · rw [pk_un e7]; exact hf1 q7 (by omega))
      refine ⟨f2, hf2, ?_⟩
      refine a_iload_n 0 3 rfl dX7_layKeys_2 rfl rfl ?_
      refine a_aload_n 1 4 rfl dX7_layKeys_3 rfl rfl ?_
      refine a_callU (as := []) (C := RX6) (owner := "LeastShadows$Ground") (x := ⟨"LeastShadows$Ground", "places", "()I"⟩) (rest := [.int (nI ii)]) (st2 := [.int (nI (w9 * t9)), .int (nI ii)]) (u1 := 0) (v1 := 0) (u2 := 0) (v2 := 0) ((fun hC => r_X6_places hC) hC2) (⟨_, _, _, _, hC2, rfl⟩) oX6_places ⟨q_384, q_386, q_390, q_391, ⟨by decide, by decide⟩, Or.inr q_385⟩ rfl (by decide) (by decide) rfl (Nat.le_of_ble_eq_true rfl) 7 rfl dX7_layKeys_4 rfl ?_
      refine a_icmp_ge 37 10 rfl dX7_layKeys_7 (by decide) (fun hc => absurd hc (nI_ge (by omega) (by omega))) (fun _ => ?_)
      refine a_iload_n 0 11 rfl dX7_layKeys_10 rfl rfl ?_
      refine a_aload_n 1 12 rfl dX7_layKeys_11 rfl rfl ?_
      refine a_get 0 cl_6 f_RX7_9_6 (by decide) (hC2) rfl 15 rfl dX7_layKeys_12 ?_
      refine a_alen (y := 64) 0 (g_set_eq hK) rfl rfl 16 rfl dX7_layKeys_15 ?_
      refine a_icmp_ge 37 19 rfl dX7_layKeys_16 (by decide) (fun hc => absurd hc (nI_ge (b := 64) (by omega) (by omega))) (fun _ => ?_)
      refine a_aload_n 1 20 rfl dX7_layKeys_19 rfl rfl ?_
      refine a_get 0 cl_6 f_RX7_9_6 (by decide) (hC2) rfl 23 rfl dX7_layKeys_20 ?_
      refine a_iload_n 0 24 rfl dX7_layKeys_23 rfl rfl ?_
      refine a_aload_n 1 25 rfl dX7_layKeys_24 rfl rfl ?_
      refine a_iload_n 2 26 rfl dX7_layKeys_25 rfl rfl ?_
      refine a_iload_n 0 27 rfl dX7_layKeys_26 rfl rfl ?_
      refine a_callU (as := [.int (nI o), .int (nI ii)]) (C := RX6) (owner := "LeastShadows$Ground") (x := ⟨"LeastShadows$Ground", "keyBy", "(II)I"⟩) (rest := [.int (nI ii), .ref (g_ad G ka)]) (st2 := [.int (f_keyG w9 o (nI ii)), .int (nI ii), .ref (g_ad G ka)]) (u1 := 0) (v1 := 0) (u2 := 0) (v2 := 0) (r_X6_keyBy hC2 hw0 hw ho) (⟨_, _, _, _, hC2, rfl⟩) oX6_keyBy ⟨q_600, q_602, q_609, q_610, ⟨by decide, by decide⟩, Or.inr q_601⟩ rfl (by decide) (by decide) rfl (Nat.le_of_ble_eq_true rfl) 30 rfl dX7_layKeys_27 rfl ?_
      refine a_iast (g_set_eq hK) (vp_in_nI (by omega) (by omega)) 31 rfl dX7_layKeys_30 ?_
      refine a_iinc (y := nI (ii + 1)) (lv' := [(2, .int (nI (ii + 1))), (0, .ref (g_ad G a)), (1, .int (nI o))]) 0 34 rfl dX7_layKeys_31 rfl (nI_1 ii) (by decide) rfl ?_
      refine a_goto 2 dX7_layKeys_34 (by decide) ?_
      refine a_eq rfl rfl rfl ?_ w
      rw [List.set_set, g_cl (by omega)]
  obtain ⟨f2, hf2, w⟩ := key (w9 * t9) 0 (by omega) f (fun q7 hq7 => absurd hq7 (Nat.not_lt_zero q7))
  refine ⟨f2, hf2, ?_⟩
  refine g_Run.of (lv := [(0, .ref (g_ad G a)), (1, .int (nI o))]) (by decide) (Nat.le_of_ble_eq_true rfl) rfl ?_
  refine a_iconst (x := 0) 1 rfl dX7_layKeys_0 (by decide) ?_
  refine a_istore_n (lv' := [(2, .int 0), (0, .ref (g_ad G a)), (1, .int (nI o))]) 2 rfl dX7_layKeys_1 rfl (by decide) rfl ?_
  refine a_eq rfl rfl rfl ?_ w
  rw [g_set_self hK]
theorem r_rankOf_grid {s9 : Nat} {f : Nat → Int32} (hC : h[a]? = some (c_O 6 [.ref (g_ad G ka), .int (nI w9), .int (nI t9)])) (hK : h[ka]? = some (c_I G 64 f)) (hp : w9 * t9 ≤ 64) (hw0 : 0 < w9) (hw : w9 ≤ 8) (hs : s9 < w9 * t9) : g_Run G mX7_rankOf 2 0 0 [.ref (g_ad G a), .int (nI s9)] h (some (.int (nI (f_rank f s9 (w9 * t9))))) h := by
  skip
  refine g_Run.of (lv := [(0, .ref (g_ad G a)), (1, .int (nI s9))]) (by decide) (Nat.le_of_ble_eq_true rfl) rfl ?_
  refine a_iload_n 1 1 rfl dX7_rankOf_0 rfl rfl ?_
  refine a_if_lt 13 4 rfl dX7_rankOf_1 (by decide) (fun hc => absurd hc (nI_pos (by omega))) (fun _ => ?_)
  refine a_iload_n 1 5 rfl dX7_rankOf_4 rfl rfl ?_
  refine a_aload_n 0 6 rfl dX7_rankOf_5 rfl rfl ?_
  refine a_get 0 cl_6 f_RX7_9_6 (by decide) (hC) rfl 9 rfl dX7_rankOf_6 ?_
  refine a_alen (y := 64) 0 (hK) rfl rfl 10 rfl dX7_rankOf_9 ?_
  refine a_icmp_lt 18 13 rfl dX7_rankOf_10 (by decide) (fun _ => ?_) (fun hc => absurd (nI_lt (b := 64) (by omega) (by omega)) hc)
  refine a_iconst (x := 0) 19 rfl dX7_rankOf_18 (by decide) ?_
  refine a_istore_n (lv' := [(2, .int 0), (0, .ref (g_ad G a)), (1, .int (nI s9))]) 20 rfl dX7_rankOf_19 rfl (by decide) rfl ?_
  refine a_iconst (x := 0) 21 rfl dX7_rankOf_20 (by decide) ?_
  refine a_istore_n (lv' := [(3, .int 0), (2, .int 0), (0, .ref (g_ad G a)), (1, .int (nI s9))]) 22 rfl dX7_rankOf_21 rfl (by decide) rfl ?_
  have key : ∀ jj ii : Nat, ii + jj = w9 * t9 → g_A G mX7_rankOf 2 0 0 22 [(3, .int (nI ii)), (2, .int (nI (f_rank f s9 ii))), (0, .ref (g_ad G a)), (1, .int (nI s9))] [] h (some (.int (nI (f_rank f s9 (w9 * t9))))) h := by
    intro jj
    induction jj with
    | zero =>
      intro ii hii
      refine a_iload_n 0 23 rfl dX7_rankOf_22 rfl rfl ?_
      refine a_aload_n 2 24 rfl dX7_rankOf_23 rfl rfl ?_
      refine a_callU (as := []) (C := RX6) (owner := "LeastShadows$Ground") (x := ⟨"LeastShadows$Ground", "places", "()I"⟩) (rest := [.int (nI ii)]) (st2 := [.int (nI (w9 * t9)), .int (nI ii)]) (u1 := 0) (v1 := 0) (u2 := 0) (v2 := 0) (r_X6_places hC) (⟨_, _, _, _, hC, rfl⟩) oX6_places ⟨q_384, q_386, q_390, q_391, ⟨by decide, by decide⟩, Or.inr q_385⟩ rfl (by decide) (by decide) rfl (Nat.le_of_ble_eq_true rfl) 27 rfl dX7_rankOf_24 rfl ?_
      refine a_icmp_ge 63 30 rfl dX7_rankOf_27 (by decide) (fun _ => ?_) (fun hc => absurd (nI_le (by omega) (by omega)) hc)
      refine a_iload_n 1 64 rfl dX7_rankOf_63 rfl rfl ?_
      exact a_ireturn .int rfl rfl ((by rw [show ii = w9 * t9 by omega])) (rfl) dX7_rankOf_64
    | succ jj ih =>
      intro ii hii
      refine a_iload_n 0 23 rfl dX7_rankOf_22 rfl rfl ?_
      refine a_aload_n 2 24 rfl dX7_rankOf_23 rfl rfl ?_
      refine a_callU (as := []) (C := RX6) (owner := "LeastShadows$Ground") (x := ⟨"LeastShadows$Ground", "places", "()I"⟩) (rest := [.int (nI ii)]) (st2 := [.int (nI (w9 * t9)), .int (nI ii)]) (u1 := 0) (v1 := 0) (u2 := 0) (v2 := 0) (r_X6_places hC) (⟨_, _, _, _, hC, rfl⟩) oX6_places ⟨q_384, q_386, q_390, q_391, ⟨by decide, by decide⟩, Or.inr q_385⟩ rfl (by decide) (by decide) rfl (Nat.le_of_ble_eq_true rfl) 27 rfl dX7_rankOf_24 rfl ?_
      refine a_icmp_ge 63 30 rfl dX7_rankOf_27 (by decide) (fun hc => absurd hc (nI_ge (by omega) (by omega))) (fun _ => ?_)
      refine a_iload_n 0 31 rfl dX7_rankOf_30 rfl rfl ?_
      refine a_aload_n 2 32 rfl dX7_rankOf_31 rfl rfl ?_
      refine a_get 0 cl_6 f_RX7_9_6 (by decide) (hC) rfl 35 rfl dX7_rankOf_32 ?_
      refine a_alen (y := 64) 0 (hK) rfl rfl 36 rfl dX7_rankOf_35 ?_
      refine a_icmp_ge 63 39 rfl dX7_rankOf_36 (by decide) (fun hc => absurd hc (nI_ge (b := 64) (by omega) (by omega))) (fun _ => ?_)
      refine a_aload_n 2 40 rfl dX7_rankOf_39 rfl rfl ?_
      refine a_get 0 cl_6 f_RX7_9_6 (by decide) (hC) rfl 43 rfl dX7_rankOf_40 ?_
      refine a_iload_n 0 44 rfl dX7_rankOf_43 rfl rfl ?_
      refine a_iald (hK) (vp_in_nI (by omega) (by omega)) 45 rfl dX7_rankOf_44 ?_
      refine a_aload_n 2 46 rfl dX7_rankOf_45 rfl rfl ?_
      refine a_get 0 cl_6 f_RX7_9_6 (by decide) (hC) rfl 49 rfl dX7_rankOf_46 ?_
      refine a_iload_n 3 50 rfl dX7_rankOf_49 rfl rfl ?_
      refine a_iald (hK) (vp_in_nI (by omega) (by omega)) 51 rfl dX7_rankOf_50 ?_
      refine a_eq (st2 := [.int (f s9), .int (f ii)]) rfl rfl (by rw [g_cl (by omega), g_cl (by omega)]) rfl ?_
      by_cases e8 : f ii < f s9
      · skip
        refine a_icmp_ge 57 54 rfl dX7_rankOf_51 (by decide) (fun hc => absurd hc ((Int32.not_le.mpr e8))) (fun _ => ?_)
        refine a_iinc (y := nI (f_rank f s9 ii + 1)) (lv' := [(2, .int (nI (f_rank f s9 ii + 1))), (3, .int (nI ii)), (0, .ref (g_ad G a)), (1, .int (nI s9))]) 1 57 rfl dX7_rankOf_54 rfl (nI_1 _) (by decide) rfl ?_
        refine a_iinc (y := nI (ii + 1)) (lv' := [(3, .int (nI (ii + 1))), (2, .int (nI (f_rank f s9 ii + 1))), (0, .ref (g_ad G a)), (1, .int (nI s9))]) 1 60 rfl dX7_rankOf_57 rfl (nI_1 ii) (by decide) rfl ?_
        refine a_goto 22 dX7_rankOf_60 (by decide) ?_
        have e9 : f_rank f s9 (ii + 1) = f_rank f s9 ii + 1 := if_pos e8
        rw [← e9]
        exact ih (ii + 1) (by omega)
      · skip
        refine a_icmp_ge 57 54 rfl dX7_rankOf_51 (by decide) (fun _ => ?_) (fun hc => absurd ((Int32.not_lt.mp e8)) hc)
        refine a_iinc (y := nI (ii + 1)) (lv' := [(3, .int (nI (ii + 1))), (2, .int (nI (f_rank f s9 ii))), (0, .ref (g_ad G a)), (1, .int (nI s9))]) 0 60 rfl dX7_rankOf_57 rfl (nI_1 ii) (by decide) rfl ?_
        refine a_goto 22 dX7_rankOf_60 (by decide) ?_
        have e9 : f_rank f s9 (ii + 1) = f_rank f s9 ii := if_neg e8
        rw [← e9]
        exact ih (ii + 1) (by omega)
  exact key (w9 * t9) 0 (by omega)
theorem r_firstBy_grid {o : Nat} {f : Nat → Int32} (hC : h[a]? = some (c_O 6 [.ref (g_ad G ka), .int (nI w9), .int (nI t9)])) (hK : h[ka]? = some (c_I G 64 f)) (hne : ka ≠ a) (hp : w9 * t9 ≤ 64) (hw0 : 0 < w9) (hw : w9 ≤ 8) (ho : o < 3) : ∃ f2 : Nat → Int32, (∀ j, j < w9 * t9 → f2 j = f_keyG w9 o (nI j)) ∧ g_Run G mX7_firstBy 5 0 0 [.ref (g_ad G a), .int (nI o), .int y] h (some (.long (f_firsts f2 (w9 * t9) y (w9 * t9)))) (h.set ka (c_I G 64 f2)) := by
  skip
  obtain ⟨f2, hf2, w⟩ := r_layKeys_grid hC hK hne hp hw0 hw ho
  have hC2 : (h.set ka (c_I G 64 f2))[a]? = some (c_O 6 [.ref (g_ad G ka), .int (nI w9), .int (nI t9)]) := g_set_ne hne hC
  have hK2 : (h.set ka (c_I G 64 f2))[ka]? = some (c_I G 64 f2) := g_set_eq hK
  refine ⟨f2, hf2, ?_⟩
  refine g_Run.of (lv := [(0, .ref (g_ad G a)), (1, .int (nI o)), (2, .int y)]) (by decide) (Nat.le_of_ble_eq_true rfl) rfl ?_
  refine a_aload_n 0 1 rfl dX7_firstBy_0 rfl rfl ?_
  refine a_iload_n 1 2 rfl dX7_firstBy_1 rfl rfl ?_
  refine a_callUP (as := [.int (nI o)]) (C := RX6) (rest := []) (st2 := []) (u1 := 0) (v1 := 0) (u2 := 0) (v2 := 0) (w) (⟨_, _, _, _, hC, rfl⟩) oX7_layKeys q_596 q_1661 q_382 rfl q_597 q_598 rfl (by decide) (by decide) rfl (Nat.le_of_ble_eq_true rfl) 5 rfl dX7_firstBy_2 rfl ?_
  refine a_lconst (x := 0) 6 rfl dX7_firstBy_5 (by decide) ?_
  refine a_lstore_n (lv' := [(3, .long 0), (0, .ref (g_ad G a)), (1, .int (nI o)), (2, .int y)]) 7 rfl dX7_firstBy_6 rfl (by decide) rfl ?_
  refine a_iconst (x := 0) 8 rfl dX7_firstBy_7 (by decide) ?_
  refine a_istore (lv' := [(5, .int 0), (3, .long 0), (0, .ref (g_ad G a)), (1, .int (nI o)), (2, .int y)]) 10 rfl dX7_firstBy_8 (by decide) rfl ?_
  have key : ∀ jj ii : Nat, ii + jj = w9 * t9 → g_A G mX7_firstBy 5 0 0 10 [(5, .int (nI ii)), (3, .long (f_firsts f2 (w9 * t9) y ii)), (0, .ref (g_ad G a)), (1, .int (nI o)), (2, .int y)] [] (h.set ka (c_I G 64 f2)) (some (.long (f_firsts f2 (w9 * t9) y (w9 * t9)))) (h.set ka (c_I G 64 f2)) := by
    intro jj
    induction jj with
    | zero =>
      intro ii hii
      refine a_iload 0 12 rfl dX7_firstBy_10 rfl ?_
      refine a_aload_n 2 13 rfl dX7_firstBy_12 rfl rfl ?_
      refine a_callU (as := []) (C := RX6) (owner := "LeastShadows$Ground") (x := ⟨"LeastShadows$Ground", "places", "()I"⟩) (rest := [.int (nI ii)]) (st2 := [.int (nI (w9 * t9)), .int (nI ii)]) (u1 := 0) (v1 := 0) (u2 := 0) (v2 := 0) ((fun hC => r_X6_places hC) hC2) (⟨_, _, _, _, hC2, rfl⟩) oX6_places ⟨q_384, q_386, q_390, q_391, ⟨by decide, by decide⟩, Or.inr q_385⟩ rfl (by decide) (by decide) rfl (Nat.le_of_ble_eq_true rfl) 16 rfl dX7_firstBy_13 rfl ?_
      refine a_icmp_ge 42 19 rfl dX7_firstBy_16 (by decide) (fun _ => ?_) (fun hc => absurd (nI_le (by omega) (by omega)) hc)
      refine a_lload_n 1 43 rfl dX7_firstBy_42 rfl rfl ?_
      exact a_lreturn rfl ((by rw [show ii = w9 * t9 by omega])) (rfl) dX7_firstBy_43
    | succ jj ih =>
      intro ii hii
      refine a_iload 0 12 rfl dX7_firstBy_10 rfl ?_
      refine a_aload_n 2 13 rfl dX7_firstBy_12 rfl rfl ?_
      refine a_callU (as := []) (C := RX6) (owner := "LeastShadows$Ground") (x := ⟨"LeastShadows$Ground", "places", "()I"⟩) (rest := [.int (nI ii)]) (st2 := [.int (nI (w9 * t9)), .int (nI ii)]) (u1 := 0) (v1 := 0) (u2 := 0) (v2 := 0) ((fun hC => r_X6_places hC) hC2) (⟨_, _, _, _, hC2, rfl⟩) oX6_places ⟨q_384, q_386, q_390, q_391, ⟨by decide, by decide⟩, Or.inr q_385⟩ rfl (by decide) (by decide) rfl (Nat.le_of_ble_eq_true rfl) 16 rfl dX7_firstBy_13 rfl ?_
      refine a_icmp_ge 42 19 rfl dX7_firstBy_16 (by decide) (fun hc => absurd hc (nI_ge (by omega) (by omega))) (fun _ => ?_)
      refine a_aload_n 2 20 rfl dX7_firstBy_19 rfl rfl ?_
      refine a_iload 0 22 rfl dX7_firstBy_20 rfl ?_
      refine a_callUP (as := [.int (nI ii)]) (C := RX6) (rest := []) (st2 := [.int (nI (f_rank f2 ii (w9 * t9)))]) (u1 := 0) (v1 := 0) (u2 := 0) (v2 := 0) (r_rankOf_grid hC2 hK2 hp hw0 hw (by omega)) (⟨_, _, _, _, hC2, rfl⟩) oX7_rankOf q_615 q_1662 q_382 rfl q_616 q_617 rfl (by decide) (by decide) rfl (Nat.le_of_ble_eq_true rfl) 25 rfl dX7_firstBy_22 rfl ?_
      refine a_iload_n 4 26 rfl dX7_firstBy_25 rfl rfl ?_
      by_cases e8 : nI (f_rank f2 ii (w9 * t9)) < y
      · skip
        refine a_icmp_ge 36 29 rfl dX7_firstBy_26 (by decide) (fun hc => absurd hc ((Int32.not_le.mpr e8))) (fun _ => ?_)
        refine a_lload_n 1 30 rfl dX7_firstBy_29 rfl rfl ?_
        refine a_lconst (x := 1) 31 rfl dX7_firstBy_30 (by decide) ?_
        refine a_iload 0 33 rfl dX7_firstBy_31 rfl ?_
        refine a_lshl 34 rfl dX7_firstBy_33 ?_
        refine a_lor 35 rfl dX7_firstBy_34 ?_
        refine a_lstore_n (lv' := [(3, .long ((f_firsts f2 (w9 * t9) y ii) ||| (f_sl (1 : Int64) (nI ii)))), (5, .int (nI ii)), (0, .ref (g_ad G a)), (1, .int (nI o)), (2, .int y)]) 36 rfl dX7_firstBy_35 rfl (by decide) rfl ?_
        refine a_iinc (y := nI (ii + 1)) (lv' := [(5, .int (nI (ii + 1))), (3, .long ((f_firsts f2 (w9 * t9) y ii) ||| (f_sl (1 : Int64) (nI ii)))), (0, .ref (g_ad G a)), (1, .int (nI o)), (2, .int y)]) 1 39 rfl dX7_firstBy_36 rfl (nI_1 ii) (by decide) rfl ?_
        refine a_goto 10 dX7_firstBy_39 (by decide) ?_
        have e9 : f_firsts f2 (w9 * t9) y (ii + 1) = f_firsts f2 (w9 * t9) y ii ||| f_sl 1 (nI ii) := if_pos e8
        rw [← e9]
        exact ih (ii + 1) (by omega)
      · skip
        refine a_icmp_ge 36 29 rfl dX7_firstBy_26 (by decide) (fun _ => ?_) (fun hc => absurd ((Int32.not_lt.mp e8)) hc)
        refine a_iinc (y := nI (ii + 1)) (lv' := [(5, .int (nI (ii + 1))), (3, .long (f_firsts f2 (w9 * t9) y ii)), (0, .ref (g_ad G a)), (1, .int (nI o)), (2, .int y)]) 0 39 rfl dX7_firstBy_36 rfl (nI_1 ii) (by decide) rfl ?_
        refine a_goto 10 dX7_firstBy_39 (by decide) ?_
        have e9 : f_firsts f2 (w9 * t9) y (ii + 1) = f_firsts f2 (w9 * t9) y ii := if_neg e8
        rw [← e9]
        exact ih (ii + 1) (by omega)
  exact key (w9 * t9) 0 (by omega)

end GR1
