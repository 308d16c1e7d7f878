/-! bit counts; Cube and Ground: what changes nothing -/
section CU2
variable {G : g_G} {h : List va_E} {a ka n : Nat} {x : Int64} {y : Int32}
def f_bcI1 (x : Int32) : Int32 := x - ((x.toUInt32 >>> ((1 : Int32).toUInt32 &&& Int32.toUInt32 31)).toInt32 &&& 1431655765)
def f_bcI2 (x : Int32) : Int32 := (x &&& 858993459) + ((x.toUInt32 >>> ((2 : Int32).toUInt32 &&& Int32.toUInt32 31)).toInt32 &&& 858993459)
def f_bcI3 (x : Int32) : Int32 := (x + (x.toUInt32 >>> ((4 : Int32).toUInt32 &&& Int32.toUInt32 31)).toInt32) &&& 252645135
def f_bcI4 (x : Int32) : Int32 := x + (x.toUInt32 >>> ((8 : Int32).toUInt32 &&& Int32.toUInt32 31)).toInt32
def f_bcI5 (x : Int32) : Int32 := x + (x.toUInt32 >>> ((16 : Int32).toUInt32 &&& Int32.toUInt32 31)).toInt32
/-- Integer.bitCount, as it is written -/
def f_bcI (x : Int32) : Int32 := f_bcI5 (f_bcI4 (f_bcI3 (f_bcI2 (f_bcI1 x)))) &&& 63
theorem r_bitCountI : g_Run G mJ6_bitCount_0f7a4 1 0 0 [.int y] h (some (.int (f_bcI y))) h := by
  refine g_Run.of (lv := [(0, .int y)]) (by decide) (Nat.le_of_ble_eq_true rfl) rfl ?_
  refine a_iload_n 0 1 rfl dJ6_bitCount_0f7a4_0 rfl rfl ?_
  refine a_iload_n 0 2 rfl dJ6_bitCount_0f7a4_1 rfl rfl ?_
  refine a_iconst (x := 1) 3 rfl dJ6_bitCount_0f7a4_2 (by decide) ?_
  refine a_iushr 4 rfl dJ6_bitCount_0f7a4_3 ?_
  refine a_ldcw q_492 7 rfl dJ6_bitCount_0f7a4_4 ?_
  refine a_iand 8 rfl dJ6_bitCount_0f7a4_7 ?_
  refine a_isub 9 rfl dJ6_bitCount_0f7a4_8 ?_
  refine a_istore_n (lv' := [(0, .int (y - (((y.toUInt32 >>> ((1 : Int32).toUInt32 &&& Int32.toUInt32 31)).toInt32) &&& 1431655765)))]) 10 rfl dJ6_bitCount_0f7a4_9 rfl (by decide) rfl ?_
  refine a_eq (lv2 := [(0, .int (f_bcI1 y))]) rfl rfl rfl rfl ?_
  refine a_iload_n 0 11 rfl dJ6_bitCount_0f7a4_10 rfl rfl ?_
  refine a_ldcw q_493 14 rfl dJ6_bitCount_0f7a4_11 ?_
  refine a_iand 15 rfl dJ6_bitCount_0f7a4_14 ?_
  refine a_iload_n 0 16 rfl dJ6_bitCount_0f7a4_15 rfl rfl ?_
  refine a_iconst (x := 2) 17 rfl dJ6_bitCount_0f7a4_16 (by decide) ?_
  refine a_iushr 18 rfl dJ6_bitCount_0f7a4_17 ?_
  refine a_ldcw q_493 21 rfl dJ6_bitCount_0f7a4_18 ?_
  refine a_iand 22 rfl dJ6_bitCount_0f7a4_21 ?_
  refine a_iadd 23 rfl dJ6_bitCount_0f7a4_22 ?_
  refine a_istore_n (lv' := [(0, .int (((f_bcI1 y) &&& 858993459) + ((((f_bcI1 y).toUInt32 >>> ((2 : Int32).toUInt32 &&& Int32.toUInt32 31)).toInt32) &&& 858993459)))]) 24 rfl dJ6_bitCount_0f7a4_23 rfl (by decide) rfl ?_
  refine a_eq (lv2 := [(0, .int (f_bcI2 (f_bcI1 y)))]) rfl rfl rfl rfl ?_
  refine a_iload_n 0 25 rfl dJ6_bitCount_0f7a4_24 rfl rfl ?_
  refine a_iload_n 0 26 rfl dJ6_bitCount_0f7a4_25 rfl rfl ?_
  refine a_iconst (x := 4) 27 rfl dJ6_bitCount_0f7a4_26 (by decide) ?_
  refine a_iushr 28 rfl dJ6_bitCount_0f7a4_27 ?_
  refine a_iadd 29 rfl dJ6_bitCount_0f7a4_28 ?_
  refine a_ldcw q_494 32 rfl dJ6_bitCount_0f7a4_29 ?_
  refine a_iand 33 rfl dJ6_bitCount_0f7a4_32 ?_
  refine a_istore_n (lv' := [(0, .int (((f_bcI2 (f_bcI1 y)) + (((f_bcI2 (f_bcI1 y)).toUInt32 >>> ((4 : Int32).toUInt32 &&& Int32.toUInt32 31)).toInt32)) &&& 252645135))]) 34 rfl dJ6_bitCount_0f7a4_33 rfl (by decide) rfl ?_
  refine a_eq (lv2 := [(0, .int (f_bcI3 (f_bcI2 (f_bcI1 y))))]) rfl rfl rfl rfl ?_
  refine a_iload_n 0 35 rfl dJ6_bitCount_0f7a4_34 rfl rfl ?_
  refine a_iload_n 0 36 rfl dJ6_bitCount_0f7a4_35 rfl rfl ?_
  refine a_bipush (x := 8) 38 rfl dJ6_bitCount_0f7a4_36 (by decide) ?_
  refine a_iushr 39 rfl dJ6_bitCount_0f7a4_38 ?_
  refine a_iadd 40 rfl dJ6_bitCount_0f7a4_39 ?_
  refine a_istore_n (lv' := [(0, .int ((f_bcI3 (f_bcI2 (f_bcI1 y))) + (((f_bcI3 (f_bcI2 (f_bcI1 y))).toUInt32 >>> ((8 : Int32).toUInt32 &&& Int32.toUInt32 31)).toInt32)))]) 41 rfl dJ6_bitCount_0f7a4_40 rfl (by decide) rfl ?_
  refine a_eq (lv2 := [(0, .int (f_bcI4 (f_bcI3 (f_bcI2 (f_bcI1 y)))))]) rfl rfl rfl rfl ?_
  refine a_iload_n 0 42 rfl dJ6_bitCount_0f7a4_41 rfl rfl ?_
  refine a_iload_n 0 43 rfl dJ6_bitCount_0f7a4_42 rfl rfl ?_
  refine a_bipush (x := 16) 45 rfl dJ6_bitCount_0f7a4_43 (by decide) ?_
  refine a_iushr 46 rfl dJ6_bitCount_0f7a4_45 ?_
  refine a_iadd 47 rfl dJ6_bitCount_0f7a4_46 ?_
  refine a_istore_n (lv' := [(0, .int ((f_bcI4 (f_bcI3 (f_bcI2 (f_bcI1 y)))) + (((f_bcI4 (f_bcI3 (f_bcI2 (f_bcI1 y)))).toUInt32 >>> ((16 : Int32).toUInt32 &&& Int32.toUInt32 31)).toInt32)))]) 48 rfl dJ6_bitCount_0f7a4_47 rfl (by decide) rfl ?_
  refine a_iload_n 0 49 rfl dJ6_bitCount_0f7a4_48 rfl rfl ?_
  refine a_bipush (x := 63) 51 rfl dJ6_bitCount_0f7a4_49 (by decide) ?_
  refine a_iand 52 rfl dJ6_bitCount_0f7a4_51 ?_
  exact a_ireturn .int rfl rfl (rfl) (rfl) dJ6_bitCount_0f7a4_52
def f_bcL1 (x : Int64) : Int64 := x - (f_sr x 1 &&& 6148914691236517205)
def f_bcL2 (x : Int64) : Int64 := (x &&& 3689348814741910323) + (f_sr x 2 &&& 3689348814741910323)
def f_bcL3 (x : Int64) : Int64 := (x + f_sr x 4) &&& 1085102592571150095
def f_bcL4 (x : Int64) : Int64 := x + f_sr x 8
def f_bcL5 (x : Int64) : Int64 := x + f_sr x 16
def f_bcL6 (x : Int64) : Int64 := x + f_sr x 32
/-- Long.bitCount, as it is written -/
def f_bcL (x : Int64) : Int32 := (f_bcL6 (f_bcL5 (f_bcL4 (f_bcL3 (f_bcL2 (f_bcL1 x)))))).toInt32 &&& 127
theorem r_bitCountL : g_Run G mJ13_bitCount_95d88 1 0 0 [.long x] h (some (.int (f_bcL x))) h := by
  refine g_Run.of (lv := [(0, .long x)]) (by decide) (Nat.le_of_ble_eq_true rfl) rfl ?_
  refine a_lload_n 0 1 rfl dJ13_bitCount_95d88_0 rfl rfl ?_
  refine a_lload_n 0 2 rfl dJ13_bitCount_95d88_1 rfl rfl ?_
  refine a_iconst (x := 1) 3 rfl dJ13_bitCount_95d88_2 (by decide) ?_
  refine a_lushr 4 rfl dJ13_bitCount_95d88_3 ?_
  refine a_ldc2 q_524 7 rfl dJ13_bitCount_95d88_4 ?_
  refine a_land 8 rfl dJ13_bitCount_95d88_7 ?_
  refine a_lsub 9 rfl dJ13_bitCount_95d88_8 ?_
  refine a_lstore_n (lv' := [(0, .long (x - ((f_sr x (1 : Int32)) &&& 6148914691236517205)))]) 10 rfl dJ13_bitCount_95d88_9 rfl (by decide) rfl ?_
  refine a_eq (lv2 := [(0, .long (f_bcL1 x))]) rfl rfl rfl rfl ?_
  refine a_lload_n 0 11 rfl dJ13_bitCount_95d88_10 rfl rfl ?_
  refine a_ldc2 q_525 14 rfl dJ13_bitCount_95d88_11 ?_
  refine a_land 15 rfl dJ13_bitCount_95d88_14 ?_
  refine a_lload_n 0 16 rfl dJ13_bitCount_95d88_15 rfl rfl ?_
  refine a_iconst (x := 2) 17 rfl dJ13_bitCount_95d88_16 (by decide) ?_
  refine a_lushr 18 rfl dJ13_bitCount_95d88_17 ?_
  refine a_ldc2 q_525 21 rfl dJ13_bitCount_95d88_18 ?_
  refine a_land 22 rfl dJ13_bitCount_95d88_21 ?_
  refine a_ladd 23 rfl dJ13_bitCount_95d88_22 ?_
  refine a_lstore_n (lv' := [(0, .long (((f_bcL1 x) &&& 3689348814741910323) + ((f_sr (f_bcL1 x) (2 : Int32)) &&& 3689348814741910323)))]) 24 rfl dJ13_bitCount_95d88_23 rfl (by decide) rfl ?_
  refine a_eq (lv2 := [(0, .long (f_bcL2 (f_bcL1 x)))]) rfl rfl rfl rfl ?_
  refine a_lload_n 0 25 rfl dJ13_bitCount_95d88_24 rfl rfl ?_
  refine a_lload_n 0 26 rfl dJ13_bitCount_95d88_25 rfl rfl ?_
  refine a_iconst (x := 4) 27 rfl dJ13_bitCount_95d88_26 (by decide) ?_
  refine a_lushr 28 rfl dJ13_bitCount_95d88_27 ?_
  refine a_ladd 29 rfl dJ13_bitCount_95d88_28 ?_
  refine a_ldc2 q_526 32 rfl dJ13_bitCount_95d88_29 ?_
  refine a_land 33 rfl dJ13_bitCount_95d88_32 ?_
  refine a_lstore_n (lv' := [(0, .long (((f_bcL2 (f_bcL1 x)) + (f_sr (f_bcL2 (f_bcL1 x)) (4 : Int32))) &&& 1085102592571150095))]) 34 rfl dJ13_bitCount_95d88_33 rfl (by decide) rfl ?_
  refine a_eq (lv2 := [(0, .long (f_bcL3 (f_bcL2 (f_bcL1 x))))]) rfl rfl rfl rfl ?_
  refine a_lload_n 0 35 rfl dJ13_bitCount_95d88_34 rfl rfl ?_
  refine a_lload_n 0 36 rfl dJ13_bitCount_95d88_35 rfl rfl ?_
  refine a_bipush (x := 8) 38 rfl dJ13_bitCount_95d88_36 (by decide) ?_
  refine a_lushr 39 rfl dJ13_bitCount_95d88_38 ?_
  refine a_ladd 40 rfl dJ13_bitCount_95d88_39 ?_
  refine a_lstore_n (lv' := [(0, .long ((f_bcL3 (f_bcL2 (f_bcL1 x))) + (f_sr (f_bcL3 (f_bcL2 (f_bcL1 x))) (8 : Int32))))]) 41 rfl dJ13_bitCount_95d88_40 rfl (by decide) rfl ?_
  refine a_eq (lv2 := [(0, .long (f_bcL4 (f_bcL3 (f_bcL2 (f_bcL1 x)))))]) rfl rfl rfl rfl ?_
  refine a_lload_n 0 42 rfl dJ13_bitCount_95d88_41 rfl rfl ?_
  refine a_lload_n 0 43 rfl dJ13_bitCount_95d88_42 rfl rfl ?_
  refine a_bipush (x := 16) 45 rfl dJ13_bitCount_95d88_43 (by decide) ?_
  refine a_lushr 46 rfl dJ13_bitCount_95d88_45 ?_
  refine a_ladd 47 rfl dJ13_bitCount_95d88_46 ?_
  refine a_lstore_n (lv' := [(0, .long ((f_bcL4 (f_bcL3 (f_bcL2 (f_bcL1 x)))) + (f_sr (f_bcL4 (f_bcL3 (f_bcL2 (f_bcL1 x)))) (16 : Int32))))]) 48 rfl dJ13_bitCount_95d88_47 rfl (by decide) rfl ?_
  refine a_eq (lv2 := [(0, .long (f_bcL5 (f_bcL4 (f_bcL3 (f_bcL2 (f_bcL1 x))))))]) rfl rfl rfl rfl ?_
  refine a_lload_n 0 49 rfl dJ13_bitCount_95d88_48 rfl rfl ?_
  refine a_lload_n 0 50 rfl dJ13_bitCount_95d88_49 rfl rfl ?_
  refine a_bipush (x := 32) 52 rfl dJ13_bitCount_95d88_50 (by decide) ?_
  refine a_lushr 53 rfl dJ13_bitCount_95d88_52 ?_
  refine a_ladd 54 rfl dJ13_bitCount_95d88_53 ?_
  refine a_lstore_n (lv' := [(0, .long ((f_bcL5 (f_bcL4 (f_bcL3 (f_bcL2 (f_bcL1 x))))) + (f_sr (f_bcL5 (f_bcL4 (f_bcL3 (f_bcL2 (f_bcL1 x))))) (32 : Int32))))]) 55 rfl dJ13_bitCount_95d88_54 rfl (by decide) rfl ?_
  refine a_lload_n 0 56 rfl dJ13_bitCount_95d88_55 rfl rfl ?_
  refine a_l2i 57 rfl dJ13_bitCount_95d88_56 ?_
  refine a_bipush (x := 127) 59 rfl dJ13_bitCount_95d88_57 (by decide) ?_
  refine a_iand 60 rfl dJ13_bitCount_95d88_59 ?_
  exact a_ireturn .int rfl rfl (rfl) (rfl) dJ13_bitCount_95d88_60
/-- the sets of p places, all of them -/
def f_all (p : Nat) : Int64 := if 64 ≤ p then -1 else f_sl 1 (nI p) - 1
theorem r_all_cube (hC : h[a]? = some (c_O 3 [.ref (g_ad G ka), .int (nI n)])) (hn : n ≤ 6) : g_Run G mX7_all 2 0 0 [.ref (g_ad G a)] h (some (.long (f_all (2 ^ n)))) h := by
  have hp : 2 ^ n ≤ 64 := Nat.pow_le_pow_right (by decide) hn
  refine g_Run.of (lv := [(0, .ref (g_ad G a))]) (by decide) (Nat.le_of_ble_eq_true rfl) rfl ?_
  refine a_aload_n 0 1 rfl dX7_all_0 rfl rfl ?_
  refine a_callU (as := []) (C := RX3) (owner := "LeastShadows$Ground") (x := ⟨"LeastShadows$Ground", "places", "()I"⟩) (rest := []) (st2 := [.int (nI (2 ^ n))]) (u1 := 0) (v1 := 0) (u2 := 0) (v2 := 0) (r_X3_places hC hn) (⟨_, _, _, _, hC, rfl⟩) oX3_places ⟨q_384, q_386, q_387, q_388, ⟨by decide, by decide⟩, Or.inr q_385⟩ rfl (by decide) (by decide) rfl (Nat.le_of_ble_eq_true rfl) 4 rfl dX7_all_1 rfl ?_
  refine a_bipush (x := 64) 6 rfl dX7_all_4 (by decide) ?_
  refine a_icmp_lt 15 9 rfl dX7_all_6 (by decide) (fun c6 => ?_) (fun c6 => ?_)
  · skip
    have hlt : ¬ 64 ≤ 2 ^ n := fun z => nI_ge (b := 64) (a := 2 ^ n) (Nat.lt_of_not_le fun w => absurd c6 (nI_nlt (b := 64) w (by omega))) (by omega) (nI_le (a := 64) z (by omega))
    refine a_lconst (x := 1) 16 rfl dX7_all_15 (by decide) ?_
    refine a_aload_n 0 17 rfl dX7_all_16 rfl rfl ?_
    refine a_callU (as := []) (C := RX3) (owner := "LeastShadows$Ground") (x := ⟨"LeastShadows$Ground", "places", "()I"⟩) (rest := [.long 1]) (st2 := [.int (nI (2 ^ n)), .long 1]) (u1 := 0) (v1 := 0) (u2 := 0) (v2 := 0) (r_X3_places hC hn) (⟨_, _, _, _, hC, rfl⟩) oX3_places ⟨q_384, q_386, q_387, q_388, ⟨by decide, by decide⟩, Or.inr q_385⟩ rfl (by decide) (by decide) rfl (Nat.le_of_ble_eq_true rfl) 20 rfl dX7_all_17 rfl ?_
    refine a_lshl 21 rfl dX7_all_20 ?_
    refine a_lconst (x := 1) 22 rfl dX7_all_21 (by decide) ?_
    refine a_lsub 23 rfl dX7_all_22 ?_
    exact a_lreturn rfl ((by rw [f_all, if_neg hlt]; rfl)) (rfl) dX7_all_23
  · skip
    refine a_ldc2 q_393 12 rfl dX7_all_9 ?_
    refine a_goto 23 dX7_all_12 (by decide) ?_
    exact a_lreturn rfl ((by rw [f_all, if_pos (Nat.le_of_not_lt fun z => c6 (nI_lt (b := 64) z (by omega)))])) (rfl) dX7_all_23
theorem r_holds_cube (hC : h[a]? = some (c_O 3 [.ref (g_ad G ka), .int (nI n)])) (hn : n ≤ 6) : g_Run G mX7_holds 3 0 0 [.ref (g_ad G a), .long x] h (some (.int (if x &&& (f_all (2 ^ n) ^^^ (-1)) = 0 then 1 else 0))) h := by
  refine g_Run.of (lv := [(0, .ref (g_ad G a)), (1, .long x)]) (by decide) (Nat.le_of_ble_eq_true rfl) rfl ?_
  refine a_lload_n 1 1 rfl dX7_holds_0 rfl rfl ?_
  refine a_aload_n 0 2 rfl dX7_holds_1 rfl rfl ?_
  refine a_callU (as := []) (C := RX3) (owner := "LeastShadows$Ground") (x := ⟨"LeastShadows$Ground", "all", "()J"⟩) (rest := [.long x]) (st2 := [.long (f_all (2 ^ n)), .long x]) (u1 := 0) (v1 := 0) (u2 := 0) (v2 := 0) (r_all_cube hC hn) (⟨_, _, _, _, hC, rfl⟩) oX7_all ⟨q_378, q_380, q_381, q_379, ⟨by decide, by decide⟩, Or.inl rfl⟩ rfl (by decide) (by decide) rfl (Nat.le_of_ble_eq_true rfl) 5 rfl dX7_holds_2 rfl ?_
  refine a_ldc2 q_393 8 rfl dX7_holds_5 ?_
  refine a_lxor 9 rfl dX7_holds_8 ?_
  refine a_land 10 rfl dX7_holds_9 ?_
  refine a_lconst (x := 0) 11 rfl dX7_holds_10 (by decide) ?_
  refine a_lcmp 12 rfl dX7_holds_11 ?_
  refine a_if_ne 19 15 rfl dX7_holds_12 (by decide) (fun c12 => ?_) (fun c12 => ?_)
  · skip
    refine a_iconst (x := 0) 20 rfl dX7_holds_19 (by decide) ?_
    exact a_ireturn .boolean rfl rfl ((by rw [if_neg (g_cmp_ne.mp c12)])) (rfl) dX7_holds_20
  · skip
    refine a_iconst (x := 1) 16 rfl dX7_holds_15 (by decide) ?_
    refine a_goto 20 dX7_holds_16 (by decide) ?_
    exact a_ireturn .boolean rfl rfl ((by rw [if_pos (g_cmp_eq.mp c12)])) (rfl) dX7_holds_20
/-- the upper shadow by the elements below i -/
def f_upper (x : Int64) : Nat → Int64
  | 0 => 0
  | i + 1 => f_upper x i ||| f_sl (x &&& (f_hold i ^^^ (-1))) (f_pw i)
theorem r_X3_upperShadowOf (hC : h[a]? = some (c_O 3 [.ref (g_ad G ka), .int (nI n)])) (hn : n ≤ 6) : g_Run G mX3_upperShadowOf 2 0 0 [.ref (g_ad G a), .long x] h (some (.long (f_upper x n))) h := by
  refine g_Run.of (lv := [(0, .ref (g_ad G a)), (1, .long x)]) (by decide) (Nat.le_of_ble_eq_true rfl) rfl ?_
  refine a_lconst (x := 0) 1 rfl dX3_upperShadowOf_0 (by decide) ?_
  refine a_lstore_n (lv' := [(3, .long 0), (0, .ref (g_ad G a)), (1, .long x)]) 2 rfl dX3_upperShadowOf_1 rfl (by decide) rfl ?_
  refine a_iconst (x := 0) 3 rfl dX3_upperShadowOf_2 (by decide) ?_
  refine a_istore (lv' := [(5, .int 0), (3, .long 0), (0, .ref (g_ad G a)), (1, .long x)]) 5 rfl dX3_upperShadowOf_3 (by decide) rfl ?_
  have key : ∀ jj ii : Nat, ii + jj = n → g_A G mX3_upperShadowOf 2 0 0 5 [(5, .int (nI ii)), (3, .long (f_upper x ii)), (0, .ref (g_ad G a)), (1, .long x)] [] h (some (.long (f_upper x n))) h := by
    intro jj
    induction jj with
    | zero =>
      intro ii hii
      refine a_iload 0 7 rfl dX3_upperShadowOf_5 rfl ?_
      refine a_aload_n 2 8 rfl dX3_upperShadowOf_7 rfl rfl ?_
      refine a_get 1 cl_3 f_RX3_9_3 (by decide) (hC) rfl 11 rfl dX3_upperShadowOf_8 ?_
      refine a_icmp_ge 39 14 rfl dX3_upperShadowOf_11 (by decide) (fun _ => ?_) (fun hc => absurd (nI_le (by omega) (by omega)) hc)
      refine a_lload_n 1 40 rfl dX3_upperShadowOf_39 rfl rfl ?_
      exact a_lreturn rfl ((by rw [show ii = n by omega])) (rfl) dX3_upperShadowOf_40
    | succ jj ih =>
      intro ii hii
      refine a_iload 0 7 rfl dX3_upperShadowOf_5 rfl ?_
      refine a_aload_n 2 8 rfl dX3_upperShadowOf_7 rfl rfl ?_
      refine a_get 1 cl_3 f_RX3_9_3 (by decide) (hC) rfl 11 rfl dX3_upperShadowOf_8 ?_
      refine a_icmp_ge 39 14 rfl dX3_upperShadowOf_11 (by decide) (fun hc => absurd hc (nI_ge (by omega) (by omega))) (fun _ => ?_)
      refine a_lload_n 1 15 rfl dX3_upperShadowOf_14 rfl rfl ?_
      refine a_lload_n 3 16 rfl dX3_upperShadowOf_15 rfl rfl ?_
      refine a_iload 0 18 rfl dX3_upperShadowOf_16 rfl ?_
      refine a_callS (as := [.int (nI ii)]) (rest := [.long x, .long (f_upper x ii)]) (st2 := [.long (f_hold ii), .long x, .long (f_upper x ii)]) (u1 := 0) (v1 := 0) (u2 := 0) (v2 := 0) (r_X3_holding (i := ii) (by omega)) oX3_holding q_480 q_481 rfl (by decide) (by decide) rfl (Nat.le_of_ble_eq_true rfl) 21 rfl dX3_upperShadowOf_18 rfl ?_
      refine a_ldc2 q_475 24 rfl dX3_upperShadowOf_21 ?_
      refine a_lxor 25 rfl dX3_upperShadowOf_24 ?_
      refine a_land 26 rfl dX3_upperShadowOf_25 ?_
      refine a_iconst (x := 1) 27 rfl dX3_upperShadowOf_26 (by decide) ?_
      refine a_iload 0 29 rfl dX3_upperShadowOf_27 rfl ?_
      refine a_ishl 30 rfl dX3_upperShadowOf_29 ?_
      refine a_lshl 31 rfl dX3_upperShadowOf_30 ?_
      refine a_lor 32 rfl dX3_upperShadowOf_31 ?_
      refine a_lstore_n (lv' := [(3, .long ((f_upper x ii) ||| (f_sl (x &&& ((f_hold ii) ^^^ (-1))) ((1 : Int32) <<< ((nI ii) &&& 31))))), (5, .int (nI ii)), (0, .ref (g_ad G a)), (1, .long x)]) 33 rfl dX3_upperShadowOf_32 rfl (by decide) rfl ?_
      refine a_iinc (y := nI (ii + 1)) (lv' := [(5, .int (nI (ii + 1))), (3, .long ((f_upper x ii) ||| (f_sl (x &&& ((f_hold ii) ^^^ (-1))) ((1 : Int32) <<< ((nI ii) &&& 31))))), (0, .ref (g_ad G a)), (1, .long x)]) 1 36 rfl dX3_upperShadowOf_33 rfl (nI_1 ii) (by decide) rfl ?_
      refine a_goto 5 dX3_upperShadowOf_36 (by decide) ?_
      exact ih (ii + 1) (by omega)
  exact key n 0 (by omega)
def f_border (x : Int64) (n : Nat) : Int64 := (f_shadow x n ||| f_upper x n) &&& (x ^^^ (-1))
theorem r_X3_borderOf (hC : h[a]? = some (c_O 3 [.ref (g_ad G ka), .int (nI n)])) (hn : n ≤ 6) : g_Run G mX3_borderOf 3 0 0 [.ref (g_ad G a), .long x] h (some (.long (f_border x n))) h := by
  refine g_Run.of (lv := [(0, .ref (g_ad G a)), (1, .long x)]) (by decide) (Nat.le_of_ble_eq_true rfl) rfl ?_
  refine a_aload_n 0 1 rfl dX3_borderOf_0 rfl rfl ?_
  refine a_lload_n 1 2 rfl dX3_borderOf_1 rfl rfl ?_
  refine a_callV (as := [.long x]) (rest := []) (st2 := [.long (f_shadow x n)]) (u1 := 0) (v1 := 0) (u2 := 0) (v2 := 0) (r_X3_shadowOf hC hn) (⟨_, _, _, _, hC, rfl⟩) oX3_shadowOf q_515 q_505 q_18 rfl (by decide) (by decide) rfl (Nat.le_of_ble_eq_true rfl) 5 rfl dX3_borderOf_2 rfl ?_
  refine a_aload_n 0 6 rfl dX3_borderOf_5 rfl rfl ?_
  refine a_lload_n 1 7 rfl dX3_borderOf_6 rfl rfl ?_
  refine a_callV (as := [.long x]) (rest := [.long (f_shadow x n)]) (st2 := [.long (f_upper x n), .long (f_shadow x n)]) (u1 := 0) (v1 := 0) (u2 := 0) (v2 := 0) (r_X3_upperShadowOf hC hn) (⟨_, _, _, _, hC, rfl⟩) oX3_upperShadowOf q_516 q_509 q_19 rfl (by decide) (by decide) rfl (Nat.le_of_ble_eq_true rfl) 10 rfl dX3_borderOf_7 rfl ?_
  refine a_lor 11 rfl dX3_borderOf_10 ?_
  refine a_lload_n 1 12 rfl dX3_borderOf_11 rfl rfl ?_
  refine a_ldc2 q_475 15 rfl dX3_borderOf_12 ?_
  refine a_lxor 16 rfl dX3_borderOf_15 ?_
  refine a_land 17 rfl dX3_borderOf_16 ?_
  exact a_lreturn rfl (rfl) (rfl) dX3_borderOf_17
/-- the edges by the elements below i -/
def f_edges (x : Int64) (n : Nat) : Nat → Int32
  | 0 => 0
  | i + 1 => f_edges x n i + f_bcL (((x ^^^ f_sr x (f_pw i)) &&& (f_hold i ^^^ (-1))) &&& f_all (2 ^ n))
theorem r_X3_edgesOf (hC : h[a]? = some (c_O 3 [.ref (g_ad G ka), .int (nI n)])) (hn : n ≤ 6) : g_Run G mX3_edgesOf 3 0 0 [.ref (g_ad G a), .long x] h (some (.int (f_edges x n n))) h := by
  refine g_Run.of (lv := [(0, .ref (g_ad G a)), (1, .long x)]) (by decide) (Nat.le_of_ble_eq_true rfl) rfl ?_
  refine a_iconst (x := 0) 1 rfl dX3_edgesOf_0 (by decide) ?_
  refine a_istore_n (lv' := [(3, .int 0), (0, .ref (g_ad G a)), (1, .long x)]) 2 rfl dX3_edgesOf_1 rfl (by decide) rfl ?_
  refine a_iconst (x := 0) 3 rfl dX3_edgesOf_2 (by decide) ?_
  refine a_istore (lv' := [(4, .int 0), (3, .int 0), (0, .ref (g_ad G a)), (1, .long x)]) 5 rfl dX3_edgesOf_3 (by decide) rfl ?_
  have key : ∀ jj ii : Nat, ii + jj = n → g_A G mX3_edgesOf 3 0 0 5 [(4, .int (nI ii)), (3, .int (f_edges x n ii)), (0, .ref (g_ad G a)), (1, .long x)] [] h (some (.int (f_edges x n n))) h := by
    intro jj
    induction jj with
    | zero =>
      intro ii hii
      refine a_iload 0 7 rfl dX3_edgesOf_5 rfl ?_
      refine a_aload_n 2 8 rfl dX3_edgesOf_7 rfl rfl ?_
      refine a_get 1 cl_3 f_RX3_9_3 (by decide) (hC) rfl 11 rfl dX3_edgesOf_8 ?_
      refine a_icmp_ge 49 14 rfl dX3_edgesOf_11 (by decide) (fun _ => ?_) (fun hc => absurd (nI_le (by omega) (by omega)) hc)
      refine a_iload_n 1 50 rfl dX3_edgesOf_49 rfl rfl ?_
      exact a_ireturn .int rfl rfl ((by rw [show ii = n by omega])) (rfl) dX3_edgesOf_50
    | succ jj ih =>
      intro ii hii
      refine a_iload 0 7 rfl dX3_edgesOf_5 rfl ?_
      refine a_aload_n 2 8 rfl dX3_edgesOf_7 rfl rfl ?_
      refine a_get 1 cl_3 f_RX3_9_3 (by decide) (hC) rfl 11 rfl dX3_edgesOf_8 ?_
      refine a_icmp_ge 49 14 rfl dX3_edgesOf_11 (by decide) (fun hc => absurd hc (nI_ge (by omega) (by omega))) (fun _ => ?_)
      refine a_iload_n 1 15 rfl dX3_edgesOf_14 rfl rfl ?_
      refine a_lload_n 3 16 rfl dX3_edgesOf_15 rfl rfl ?_
      refine a_lload_n 3 17 rfl dX3_edgesOf_16 rfl rfl ?_
      refine a_iconst (x := 1) 18 rfl dX3_edgesOf_17 (by decide) ?_
      refine a_iload 0 20 rfl dX3_edgesOf_18 rfl ?_
      refine a_ishl 21 rfl dX3_edgesOf_20 ?_
      refine a_lushr 22 rfl dX3_edgesOf_21 ?_
      refine a_lxor 23 rfl dX3_edgesOf_22 ?_
      refine a_iload 0 25 rfl dX3_edgesOf_23 rfl ?_
      refine a_callS (as := [.int (nI ii)]) (rest := [.long (x ^^^ (f_sr x ((1 : Int32) <<< ((nI ii) &&& 31)))), .int (f_edges x n ii)]) (st2 := [.long (f_hold ii), .long (x ^^^ (f_sr x ((1 : Int32) <<< ((nI ii) &&& 31)))), .int (f_edges x n ii)]) (u1 := 0) (v1 := 0) (u2 := 0) (v2 := 0) (r_X3_holding (i := ii) (by omega)) oX3_holding q_480 q_481 rfl (by decide) (by decide) rfl (Nat.le_of_ble_eq_true rfl) 28 rfl dX3_edgesOf_25 rfl ?_
      refine a_ldc2 q_475 31 rfl dX3_edgesOf_28 ?_
      refine a_lxor 32 rfl dX3_edgesOf_31 ?_
      refine a_land 33 rfl dX3_edgesOf_32 ?_
      refine a_aload_n 2 34 rfl dX3_edgesOf_33 rfl rfl ?_
      refine a_callU (as := []) (C := RX3) (owner := "LeastShadows$Ground") (x := ⟨"LeastShadows$Cube", "all", "()J"⟩) (rest := [.long ((x ^^^ (f_sr x ((1 : Int32) <<< ((nI ii) &&& 31)))) &&& ((f_hold ii) ^^^ (-1))), .int (f_edges x n ii)]) (st2 := [.long (f_all (2 ^ n)), .long ((x ^^^ (f_sr x ((1 : Int32) <<< ((nI ii) &&& 31)))) &&& ((f_hold ii) ^^^ (-1))), .int (f_edges x n ii)]) (u1 := 0) (v1 := 0) (u2 := 0) (v2 := 0) (r_all_cube hC hn) (⟨_, _, _, _, hC, rfl⟩) oX7_all ⟨q_471, q_472, q_474, q_379, ⟨by decide, by decide⟩, Or.inl rfl⟩ rfl (by decide) (by decide) rfl (Nat.le_of_ble_eq_true rfl) 37 rfl dX3_edgesOf_34 rfl ?_
      refine a_land 38 rfl dX3_edgesOf_37 ?_
      refine a_callS (as := [.long (((x ^^^ (f_sr x ((1 : Int32) <<< ((nI ii) &&& 31)))) &&& ((f_hold ii) ^^^ (-1))) &&& (f_all (2 ^ n)))]) (rest := [.int (f_edges x n ii)]) (st2 := [.int (f_bcL (((x ^^^ f_sr x (f_pw ii)) &&& (f_hold ii ^^^ (-1))) &&& f_all (2 ^ n))), .int (f_edges x n ii)]) (u1 := 0) (v1 := 0) (u2 := 0) (v2 := 0) (r_bitCountL) oJ13_bitCount_95d88 q_531 q_522 rfl (by decide) (by decide) rfl (Nat.le_of_ble_eq_true rfl) 41 rfl dX3_edgesOf_38 rfl ?_
      refine a_iadd 42 rfl dX3_edgesOf_41 ?_
      refine a_istore_n (lv' := [(3, .int ((f_edges x n ii) + (f_bcL (((x ^^^ f_sr x (f_pw ii)) &&& (f_hold ii ^^^ (-1))) &&& f_all (2 ^ n))))), (4, .int (nI ii)), (0, .ref (g_ad G a)), (1, .long x)]) 43 rfl dX3_edgesOf_42 rfl (by decide) rfl ?_
      refine a_iinc (y := nI (ii + 1)) (lv' := [(4, .int (nI (ii + 1))), (3, .int ((f_edges x n ii) + (f_bcL (((x ^^^ f_sr x (f_pw ii)) &&& (f_hold ii ^^^ (-1))) &&& f_all (2 ^ n))))), (0, .ref (g_ad G a)), (1, .long x)]) 1 46 rfl dX3_edgesOf_43 rfl (nI_1 ii) (by decide) rfl ?_
      refine a_goto 5 dX3_edgesOf_46 (by decide) ?_
      exact ih (ii + 1) (by omega)
  exact key n 0 (by omega)
/-- these sets and their parts by the elements below i -/
def f_parts (x : Int64) : Nat → Int64
  | 0 => x
  | i + 1 => f_parts x i ||| f_sr (f_parts x i &&& f_hold i) (f_pw i)
theorem r_X3_withParts (hC : h[a]? = some (c_O 3 [.ref (g_ad G ka), .int (nI n)])) (hn : n ≤ 6) : g_Run G mX3_withParts 2 0 0 [.ref (g_ad G a), .long x] h (some (.long (f_parts x n))) h := by
  refine g_Run.of (lv := [(0, .ref (g_ad G a)), (1, .long x)]) (by decide) (Nat.le_of_ble_eq_true rfl) rfl ?_
  refine a_lload_n 1 1 rfl dX3_withParts_0 rfl rfl ?_
  refine a_lstore_n (lv' := [(3, .long x), (0, .ref (g_ad G a)), (1, .long x)]) 2 rfl dX3_withParts_1 rfl (by decide) rfl ?_
  refine a_iconst (x := 0) 3 rfl dX3_withParts_2 (by decide) ?_
  refine a_istore (lv' := [(5, .int 0), (3, .long x), (0, .ref (g_ad G a)), (1, .long x)]) 5 rfl dX3_withParts_3 (by decide) rfl ?_
  have key : ∀ jj ii : Nat, ii + jj = n → g_A G mX3_withParts 2 0 0 5 [(5, .int (nI ii)), (3, .long (f_parts x ii)), (0, .ref (g_ad G a)), (1, .long x)] [] h (some (.long (f_parts x n))) h := by
    intro jj
    induction jj with
    | zero =>
      intro ii hii
      refine a_iload 0 7 rfl dX3_withParts_5 rfl ?_
      refine a_aload_n 2 8 rfl dX3_withParts_7 rfl rfl ?_
      refine a_get 1 cl_3 f_RX3_9_3 (by decide) (hC) rfl 11 rfl dX3_withParts_8 ?_
      refine a_icmp_ge 35 14 rfl dX3_withParts_11 (by decide) (fun _ => ?_) (fun hc => absurd (nI_le (by omega) (by omega)) hc)
      refine a_lload_n 1 36 rfl dX3_withParts_35 rfl rfl ?_
      exact a_lreturn rfl ((by rw [show ii = n by omega])) (rfl) dX3_withParts_36
    | succ jj ih =>
      intro ii hii
      refine a_iload 0 7 rfl dX3_withParts_5 rfl ?_
      refine a_aload_n 2 8 rfl dX3_withParts_7 rfl rfl ?_
      refine a_get 1 cl_3 f_RX3_9_3 (by decide) (hC) rfl 11 rfl dX3_withParts_8 ?_
      refine a_icmp_ge 35 14 rfl dX3_withParts_11 (by decide) (fun hc => absurd hc (nI_ge (by omega) (by omega))) (fun _ => ?_)
      refine a_lload_n 1 15 rfl dX3_withParts_14 rfl rfl ?_
      refine a_lload_n 1 16 rfl dX3_withParts_15 rfl rfl ?_
      refine a_iload 0 18 rfl dX3_withParts_16 rfl ?_
      refine a_callS (as := [.int (nI ii)]) (rest := [.long (f_parts x ii), .long (f_parts x ii)]) (st2 := [.long (f_hold ii), .long (f_parts x ii), .long (f_parts x ii)]) (u1 := 0) (v1 := 0) (u2 := 0) (v2 := 0) (r_X3_holding (i := ii) (by omega)) oX3_holding q_480 q_481 rfl (by decide) (by decide) rfl (Nat.le_of_ble_eq_true rfl) 21 rfl dX3_withParts_18 rfl ?_
      refine a_land 22 rfl dX3_withParts_21 ?_
      refine a_iconst (x := 1) 23 rfl dX3_withParts_22 (by decide) ?_
      refine a_iload 0 25 rfl dX3_withParts_23 rfl ?_
      refine a_ishl 26 rfl dX3_withParts_25 ?_
      refine a_lushr 27 rfl dX3_withParts_26 ?_
      refine a_lor 28 rfl dX3_withParts_27 ?_
      refine a_lstore_n (lv' := [(3, .long ((f_parts x ii) ||| (f_sr ((f_parts x ii) &&& (f_hold ii)) ((1 : Int32) <<< ((nI ii) &&& 31))))), (5, .int (nI ii)), (0, .ref (g_ad G a)), (1, .long x)]) 29 rfl dX3_withParts_28 rfl (by decide) rfl ?_
      refine a_iinc (y := nI (ii + 1)) (lv' := [(5, .int (nI (ii + 1))), (3, .long ((f_parts x ii) ||| (f_sr ((f_parts x ii) &&& (f_hold ii)) ((1 : Int32) <<< ((nI ii) &&& 31))))), (0, .ref (g_ad G a)), (1, .long x)]) 1 32 rfl dX3_withParts_29 rfl (nI_1 ii) (by decide) rfl ?_
      refine a_goto 5 dX3_withParts_32 (by decide) ?_
      exact ih (ii + 1) (by omega)
  exact key n 0 (by omega)
def f_turned (x : Int64) : Nat → Int64
  | 0 => x
  | i + 1 => f_sr (f_turned x i &&& f_hold i) (f_pw i) ||| f_sl (f_turned x i &&& (f_hold i ^^^ (-1))) (f_pw i)
theorem r_X3_turned (hC : h[a]? = some (c_O 3 [.ref (g_ad G ka), .int (nI n)])) (hn : n ≤ 6) : g_Run G mX3_turned 2 0 0 [.ref (g_ad G a), .long x] h (some (.long (f_turned x n))) h := by
  refine g_Run.of (lv := [(0, .ref (g_ad G a)), (1, .long x)]) (by decide) (Nat.le_of_ble_eq_true rfl) rfl ?_
  refine a_lload_n 1 1 rfl dX3_turned_0 rfl rfl ?_
  refine a_lstore_n (lv' := [(3, .long x), (0, .ref (g_ad G a)), (1, .long x)]) 2 rfl dX3_turned_1 rfl (by decide) rfl ?_
  refine a_iconst (x := 0) 3 rfl dX3_turned_2 (by decide) ?_
  refine a_istore (lv' := [(5, .int 0), (3, .long x), (0, .ref (g_ad G a)), (1, .long x)]) 5 rfl dX3_turned_3 (by decide) rfl ?_
  have key : ∀ jj ii : Nat, ii + jj = n → g_A G mX3_turned 2 0 0 5 [(5, .int (nI ii)), (3, .long (f_turned x ii)), (0, .ref (g_ad G a)), (1, .long x)] [] h (some (.long (f_turned x n))) h := by
    intro jj
    induction jj with
    | zero =>
      intro ii hii
      refine a_iload 0 7 rfl dX3_turned_5 rfl ?_
      refine a_aload_n 2 8 rfl dX3_turned_7 rfl rfl ?_
      refine a_get 1 cl_3 f_RX3_9_3 (by decide) (hC) rfl 11 rfl dX3_turned_8 ?_
      refine a_icmp_ge 50 14 rfl dX3_turned_11 (by decide) (fun _ => ?_) (fun hc => absurd (nI_le (by omega) (by omega)) hc)
      refine a_lload_n 1 51 rfl dX3_turned_50 rfl rfl ?_
      exact a_lreturn rfl ((by rw [show ii = n by omega])) (rfl) dX3_turned_51
    | succ jj ih =>
      intro ii hii
      refine a_iload 0 7 rfl dX3_turned_5 rfl ?_
      refine a_aload_n 2 8 rfl dX3_turned_7 rfl rfl ?_
      refine a_get 1 cl_3 f_RX3_9_3 (by decide) (hC) rfl 11 rfl dX3_turned_8 ?_
      refine a_icmp_ge 50 14 rfl dX3_turned_11 (by decide) (fun hc => absurd hc (nI_ge (by omega) (by omega))) (fun _ => ?_)
      refine a_lload_n 1 15 rfl dX3_turned_14 rfl rfl ?_
      refine a_iload 0 17 rfl dX3_turned_15 rfl ?_
      refine a_callS (as := [.int (nI ii)]) (rest := [.long (f_turned x ii)]) (st2 := [.long (f_hold ii), .long (f_turned x ii)]) (u1 := 0) (v1 := 0) (u2 := 0) (v2 := 0) (r_X3_holding (i := ii) (by omega)) oX3_holding q_480 q_481 rfl (by decide) (by decide) rfl (Nat.le_of_ble_eq_true rfl) 20 rfl dX3_turned_17 rfl ?_
      refine a_land 21 rfl dX3_turned_20 ?_
      refine a_iconst (x := 1) 22 rfl dX3_turned_21 (by decide) ?_
      refine a_iload 0 24 rfl dX3_turned_22 rfl ?_
      refine a_ishl 25 rfl dX3_turned_24 ?_
      refine a_lushr 26 rfl dX3_turned_25 ?_
      refine a_lload_n 1 27 rfl dX3_turned_26 rfl rfl ?_
      refine a_iload 0 29 rfl dX3_turned_27 rfl ?_
      refine a_callS (as := [.int (nI ii)]) (rest := [.long (f_turned x ii), .long (f_sr ((f_turned x ii) &&& (f_hold ii)) ((1 : Int32) <<< ((nI ii) &&& 31)))]) (st2 := [.long (f_hold ii), .long (f_turned x ii), .long (f_sr ((f_turned x ii) &&& (f_hold ii)) ((1 : Int32) <<< ((nI ii) &&& 31)))]) (u1 := 0) (v1 := 0) (u2 := 0) (v2 := 0) (r_X3_holding (i := ii) (by omega)) oX3_holding q_480 q_481 rfl (by decide) (by decide) rfl (Nat.le_of_ble_eq_true rfl) 32 rfl dX3_turned_29 rfl ?_
      refine a_ldc2 q_475 35 rfl dX3_turned_32 ?_
      refine a_lxor 36 rfl dX3_turned_35 ?_
      refine a_land 37 rfl dX3_turned_36 ?_
      refine a_iconst (x := 1) 38 rfl dX3_turned_37 (by decide) ?_
      refine a_iload 0 40 rfl dX3_turned_38 rfl ?_
      refine a_ishl 41 rfl dX3_turned_40 ?_
      refine a_lshl 42 rfl dX3_turned_41 ?_
      refine a_lor 43 rfl dX3_turned_42 ?_
      refine a_lstore_n (lv' := [(3, .long ((f_sr ((f_turned x ii) &&& (f_hold ii)) ((1 : Int32) <<< ((nI ii) &&& 31))) ||| (f_sl ((f_turned x ii) &&& ((f_hold ii) ^^^ (-1))) ((1 : Int32) <<< ((nI ii) &&& 31))))), (5, .int (nI ii)), (0, .ref (g_ad G a)), (1, .long x)]) 44 rfl dX3_turned_43 rfl (by decide) rfl ?_
      refine a_iinc (y := nI (ii + 1)) (lv' := [(5, .int (nI (ii + 1))), (3, .long ((f_sr ((f_turned x ii) &&& (f_hold ii)) ((1 : Int32) <<< ((nI ii) &&& 31))) ||| (f_sl ((f_turned x ii) &&& ((f_hold ii) ^^^ (-1))) ((1 : Int32) <<< ((nI ii) &&& 31))))), (0, .ref (g_ad G a)), (1, .long x)]) 1 47 rfl dX3_turned_44 rfl (nI_1 ii) (by decide) rfl ?_
      refine a_goto 5 dX3_turned_47 (by decide) ?_
      exact ih (ii + 1) (by omega)
  exact key n 0 (by omega)
/-- the elements i and j changed for one another -/
def f_swap (x : Int64) (i j : Nat) : Int64 := x &&& ((x &&& f_hold j &&& (f_hold i ^^^ (-1))) ^^^ (-1)) &&& ((x &&& f_hold i &&& (f_hold j ^^^ (-1))) ^^^ (-1)) ||| f_sr (x &&& f_hold j &&& (f_hold i ^^^ (-1))) (f_pw j - f_pw i) ||| f_sl (x &&& f_hold i &&& (f_hold j ^^^ (-1))) (f_pw j - f_pw i)
def f_mirror (x : Int64) (n : Nat) : Nat → Int64
  | 0 => x
  | i + 1 => f_swap (f_mirror x n i) i (n - 1 - i)
theorem r_X3_mirrored (hC : h[a]? = some (c_O 3 [.ref (g_ad G ka), .int (nI n)])) (hn : n ≤ 6) : g_Run G mX3_mirrored 2 0 0 [.ref (g_ad G a), .long x] h (some (.long (f_mirror x n (n / 2)))) h := by
  have hdv : nI n / 2 = nI (n / 2) := pk_div (d := 2) (by omega) (by decide) (by decide)
  have hlast : ∀ ii : Nat, ii < n / 2 → nI n - 1 - nI ii = nI (n - 1 - ii) := fun ii hh => by
    rw [show (1 : Int32) = nI 1 from rfl, pk_sub (by omega), pk_sub (by omega)]
  refine g_Run.of (lv := [(0, .ref (g_ad G a)), (1, .long x)]) (by decide) (Nat.le_of_ble_eq_true rfl) rfl ?_
  refine a_lload_n 1 1 rfl dX3_mirrored_0 rfl rfl ?_
  refine a_lstore_n (lv' := [(3, .long x), (0, .ref (g_ad G a)), (1, .long x)]) 2 rfl dX3_mirrored_1 rfl (by decide) rfl ?_
  refine a_iconst (x := 0) 3 rfl dX3_mirrored_2 (by decide) ?_
  refine a_istore (lv' := [(5, .int 0), (3, .long x), (0, .ref (g_ad G a)), (1, .long x)]) 5 rfl dX3_mirrored_3 (by decide) rfl ?_
  have key : ∀ jj ii : Nat, ii + jj = n / 2 → g_A G mX3_mirrored 2 0 0 5 [(5, .int (nI ii)), (3, .long (f_mirror x n ii)), (0, .ref (g_ad G a)), (1, .long x)] [] h (some (.long (f_mirror x n (n / 2)))) h := by
    intro jj
    induction jj with
    | zero =>
      intro ii hii
      refine a_iload 0 7 rfl dX3_mirrored_5 rfl ?_
      refine a_aload_n 2 8 rfl dX3_mirrored_7 rfl rfl ?_
      refine a_get 1 cl_3 f_RX3_9_3 (by decide) (hC) rfl 11 rfl dX3_mirrored_8 ?_
      refine a_iconst (x := 2) 12 rfl dX3_mirrored_11 (by decide) ?_
      refine a_idiv 13 rfl dX3_mirrored_12 (by decide) ?_
      refine a_icmp_ge 110 16 rfl dX3_mirrored_13 (by decide) (fun _ => ?_) (fun hc => absurd ((by rw [hdv]; exact nI_le (by omega) (by omega))) hc)
      refine a_lload_n 1 111 rfl dX3_mirrored_110 rfl rfl ?_
      exact a_lreturn rfl ((by rw [show ii = n / 2 by omega])) (rfl) dX3_mirrored_111
    | succ jj ih =>
      intro ii hii
      refine a_iload 0 7 rfl dX3_mirrored_5 rfl ?_
      refine a_aload_n 2 8 rfl dX3_mirrored_7 rfl rfl ?_
      refine a_get 1 cl_3 f_RX3_9_3 (by decide) (hC) rfl 11 rfl dX3_mirrored_8 ?_
      refine a_iconst (x := 2) 12 rfl dX3_mirrored_11 (by decide) ?_
      refine a_idiv 13 rfl dX3_mirrored_12 (by decide) ?_
      refine a_icmp_ge 110 16 rfl dX3_mirrored_13 (by decide) (fun hc => absurd hc ((by rw [hdv]; exact nI_ge (by omega) (by omega)))) (fun _ => ?_)
      refine a_aload_n 2 17 rfl dX3_mirrored_16 rfl rfl ?_
      refine a_get 1 cl_3 f_RX3_9_3 (by decide) (hC) rfl 20 rfl dX3_mirrored_17 ?_
      refine a_iconst (x := 1) 21 rfl dX3_mirrored_20 (by decide) ?_
      refine a_isub 22 rfl dX3_mirrored_21 ?_
      refine a_iload 0 24 rfl dX3_mirrored_22 rfl ?_
      refine a_isub 25 rfl dX3_mirrored_24 ?_
      refine a_eq (st2 := [.int (nI (n - 1 - ii))]) rfl rfl (by rw [hlast ii (by omega)]) rfl ?_
      refine a_istore (lv' := [(6, .int (nI (n - 1 - ii))), (5, .int (nI ii)), (3, .long (f_mirror x n ii)), (0, .ref (g_ad G a)), (1, .long x)]) 27 rfl dX3_mirrored_25 (by decide) rfl ?_
      refine a_iconst (x := 1) 28 rfl dX3_mirrored_27 (by decide) ?_
      refine a_iload 0 30 rfl dX3_mirrored_28 rfl ?_
      refine a_ishl 31 rfl dX3_mirrored_30 ?_
      refine a_iconst (x := 1) 32 rfl dX3_mirrored_31 (by decide) ?_
      refine a_iload 1 34 rfl dX3_mirrored_32 rfl ?_
      refine a_ishl 35 rfl dX3_mirrored_34 ?_
      refine a_isub 36 rfl dX3_mirrored_35 ?_
      refine a_istore (lv' := [(7, .int (((1 : Int32) <<< ((nI (n - 1 - ii)) &&& 31)) - ((1 : Int32) <<< ((nI ii) &&& 31)))), (6, .int (nI (n - 1 - ii))), (5, .int (nI ii)), (3, .long (f_mirror x n ii)), (0, .ref (g_ad G a)), (1, .long x)]) 38 rfl dX3_mirrored_36 (by decide) rfl ?_
      refine a_lload_n 3 39 rfl dX3_mirrored_38 rfl rfl ?_
      refine a_iload 1 41 rfl dX3_mirrored_39 rfl ?_
      refine a_callS (as := [.int (nI (n - 1 - ii))]) (rest := [.long (f_mirror x n ii)]) (st2 := [.long (f_hold (n - 1 - ii)), .long (f_mirror x n ii)]) (u1 := 0) (v1 := 0) (u2 := 0) (v2 := 0) (r_X3_holding (i := n - 1 - ii) (by omega)) oX3_holding q_480 q_481 rfl (by decide) (by decide) rfl (Nat.le_of_ble_eq_true rfl) 44 rfl dX3_mirrored_41 rfl ?_
      refine a_land 45 rfl dX3_mirrored_44 ?_
      refine a_iload 2 47 rfl dX3_mirrored_45 rfl ?_
      refine a_callS (as := [.int (nI ii)]) (rest := [.long ((f_mirror x n ii) &&& (f_hold (n - 1 - ii)))]) (st2 := [.long (f_hold ii), .long ((f_mirror x n ii) &&& (f_hold (n - 1 - ii)))]) (u1 := 0) (v1 := 0) (u2 := 0) (v2 := 0) (r_X3_holding (i := ii) (by omega)) oX3_holding q_480 q_481 rfl (by decide) (by decide) rfl (Nat.le_of_ble_eq_true rfl) 50 rfl dX3_mirrored_47 rfl ?_
      refine a_ldc2 q_475 53 rfl dX3_mirrored_50 ?_
      refine a_lxor 54 rfl dX3_mirrored_53 ?_
      refine a_land 55 rfl dX3_mirrored_54 ?_
      refine a_lstore (lv' := [(8, .long (((f_mirror x n ii) &&& (f_hold (n - 1 - ii))) &&& ((f_hold ii) ^^^ (-1)))), (7, .int (((1 : Int32) <<< ((nI (n - 1 - ii)) &&& 31)) - ((1 : Int32) <<< ((nI ii) &&& 31)))), (6, .int (nI (n - 1 - ii))), (5, .int (nI ii)), (3, .long (f_mirror x n ii)), (0, .ref (g_ad G a)), (1, .long x)]) 57 rfl dX3_mirrored_55 (by decide) rfl ?_
      refine a_lload_n 4 58 rfl dX3_mirrored_57 rfl rfl ?_
      refine a_iload 3 60 rfl dX3_mirrored_58 rfl ?_
      refine a_callS (as := [.int (nI ii)]) (rest := [.long (f_mirror x n ii)]) (st2 := [.long (f_hold ii), .long (f_mirror x n ii)]) (u1 := 0) (v1 := 0) (u2 := 0) (v2 := 0) (r_X3_holding (i := ii) (by omega)) oX3_holding q_480 q_481 rfl (by decide) (by decide) rfl (Nat.le_of_ble_eq_true rfl) 63 rfl dX3_mirrored_60 rfl ?_
      refine a_land 64 rfl dX3_mirrored_63 ?_
      refine a_iload 2 66 rfl dX3_mirrored_64 rfl ?_
      refine a_callS (as := [.int (nI (n - 1 - ii))]) (rest := [.long ((f_mirror x n ii) &&& (f_hold ii))]) (st2 := [.long (f_hold (n - 1 - ii)), .long ((f_mirror x n ii) &&& (f_hold ii))]) (u1 := 0) (v1 := 0) (u2 := 0) (v2 := 0) (r_X3_holding (i := n - 1 - ii) (by omega)) oX3_holding q_480 q_481 rfl (by decide) (by decide) rfl (Nat.le_of_ble_eq_true rfl) 69 rfl dX3_mirrored_66 rfl ?_
      refine a_ldc2 q_475 72 rfl dX3_mirrored_69 ?_
      refine a_lxor 73 rfl dX3_mirrored_72 ?_
      refine a_land 74 rfl dX3_mirrored_73 ?_
      refine a_lstore (lv' := [(10, .long (((f_mirror x n ii) &&& (f_hold ii)) &&& ((f_hold (n - 1 - ii)) ^^^ (-1)))), (8, .long (((f_mirror x n ii) &&& (f_hold (n - 1 - ii))) &&& ((f_hold ii) ^^^ (-1)))), (7, .int (((1 : Int32) <<< ((nI (n - 1 - ii)) &&& 31)) - ((1 : Int32) <<< ((nI ii) &&& 31)))), (6, .int (nI (n - 1 - ii))), (5, .int (nI ii)), (3, .long (f_mirror x n ii)), (0, .ref (g_ad G a)), (1, .long x)]) 76 rfl dX3_mirrored_74 (by decide) rfl ?_
      refine a_lload_n 5 77 rfl dX3_mirrored_76 rfl rfl ?_
      refine a_lload 1 79 rfl dX3_mirrored_77 rfl ?_
      refine a_ldc2 q_475 82 rfl dX3_mirrored_79 ?_
      refine a_lxor 83 rfl dX3_mirrored_82 ?_
      refine a_land 84 rfl dX3_mirrored_83 ?_
      refine a_lload 0 86 rfl dX3_mirrored_84 rfl ?_
      refine a_ldc2 q_475 89 rfl dX3_mirrored_86 ?_
      refine a_lxor 90 rfl dX3_mirrored_89 ?_
      refine a_land 91 rfl dX3_mirrored_90 ?_
      refine a_lload 1 93 rfl dX3_mirrored_91 rfl ?_
      refine a_iload 2 95 rfl dX3_mirrored_93 rfl ?_
      refine a_lushr 96 rfl dX3_mirrored_95 ?_
      refine a_lor 97 rfl dX3_mirrored_96 ?_
      refine a_lload 0 99 rfl dX3_mirrored_97 rfl ?_
      refine a_iload 2 101 rfl dX3_mirrored_99 rfl ?_
      refine a_lshl 102 rfl dX3_mirrored_101 ?_
      refine a_lor 103 rfl dX3_mirrored_102 ?_
      refine a_lstore_n (lv' := [(3, .long (((((f_mirror x n ii) &&& ((((f_mirror x n ii) &&& (f_hold (n - 1 - ii))) &&& ((f_hold ii) ^^^ (-1))) ^^^ (-1))) &&& ((((f_mirror x n ii) &&& (f_hold ii)) &&& ((f_hold (n - 1 - ii)) ^^^ (-1))) ^^^ (-1))) ||| (f_sr (((f_mirror x n ii) &&& (f_hold (n - 1 - ii))) &&& ((f_hold ii) ^^^ (-1))) (((1 : Int32) <<< ((nI (n - 1 - ii)) &&& 31)) - ((1 : Int32) <<< ((nI ii) &&& 31))))) ||| (f_sl (((f_mirror x n ii) &&& (f_hold ii)) &&& ((f_hold (n - 1 - ii)) ^^^ (-1))) (((1 : Int32) <<< ((nI (n - 1 - ii)) &&& 31)) - ((1 : Int32) <<< ((nI ii) &&& 31)))))), (10, .long (((f_mirror x n ii) &&& (f_hold ii)) &&& ((f_hold (n - 1 - ii)) ^^^ (-1)))), (8, .long (((f_mirror x n ii) &&& (f_hold (n - 1 - ii))) &&& ((f_hold ii) ^^^ (-1)))), (7, .int (((1 : Int32) <<< ((nI (n - 1 - ii)) &&& 31)) - ((1 : Int32) <<< ((nI ii) &&& 31)))), (6, .int (nI (n - 1 - ii))), (5, .int (nI ii)), (0, .ref (g_ad G a)), (1, .long x)]) 104 rfl dX3_mirrored_103 rfl (by decide) rfl ?_
      refine a_iinc (y := nI (ii + 1)) (lv' := [(5, .int (nI (ii + 1))), (3, .long (((((f_mirror x n ii) &&& ((((f_mirror x n ii) &&& (f_hold (n - 1 - ii))) &&& ((f_hold ii) ^^^ (-1))) ^^^ (-1))) &&& ((((f_mirror x n ii) &&& (f_hold ii)) &&& ((f_hold (n - 1 - ii)) ^^^ (-1))) ^^^ (-1))) ||| (f_sr (((f_mirror x n ii) &&& (f_hold (n - 1 - ii))) &&& ((f_hold ii) ^^^ (-1))) (((1 : Int32) <<< ((nI (n - 1 - ii)) &&& 31)) - ((1 : Int32) <<< ((nI ii) &&& 31))))) ||| (f_sl (((f_mirror x n ii) &&& (f_hold ii)) &&& ((f_hold (n - 1 - ii)) ^^^ (-1))) (((1 : Int32) <<< ((nI (n - 1 - ii)) &&& 31)) - ((1 : Int32) <<< ((nI ii) &&& 31)))))), (10, .long (((f_mirror x n ii) &&& (f_hold ii)) &&& ((f_hold (n - 1 - ii)) ^^^ (-1)))), (8, .long (((f_mirror x n ii) &&& (f_hold (n - 1 - ii))) &&& ((f_hold ii) ^^^ (-1)))), (7, .int (((1 : Int32) <<< ((nI (n - 1 - ii)) &&& 31)) - ((1 : Int32) <<< ((nI ii) &&& 31)))), (6, .int (nI (n - 1 - ii))), (0, .ref (g_ad G a)), (1, .long x)]) 5 107 rfl dX3_mirrored_104 rfl (nI_1 ii) (by decide) rfl ?_
      refine a_goto 5 dX3_mirrored_107 (by decide) ?_
      refine a_sub (lv' := [(5, .int (nI (ii + 1))), (3, .long (f_mirror x n (ii + 1))), (0, .ref (g_ad G a)), (1, .long x)]) [0, 1, 6, 7] rfl ?_
      exact ih (ii + 1) (by omega)
  exact key (n / 2) 0 (by omega)
def f_ofSize (y : Int32) : Nat → Int64
  | 0 => 0
  | s + 1 => if f_bcI (nI s) = y then f_ofSize y s ||| f_sl 1 (nI s) else f_ofSize y s
theorem r_X3_ofSize : g_Run G mX3_ofSize 2 0 0 [.ref (g_ad G a), .int y] h (some (.long (f_ofSize y 64))) h := by
  refine g_Run.of (lv := [(0, .ref (g_ad G a)), (1, .int y)]) (by decide) (Nat.le_of_ble_eq_true rfl) rfl ?_
  refine a_lconst (x := 0) 1 rfl dX3_ofSize_0 (by decide) ?_
  refine a_lstore_n (lv' := [(2, .long 0), (0, .ref (g_ad G a)), (1, .int y)]) 2 rfl dX3_ofSize_1 rfl (by decide) rfl ?_
  refine a_iconst (x := 0) 3 rfl dX3_ofSize_2 (by decide) ?_
  refine a_istore (lv' := [(4, .int 0), (2, .long 0), (0, .ref (g_ad G a)), (1, .int y)]) 5 rfl dX3_ofSize_3 (by decide) rfl ?_
  have key : ∀ jj ii : Nat, ii + jj = 64 → g_A G mX3_ofSize 2 0 0 5 [(4, .int (nI ii)), (2, .long (f_ofSize y ii)), (0, .ref (g_ad G a)), (1, .int y)] [] h (some (.long (f_ofSize y 64))) h := by
    intro jj
    induction jj with
    | zero =>
      intro ii hii
      refine a_iload 0 7 rfl dX3_ofSize_5 rfl ?_
      refine a_bipush (x := 64) 9 rfl dX3_ofSize_7 (by decide) ?_
      refine a_icmp_ge 34 12 rfl dX3_ofSize_9 (by decide) (fun _ => ?_) (fun hc => absurd ((nI_le (a := 64) (by omega) (by omega))) hc)
      refine a_lload_n 1 35 rfl dX3_ofSize_34 rfl rfl ?_
      exact a_lreturn rfl ((by rw [show ii = 64 by omega])) (rfl) dX3_ofSize_35
    | succ jj ih =>
      intro ii hii
      refine a_iload 0 7 rfl dX3_ofSize_5 rfl ?_
      refine a_bipush (x := 64) 9 rfl dX3_ofSize_7 (by decide) ?_
      refine a_icmp_ge 34 12 rfl dX3_ofSize_9 (by decide) (fun hc => absurd hc (nI_ge (b := 64) (by omega) (by omega))) (fun _ => ?_)
      refine a_iload 0 14 rfl dX3_ofSize_12 rfl ?_
      refine a_callS (as := [.int (nI ii)]) (rest := []) (st2 := [.int (f_bcI (nI ii))]) (u1 := 0) (v1 := 0) (u2 := 0) (v2 := 0) (r_bitCountI) oJ6_bitCount_0f7a4 q_489 q_490 rfl (by decide) (by decide) rfl (Nat.le_of_ble_eq_true rfl) 17 rfl dX3_ofSize_14 rfl ?_
      refine a_iload_n 3 18 rfl dX3_ofSize_17 rfl rfl ?_
      by_cases hs8 : f_bcI (nI ii) = y
      · have e8 : f_ofSize y (ii + 1) = f_ofSize y ii ||| f_sl 1 (nI ii) := if_pos hs8
        refine a_icmp_ne 28 21 rfl dX3_ofSize_18 (by decide) (fun hc => absurd (hs8) hc) (fun _ => ?_)
        refine a_lload_n 1 22 rfl dX3_ofSize_21 rfl rfl ?_
        refine a_lconst (x := 1) 23 rfl dX3_ofSize_22 (by decide) ?_
        refine a_iload 0 25 rfl dX3_ofSize_23 rfl ?_
        refine a_lshl 26 rfl dX3_ofSize_25 ?_
        refine a_lor 27 rfl dX3_ofSize_26 ?_
        refine a_lstore_n (lv' := [(2, .long ((f_ofSize y ii) ||| (f_sl (1 : Int64) (nI ii)))), (4, .int (nI ii)), (0, .ref (g_ad G a)), (1, .int y)]) 28 rfl dX3_ofSize_27 rfl (by decide) rfl ?_
        refine a_iinc (y := nI (ii + 1)) (lv' := [(4, .int (nI (ii + 1))), (2, .long ((f_ofSize y ii) ||| (f_sl (1 : Int64) (nI ii)))), (0, .ref (g_ad G a)), (1, .int y)]) 1 31 rfl dX3_ofSize_28 rfl (nI_1 ii) (by decide) rfl ?_
        refine a_goto 5 dX3_ofSize_31 (by decide) ?_
        rw [← e8]
        refine a_sub (lv' := [(4, .int (nI (ii + 1))), (2, .long (f_ofSize y (ii + 1))), (0, .ref (g_ad G a)), (1, .int y)]) [0, 1, 2, 3] rfl ?_
        exact ih (ii + 1) (by omega)
      · have e8 : f_ofSize y (ii + 1) = f_ofSize y ii := if_neg hs8
        refine a_icmp_ne 28 21 rfl dX3_ofSize_18 (by decide) (fun _ => ?_) (fun hc => absurd hc (hs8))
        refine a_iinc (y := nI (ii + 1)) (lv' := [(4, .int (nI (ii + 1))), (2, .long (f_ofSize y ii)), (0, .ref (g_ad G a)), (1, .int y)]) 0 31 rfl dX3_ofSize_28 rfl (nI_1 ii) (by decide) rfl ?_
        refine a_goto 5 dX3_ofSize_31 (by decide) ?_
        rw [← e8]
        exact ih (ii + 1) (by omega)
  exact key 64 0 (by omega)
theorem r_X3_manyOfSize (hC : h[a]? = some (c_O 3 [.ref (g_ad G ka), .int (nI n)])) : g_Run G mX3_manyOfSize 3 0 0 [.ref (g_ad G a), .long x, .int y] h (some (.int (f_bcL (x &&& f_ofSize y 64)))) h := by
  refine g_Run.of (lv := [(0, .ref (g_ad G a)), (1, .long x), (3, .int y)]) (by decide) (Nat.le_of_ble_eq_true rfl) rfl ?_
  refine a_lload_n 1 1 rfl dX3_manyOfSize_0 rfl rfl ?_
  refine a_aload_n 0 2 rfl dX3_manyOfSize_1 rfl rfl ?_
  refine a_iload_n 2 3 rfl dX3_manyOfSize_2 rfl rfl ?_
  refine a_callV (as := [.int y]) (rest := [.long x]) (st2 := [.long (f_ofSize y 64), .long x]) (u1 := 0) (v1 := 0) (u2 := 0) (v2 := 0) (r_X3_ofSize) (⟨_, _, _, _, hC, rfl⟩) oX3_ofSize q_485 q_487 q_15 rfl (by decide) (by decide) rfl (Nat.le_of_ble_eq_true rfl) 6 rfl dX3_manyOfSize_3 rfl ?_
  refine a_land 7 rfl dX3_manyOfSize_6 ?_
  refine a_callS (as := [.long (x &&& (f_ofSize y 64))]) (rest := []) (st2 := [.int (f_bcL (x &&& f_ofSize y 64))]) (u1 := 0) (v1 := 0) (u2 := 0) (v2 := 0) (r_bitCountL) oJ13_bitCount_95d88 q_531 q_522 rfl (by decide) (by decide) rfl (Nat.le_of_ble_eq_true rfl) 10 rfl dX3_manyOfSize_7 rfl ?_
  exact a_ireturn .int rfl rfl (rfl) (rfl) dX3_manyOfSize_10
def f_sizes (x : Int64) : Nat → Int32
  | 0 => 0
  | i + 1 => f_sizes x i + f_bcL (x &&& f_hold i)
theorem r_X3_sizesOf (hC : h[a]? = some (c_O 3 [.ref (g_ad G ka), .int (nI n)])) (hn : n ≤ 6) : g_Run G mX3_sizesOf 2 0 0 [.ref (g_ad G a), .long x] h (some (.int (f_sizes x n))) h := by
  refine g_Run.of (lv := [(0, .ref (g_ad G a)), (1, .long x)]) (by decide) (Nat.le_of_ble_eq_true rfl) rfl ?_
  refine a_iconst (x := 0) 1 rfl dX3_sizesOf_0 (by decide) ?_
  refine a_istore_n (lv' := [(3, .int 0), (0, .ref (g_ad G a)), (1, .long x)]) 2 rfl dX3_sizesOf_1 rfl (by decide) rfl ?_
  refine a_iconst (x := 0) 3 rfl dX3_sizesOf_2 (by decide) ?_
  refine a_istore (lv' := [(4, .int 0), (3, .int 0), (0, .ref (g_ad G a)), (1, .long x)]) 5 rfl dX3_sizesOf_3 (by decide) rfl ?_
  have key : ∀ jj ii : Nat, ii + jj = n → g_A G mX3_sizesOf 2 0 0 5 [(4, .int (nI ii)), (3, .int (f_sizes x ii)), (0, .ref (g_ad G a)), (1, .long x)] [] h (some (.int (f_sizes x n))) h := by
    intro jj
    induction jj with
    | zero =>
      intro ii hii
      refine a_iload 0 7 rfl dX3_sizesOf_5 rfl ?_
      refine a_aload_n 2 8 rfl dX3_sizesOf_7 rfl rfl ?_
      refine a_get 1 cl_3 f_RX3_9_3 (by decide) (hC) rfl 11 rfl dX3_sizesOf_8 ?_
      refine a_icmp_ge 33 14 rfl dX3_sizesOf_11 (by decide) (fun _ => ?_) (fun hc => absurd (nI_le (by omega) (by omega)) hc)
      refine a_iload_n 1 34 rfl dX3_sizesOf_33 rfl rfl ?_
      exact a_ireturn .int rfl rfl ((by rw [show ii = n by omega])) (rfl) dX3_sizesOf_34
    | succ jj ih =>
      intro ii hii
      refine a_iload 0 7 rfl dX3_sizesOf_5 rfl ?_
      refine a_aload_n 2 8 rfl dX3_sizesOf_7 rfl rfl ?_
      refine a_get 1 cl_3 f_RX3_9_3 (by decide) (hC) rfl 11 rfl dX3_sizesOf_8 ?_
      refine a_icmp_ge 33 14 rfl dX3_sizesOf_11 (by decide) (fun hc => absurd hc (nI_ge (by omega) (by omega))) (fun _ => ?_)
      refine a_iload_n 1 15 rfl dX3_sizesOf_14 rfl rfl ?_
      refine a_lload_n 3 16 rfl dX3_sizesOf_15 rfl rfl ?_
      refine a_iload 0 18 rfl dX3_sizesOf_16 rfl ?_
      refine a_callS (as := [.int (nI ii)]) (rest := [.long x, .int (f_sizes x ii)]) (st2 := [.long (f_hold ii), .long x, .int (f_sizes x ii)]) (u1 := 0) (v1 := 0) (u2 := 0) (v2 := 0) (r_X3_holding (i := ii) (by omega)) oX3_holding q_480 q_481 rfl (by decide) (by decide) rfl (Nat.le_of_ble_eq_true rfl) 21 rfl dX3_sizesOf_18 rfl ?_
      refine a_land 22 rfl dX3_sizesOf_21 ?_
      refine a_callS (as := [.long (x &&& (f_hold ii))]) (rest := [.int (f_sizes x ii)]) (st2 := [.int (f_bcL (x &&& f_hold ii)), .int (f_sizes x ii)]) (u1 := 0) (v1 := 0) (u2 := 0) (v2 := 0) (r_bitCountL) oJ13_bitCount_95d88 q_531 q_522 rfl (by decide) (by decide) rfl (Nat.le_of_ble_eq_true rfl) 25 rfl dX3_sizesOf_22 rfl ?_
      refine a_iadd 26 rfl dX3_sizesOf_25 ?_
      refine a_istore_n (lv' := [(3, .int ((f_sizes x ii) + (f_bcL (x &&& f_hold ii)))), (4, .int (nI ii)), (0, .ref (g_ad G a)), (1, .long x)]) 27 rfl dX3_sizesOf_26 rfl (by decide) rfl ?_
      refine a_iinc (y := nI (ii + 1)) (lv' := [(4, .int (nI (ii + 1))), (3, .int ((f_sizes x ii) + (f_bcL (x &&& f_hold ii)))), (0, .ref (g_ad G a)), (1, .long x)]) 1 30 rfl dX3_sizesOf_27 rfl (nI_1 ii) (by decide) rfl ?_
      refine a_goto 5 dX3_sizesOf_30 (by decide) ?_
      exact ih (ii + 1) (by omega)
  exact key n 0 (by omega)
def f_pressed (x : Int64) (i j : Nat) : Int64 := x &&& (f_sl (f_sr (x &&& f_hold j &&& (f_hold i ^^^ (-1))) (f_pw j - f_pw i) &&& (x ^^^ (-1))) (f_pw j - f_pw i) ^^^ (-1)) ||| (f_sr (x &&& f_hold j &&& (f_hold i ^^^ (-1))) (f_pw j - f_pw i) &&& (x ^^^ (-1)))
theorem r_X3_pressedBy {i j : Nat} (hi : i < 6) (hj : j < 6) : g_Run G mX3_pressedBy 2 0 0 [.ref (g_ad G a), .long x, .int (nI i), .int (nI j)] h (some (.long (f_pressed x i j))) h := by
  refine g_Run.of (lv := [(0, .ref (g_ad G a)), (1, .long x), (3, .int (nI i)), (4, .int (nI j))]) (by decide) (Nat.le_of_ble_eq_true rfl) rfl ?_
  refine a_iconst (x := 1) 1 rfl dX3_pressedBy_0 (by decide) ?_
  refine a_iload 3 3 rfl dX3_pressedBy_1 rfl ?_
  refine a_ishl 4 rfl dX3_pressedBy_3 ?_
  refine a_iconst (x := 1) 5 rfl dX3_pressedBy_4 (by decide) ?_
  refine a_iload_n 2 6 rfl dX3_pressedBy_5 rfl rfl ?_
  refine a_ishl 7 rfl dX3_pressedBy_6 ?_
  refine a_isub 8 rfl dX3_pressedBy_7 ?_
  refine a_istore (lv' := [(5, .int (((1 : Int32) <<< ((nI j) &&& 31)) - ((1 : Int32) <<< ((nI i) &&& 31)))), (0, .ref (g_ad G a)), (1, .long x), (3, .int (nI i)), (4, .int (nI j))]) 10 rfl dX3_pressedBy_8 (by decide) rfl ?_
  refine a_lload_n 2 11 rfl dX3_pressedBy_10 rfl rfl ?_
  refine a_iload 4 13 rfl dX3_pressedBy_11 rfl ?_
  refine a_callS (as := [.int (nI j)]) (rest := [.long x]) (st2 := [.long (f_hold j), .long x]) (u1 := 0) (v1 := 0) (u2 := 0) (v2 := 0) (r_X3_holding (i := j) hj) oX3_holding q_480 q_481 rfl (by decide) (by decide) rfl (Nat.le_of_ble_eq_true rfl) 16 rfl dX3_pressedBy_13 rfl ?_
  refine a_land 17 rfl dX3_pressedBy_16 ?_
  refine a_iload_n 3 18 rfl dX3_pressedBy_17 rfl rfl ?_
  refine a_callS (as := [.int (nI i)]) (rest := [.long (x &&& (f_hold j))]) (st2 := [.long (f_hold i), .long (x &&& (f_hold j))]) (u1 := 0) (v1 := 0) (u2 := 0) (v2 := 0) (r_X3_holding (i := i) hi) oX3_holding q_480 q_481 rfl (by decide) (by decide) rfl (Nat.le_of_ble_eq_true rfl) 21 rfl dX3_pressedBy_18 rfl ?_
  refine a_ldc2 q_475 24 rfl dX3_pressedBy_21 ?_
  refine a_lxor 25 rfl dX3_pressedBy_24 ?_
  refine a_land 26 rfl dX3_pressedBy_25 ?_
  refine a_iload 0 28 rfl dX3_pressedBy_26 rfl ?_
  refine a_lushr 29 rfl dX3_pressedBy_28 ?_
  refine a_lload_n 2 30 rfl dX3_pressedBy_29 rfl rfl ?_
  refine a_ldc2 q_475 33 rfl dX3_pressedBy_30 ?_
  refine a_lxor 34 rfl dX3_pressedBy_33 ?_
  refine a_land 35 rfl dX3_pressedBy_34 ?_
  refine a_lstore (lv' := [(6, .long ((f_sr ((x &&& (f_hold j)) &&& ((f_hold i) ^^^ (-1))) (((1 : Int32) <<< ((nI j) &&& 31)) - ((1 : Int32) <<< ((nI i) &&& 31)))) &&& (x ^^^ (-1)))), (5, .int (((1 : Int32) <<< ((nI j) &&& 31)) - ((1 : Int32) <<< ((nI i) &&& 31)))), (0, .ref (g_ad G a)), (1, .long x), (3, .int (nI i)), (4, .int (nI j))]) 37 rfl dX3_pressedBy_35 (by decide) rfl ?_
  refine a_lload_n 3 38 rfl dX3_pressedBy_37 rfl rfl ?_
  refine a_lload 0 40 rfl dX3_pressedBy_38 rfl ?_
  refine a_iload 1 42 rfl dX3_pressedBy_40 rfl ?_
  refine a_lshl 43 rfl dX3_pressedBy_42 ?_
  refine a_ldc2 q_475 46 rfl dX3_pressedBy_43 ?_
  refine a_lxor 47 rfl dX3_pressedBy_46 ?_
  refine a_land 48 rfl dX3_pressedBy_47 ?_
  refine a_lload 0 50 rfl dX3_pressedBy_48 rfl ?_
  refine a_lor 51 rfl dX3_pressedBy_50 ?_
  exact a_lreturn rfl (rfl) (rfl) dX3_pressedBy_51
theorem r_X3_isAntichain (hC : h[a]? = some (c_O 3 [.ref (g_ad G ka), .int (nI n)])) (hn : n ≤ 6) : g_Run G mX3_isAntichain 3 0 0 [.ref (g_ad G a), .long x] h (some (.int (if f_parts (f_shadow x n) n &&& x = 0 then 1 else 0))) h := by
  refine g_Run.of (lv := [(0, .ref (g_ad G a)), (1, .long x)]) (by decide) (Nat.le_of_ble_eq_true rfl) rfl ?_
  refine a_aload_n 0 1 rfl dX3_isAntichain_0 rfl rfl ?_
  refine a_aload_n 0 2 rfl dX3_isAntichain_1 rfl rfl ?_
  refine a_lload_n 1 3 rfl dX3_isAntichain_2 rfl rfl ?_
  refine a_callV (as := [.long x]) (rest := [.ref (g_ad G a)]) (st2 := [.long (f_shadow x n), .ref (g_ad G a)]) (u1 := 0) (v1 := 0) (u2 := 0) (v2 := 0) (r_X3_shadowOf hC hn) (⟨_, _, _, _, hC, rfl⟩) oX3_shadowOf q_515 q_505 q_18 rfl (by decide) (by decide) rfl (Nat.le_of_ble_eq_true rfl) 6 rfl dX3_isAntichain_3 rfl ?_
  refine a_callV (as := [.long (f_shadow x n)]) (rest := []) (st2 := [.long (f_parts (f_shadow x n) n)]) (u1 := 0) (v1 := 0) (u2 := 0) (v2 := 0) (r_X3_withParts hC hn) (⟨_, _, _, _, hC, rfl⟩) oX3_withParts q_495 q_497 q_16 rfl (by decide) (by decide) rfl (Nat.le_of_ble_eq_true rfl) 9 rfl dX3_isAntichain_6 rfl ?_
  refine a_lload_n 1 10 rfl dX3_isAntichain_9 rfl rfl ?_
  refine a_land 11 rfl dX3_isAntichain_10 ?_
  refine a_lconst (x := 0) 12 rfl dX3_isAntichain_11 (by decide) ?_
  refine a_lcmp 13 rfl dX3_isAntichain_12 ?_
  refine a_if_ne 20 16 rfl dX3_isAntichain_13 (by decide) (fun c13 => ?_) (fun c13 => ?_)
  · skip
    refine a_iconst (x := 0) 21 rfl dX3_isAntichain_20 (by decide) ?_
    exact a_ireturn .boolean rfl rfl ((by rw [if_neg (g_cmp_ne.mp c13)])) (rfl) dX3_isAntichain_21
  · skip
    refine a_iconst (x := 1) 17 rfl dX3_isAntichain_16 (by decide) ?_
    refine a_goto 21 dX3_isAntichain_17 (by decide) ?_
    exact a_ireturn .boolean rfl rfl ((by rw [if_pos (g_cmp_eq.mp c13)])) (rfl) dX3_isAntichain_21
theorem r_X3_isIntersecting (hC : h[a]? = some (c_O 3 [.ref (g_ad G ka), .int (nI n)])) (hn : n ≤ 6) : g_Run G mX3_isIntersecting 3 0 0 [.ref (g_ad G a), .long x] h (some (.int (if f_parts (f_turned x n) n &&& x = 0 then 1 else 0))) h := by
  refine g_Run.of (lv := [(0, .ref (g_ad G a)), (1, .long x)]) (by decide) (Nat.le_of_ble_eq_true rfl) rfl ?_
  refine a_aload_n 0 1 rfl dX3_isIntersecting_0 rfl rfl ?_
  refine a_aload_n 0 2 rfl dX3_isIntersecting_1 rfl rfl ?_
  refine a_lload_n 1 3 rfl dX3_isIntersecting_2 rfl rfl ?_
  refine a_callV (as := [.long x]) (rest := [.ref (g_ad G a)]) (st2 := [.long (f_turned x n), .ref (g_ad G a)]) (u1 := 0) (v1 := 0) (u2 := 0) (v2 := 0) (r_X3_turned hC hn) (⟨_, _, _, _, hC, rfl⟩) oX3_turned q_476 q_478 q_14 rfl (by decide) (by decide) rfl (Nat.le_of_ble_eq_true rfl) 6 rfl dX3_isIntersecting_3 rfl ?_
  refine a_callV (as := [.long (f_turned x n)]) (rest := []) (st2 := [.long (f_parts (f_turned x n) n)]) (u1 := 0) (v1 := 0) (u2 := 0) (v2 := 0) (r_X3_withParts hC hn) (⟨_, _, _, _, hC, rfl⟩) oX3_withParts q_495 q_497 q_16 rfl (by decide) (by decide) rfl (Nat.le_of_ble_eq_true rfl) 9 rfl dX3_isIntersecting_6 rfl ?_
  refine a_lload_n 1 10 rfl dX3_isIntersecting_9 rfl rfl ?_
  refine a_land 11 rfl dX3_isIntersecting_10 ?_
  refine a_lconst (x := 0) 12 rfl dX3_isIntersecting_11 (by decide) ?_
  refine a_lcmp 13 rfl dX3_isIntersecting_12 ?_
  refine a_if_ne 20 16 rfl dX3_isIntersecting_13 (by decide) (fun c13 => ?_) (fun c13 => ?_)
  · skip
    refine a_iconst (x := 0) 21 rfl dX3_isIntersecting_20 (by decide) ?_
    exact a_ireturn .boolean rfl rfl ((by rw [if_neg (g_cmp_ne.mp c13)])) (rfl) dX3_isIntersecting_21
  · skip
    refine a_iconst (x := 1) 17 rfl dX3_isIntersecting_16 (by decide) ?_
    refine a_goto 21 dX3_isIntersecting_17 (by decide) ?_
    exact a_ireturn .boolean rfl rfl ((by rw [if_pos (g_cmp_eq.mp c13)])) (rfl) dX3_isIntersecting_21
end CU2
