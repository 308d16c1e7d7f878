/-! The model's cells as one record -/
/-- Naturals: 0 n, 1 families, 2 keptN, 3 keptFamilies, 4 changes, 5 again, 6 rowed, 7 wide, 8 high, 9 fed, 10 written, 11 at, 12 traced; ints: 0 isKept, 1 rounds, 2 fewest; longs: 0 firstFewest, 1 bounded, 2 readSets; int rows: 0 kind, 1 figure, 2 keptKind, 3 keptFigure, 4 change, 5 one, 6 row, 7 tape, 8 paper, 9 shelfSort, 10 shelfMany, 11 placeKind, 12 placeFigure, 13 movedKind, 14 movedFigure, 15 listSort, 16 listMany, 17 trace; long rows: 0 told, 1 keptTold, 2 touched, 3 placeTold, 4 movedTold, 5 list -/
abbrev f_M : Type := (Nat → Nat) × (Nat → Int32) × (Nat → Int64) × (Nat → Nat → Int32) × (Nat → Nat → Int64)
def f_mn (M : f_M) (i x : Nat) : f_M := (fun k => if k = i then x else M.1 k, M.2)
def f_mi (M : f_M) (i : Nat) (x : Int32) : f_M := (M.1, fun k => if k = i then x else M.2.1 k, M.2.2)
def f_ml (M : f_M) (i : Nat) (x : Int64) : f_M := (M.1, M.2.1, fun k => if k = i then x else M.2.2.1 k, M.2.2.2)
def f_mI (M : f_M) (i : Nat) (x : Nat → Int32) : f_M := (M.1, M.2.1, M.2.2.1, fun k => if k = i then x else M.2.2.2.1 k, M.2.2.2.2)
def f_mL (M : f_M) (i : Nat) (x : Nat → Int64) : f_M := (M.1, M.2.1, M.2.2.1, M.2.2.2.1, fun k => if k = i then x else M.2.2.2.2 k)
def g_hm (G : g_G) (M : f_M) : List va_E := [
  c_O 11 [.int (nI (M.1 0)), .int (nI (M.1 1)), .int (nI (M.1 2)), .int (nI (M.1 3)), .ref (g_ad G 39), .ref (g_ad G 40), .ref (g_ad G 41), .ref (g_ad G 42), .ref (g_ad G 43), .ref (g_ad G 44), .int (M.2.1 0), .ref (g_ad G 45), .int (nI (M.1 4)), .int (nI (M.1 5)), .int (M.2.1 1), .int (M.2.1 2), .long (M.2.2.1 0), .ref (g_ad G 46), .ref (g_ad G 47), .ref (g_ad G 48), .int (nI (M.1 6)), .long (M.2.2.1 1), .int (nI (M.1 7)), .int (nI (M.1 8)), .ref (g_ad G 49), .ref (g_ad G 50), .int (nI (M.1 9)), .int (nI (M.1 10)), .int (nI (M.1 11)), .long (M.2.2.1 2), .ref (g_ad G 51), .ref (g_ad G 52), .ref (g_ad G 53), .ref (g_ad G 54), .ref (g_ad G 55), .ref (g_ad G 56), .ref (g_ad G 57), .ref (g_ad G 58), .ref (g_ad G 59), .ref (g_ad G 60), .ref (g_ad G 61), .ref (g_ad G 62), .int (nI (M.1 12))],
  c_I G 8 (M.2.2.2.1 0),
  c_I G 8 (M.2.2.2.1 1),
  c_I G 8 (M.2.2.2.1 2),
  c_I G 8 (M.2.2.2.1 3),
  c_L G 8 (M.2.2.2.2 0),
  c_L G 8 (M.2.2.2.2 1),
  c_I G 48 (M.2.2.2.1 4),
  c_I G 16 (M.2.2.2.1 5),
  c_L G 16 (M.2.2.2.2 2),
  c_I G 12 (M.2.2.2.1 6),
  c_I G 80 (M.2.2.2.1 7),
  c_I G 500 (M.2.2.2.1 8),
  c_I G 3 (M.2.2.2.1 9),
  c_I G 3 (M.2.2.2.1 10),
  c_I G 18 (M.2.2.2.1 11),
  c_I G 18 (M.2.2.2.1 12),
  c_I G 6 (M.2.2.2.1 13),
  c_I G 6 (M.2.2.2.1 14),
  c_L G 18 (M.2.2.2.2 3),
  c_L G 6 (M.2.2.2.2 4),
  c_I G 3 (M.2.2.2.1 15),
  c_I G 3 (M.2.2.2.1 16),
  c_L G 60 (M.2.2.2.2 5),
  c_I G 24 (M.2.2.2.1 17)
  ]
section MO1
variable {G : g_G} {C : f_C} {M : f_M} {ob h : List va_E} {x a9 b9 : Int64} {y y2 y3 : Int32} {j : Nat}
theorem f_toL {a b : Int32} : a.toInt64 ≤ b.toInt64 ↔ a ≤ b := by
  rw [Int64.le_iff_toInt_le, Int32.le_iff_toInt_le, Int32.toInt_toInt64, Int32.toInt_toInt64]
theorem r_isIn : g_Run G mX12_isIn 1 0 0 [.long x, .long a9, .long b9] h (some (.int (if a9 ≤ x ∧ x ≤ b9 then 1 else 0))) h := by
  refine g_Run.of (lv := [(0, .long x), (2, .long a9), (4, .long b9)]) (by decide) (Nat.le_of_ble_eq_true rfl) rfl ?_
  refine a_lload_n 0 1 rfl dX12_isIn_0 rfl rfl ?_
  refine a_lload_n 1 2 rfl dX12_isIn_1 rfl rfl ?_
  refine a_lcmp 3 rfl dX12_isIn_2 ?_
  by_cases e1 : a9 ≤ x
  · skip
    refine a_if_lt 17 6 rfl dX12_isIn_3 (by decide) (fun hc => absurd hc ((fun z => absurd (g_cmp_lt.mp z) (Int64.not_lt.mpr e1)))) (fun _ => ?_)
    refine a_lload_n 0 7 rfl dX12_isIn_6 rfl rfl ?_
    refine a_lload 2 9 rfl dX12_isIn_7 rfl ?_
    refine a_lcmp 10 rfl dX12_isIn_9 ?_
    by_cases e2 : x ≤ b9
    · skip
      refine a_if_gt 17 13 rfl dX12_isIn_10 (by decide) (fun hc => absurd hc ((fun z => absurd (g_cmp_gt.mp z) (Int64.not_lt.mpr e2)))) (fun _ => ?_)
      refine a_iconst (x := 1) 14 rfl dX12_isIn_13 (by decide) ?_
      refine a_goto 18 dX12_isIn_14 (by decide) ?_
      exact a_ireturn .boolean rfl rfl ((by rw [if_pos ⟨e1, e2⟩])) (rfl) dX12_isIn_18
    · skip
      refine a_if_gt 17 13 rfl dX12_isIn_10 (by decide) (fun _ => ?_) (fun hc => absurd ((g_cmp_gt.mpr (Int64.not_le.mp e2))) hc)
      refine a_iconst (x := 0) 18 rfl dX12_isIn_17 (by decide) ?_
      exact a_ireturn .boolean rfl rfl ((by rw [if_neg (fun z => e2 z.2)])) (rfl) dX12_isIn_18
  · skip
    refine a_if_lt 17 6 rfl dX12_isIn_3 (by decide) (fun _ => ?_) (fun hc => absurd ((g_cmp_lt.mpr (Int64.not_le.mp e1))) hc)
    refine a_iconst (x := 0) 18 rfl dX12_isIn_17 (by decide) ?_
    exact a_ireturn .boolean rfl rfl ((by rw [if_neg (fun z => e1 z.1)])) (rfl) dX12_isIn_18
theorem r_isInI {a b : Int32} (ha : a9 = a.toInt64) (hb : b9 = b.toInt64) : g_Run G mX12_isIn 1 0 0 [.long y.toInt64, .long a9, .long b9] h (some (.int (if a ≤ y ∧ y ≤ b then 1 else 0))) h := by
  have w := r_isIn (G := G) (x := y.toInt64) (a9 := a9) (b9 := b9) (h := h)
  rw [ha, hb] at w ⊢
  simp only [f_toL] at w
  exact w
theorem r_has : g_Run G mX12_has 1 0 0 [.long x, .int y] h (some (.int (if f_sr x y &&& 1 = 1 then 1 else 0))) h := by
  refine g_Run.of (lv := [(0, .long x), (2, .int y)]) (by decide) (Nat.le_of_ble_eq_true rfl) rfl ?_
  refine a_lload_n 0 1 rfl dX12_has_0 rfl rfl ?_
  refine a_iload_n 1 2 rfl dX12_has_1 rfl rfl ?_
  refine a_lushr 3 rfl dX12_has_2 ?_
  refine a_lconst (x := 1) 4 rfl dX12_has_3 (by decide) ?_
  refine a_land 5 rfl dX12_has_4 ?_
  refine a_lconst (x := 1) 6 rfl dX12_has_5 (by decide) ?_
  refine a_lcmp 7 rfl dX12_has_6 ?_
  by_cases e1 : f_sr x y &&& 1 = 1
  · skip
    refine a_if_ne 14 10 rfl dX12_has_7 (by decide) (fun hc => absurd ((g_cmp_eq.mpr e1)) hc) (fun _ => ?_)
    refine a_iconst (x := 1) 11 rfl dX12_has_10 (by decide) ?_
    refine a_goto 15 dX12_has_11 (by decide) ?_
    exact a_ireturn .boolean rfl rfl ((by rw [if_pos e1])) (rfl) dX12_has_15
  · skip
    refine a_if_ne 14 10 rfl dX12_has_7 (by decide) (fun _ => ?_) (fun hc => absurd hc ((g_cmp_ne.mpr e1)))
    refine a_iconst (x := 0) 15 rfl dX12_has_14 (by decide) ?_
    exact a_ireturn .boolean rfl rfl ((by rw [if_neg e1])) (rfl) dX12_has_15
theorem r_bits {p : Nat} (hp : p ≤ 64) : g_Run G mX12_bits 1 0 0 [.int (nI p)] h (some (.long (f_all p))) h := by
  refine g_Run.of (lv := [(0, .int (nI p))]) (by decide) (Nat.le_of_ble_eq_true rfl) rfl ?_
  refine a_iload_n 0 1 rfl dX12_bits_0 rfl rfl ?_
  refine a_bipush (x := 64) 3 rfl dX12_bits_1 (by decide) ?_
  by_cases e1 : p = 64
  · skip
    refine a_icmp_ne 12 6 rfl dX12_bits_3 (by decide) (fun hc => absurd ((by rw [e1]; rfl)) hc) (fun _ => ?_)
    refine a_ldc2 q_1260 9 rfl dX12_bits_6 ?_
    refine a_goto 17 dX12_bits_9 (by decide) ?_
    exact a_lreturn rfl ((by rw [f_all, if_pos (by omega)])) (rfl) dX12_bits_17
  · skip
    refine a_icmp_ne 12 6 rfl dX12_bits_3 (by decide) (fun _ => ?_) (fun hc => absurd hc ((fun z => e1 (nI_inj9 (b := 64) (by omega) (by omega) z))))
    refine a_lconst (x := 1) 13 rfl dX12_bits_12 (by decide) ?_
    refine a_iload_n 0 14 rfl dX12_bits_13 rfl rfl ?_
    refine a_lshl 15 rfl dX12_bits_14 ?_
    refine a_lconst (x := 1) 16 rfl dX12_bits_15 (by decide) ?_
    refine a_lsub 17 rfl dX12_bits_16 ?_
    exact a_lreturn rfl ((by rw [f_all, if_neg (by omega)]; rfl)) (rfl) dX12_bits_17
theorem r_leaves : g_Run G mX12_leaves 1 0 0 [.ref (g_ad G 38)] (g_hp G C (g_hm G M ++ ob)) none (g_hp G C (g_hm G (f_mn (f_mn M 4 0) 5 0) ++ ob)) := by
  refine g_Run.of (lv := [(0, .ref (g_ad G 38))]) (by decide) (Nat.le_of_ble_eq_true rfl) rfl ?_
  refine a_aload_n 0 1 rfl dX12_leaves_0 rfl rfl ?_
  refine a_iconst (x := 0) 2 rfl dX12_leaves_1 (by decide) ?_
  refine a_put (fs' := [.int (nI (M.1 0)), .int (nI (M.1 1)), .int (nI (M.1 2)), .int (nI (M.1 3)), .ref (g_ad G 39), .ref (g_ad G 40), .ref (g_ad G 41), .ref (g_ad G 42), .ref (g_ad G 43), .ref (g_ad G 44), .int (M.2.1 0), .ref (g_ad G 45), .int 0, .int (nI (M.1 5)), .int (M.2.1 1), .int (M.2.1 2), .long (M.2.2.1 0), .ref (g_ad G 46), .ref (g_ad G 47), .ref (g_ad G 48), .int (nI (M.1 6)), .long (M.2.2.1 1), .int (nI (M.1 7)), .int (nI (M.1 8)), .ref (g_ad G 49), .ref (g_ad G 50), .int (nI (M.1 9)), .int (nI (M.1 10)), .int (nI (M.1 11)), .long (M.2.2.1 2), .ref (g_ad G 51), .ref (g_ad G 52), .ref (g_ad G 53), .ref (g_ad G 54), .ref (g_ad G 55), .ref (g_ad G 56), .ref (g_ad G 57), .ref (g_ad G 58), .ref (g_ad G 59), .ref (g_ad G 60), .ref (g_ad G 61), .ref (g_ad G 62), .int (nI (M.1 12))]) 12 cl_11 f_RX12_104_11 (by decide) (rfl) rfl rfl rfl (Nat.le_of_ble_eq_true rfl) rfl 5 rfl dX12_leaves_2 ?_
  refine a_eq (h2 := g_hp G C (g_hm G (f_mn M 4 0) ++ ob)) rfl rfl rfl (rfl) ?_
  refine a_aload_n 0 6 rfl dX12_leaves_5 rfl rfl ?_
  refine a_iconst (x := 0) 7 rfl dX12_leaves_6 (by decide) ?_
  refine a_put (fs' := [.int (nI (M.1 0)), .int (nI (M.1 1)), .int (nI (M.1 2)), .int (nI (M.1 3)), .ref (g_ad G 39), .ref (g_ad G 40), .ref (g_ad G 41), .ref (g_ad G 42), .ref (g_ad G 43), .ref (g_ad G 44), .int (M.2.1 0), .ref (g_ad G 45), .int (nI 0), .int 0, .int (M.2.1 1), .int (M.2.1 2), .long (M.2.2.1 0), .ref (g_ad G 46), .ref (g_ad G 47), .ref (g_ad G 48), .int (nI (M.1 6)), .long (M.2.2.1 1), .int (nI (M.1 7)), .int (nI (M.1 8)), .ref (g_ad G 49), .ref (g_ad G 50), .int (nI (M.1 9)), .int (nI (M.1 10)), .int (nI (M.1 11)), .long (M.2.2.1 2), .ref (g_ad G 51), .ref (g_ad G 52), .ref (g_ad G 53), .ref (g_ad G 54), .ref (g_ad G 55), .ref (g_ad G 56), .ref (g_ad G 57), .ref (g_ad G 58), .ref (g_ad G 59), .ref (g_ad G 60), .ref (g_ad G 61), .ref (g_ad G 62), .int (nI (M.1 12))]) 13 cl_11 f_RX12_107_11 (by decide) (rfl) rfl rfl rfl (Nat.le_of_ble_eq_true rfl) rfl 10 rfl dX12_leaves_7 ?_
  refine a_eq (h2 := g_hp G C (g_hm G (f_mn (f_mn M 4 0) 5 0) ++ ob)) rfl rfl rfl (rfl) ?_
  exact a_return rfl (rfl) (rfl) dX12_leaves_10
theorem f_isF {y : Int32} {m : Nat} (hm : m ≤ 100000) : (0 ≤ y ∧ y ≤ nI m - 1) ↔ vp_in y m := by
  rw [vp_in_iff, Int32.le_iff_toInt_le, Int32.le_iff_toInt_le, show (1 : Int32) = nI 1 from rfl, pk_sub_toInt (by omega) (by omega)]
  show ((0 : Int) ≤ _ ∧ _) ↔ _
  omega
theorem r_isFam_in (hm : M.1 1 ≤ 8) (hj : j < M.1 1) : g_Run G mX12_isFamily 2 0 0 [.ref (g_ad G 38), .int (nI j)] (g_hp G C (g_hm G M ++ ob)) (some (.int 1)) (g_hp G C (g_hm G M ++ ob)) := by
  have w := r_isInI (G := G) (y := nI j) (a := 0) (b := nI (M.1 1) - 1) (h := g_hp G C (g_hm G M ++ ob)) (a9 := 0) rfl rfl
  rw [if_pos ((f_isF (by omega)).mpr (vp_in_nI hj (by omega)))] at w
  refine g_Run.of (lv := [(0, .ref (g_ad G 38)), (1, .int (nI j))]) (by decide) (Nat.le_of_ble_eq_true rfl) rfl ?_
  refine a_iload_n 1 1 rfl dX12_isFamily_0 rfl rfl ?_
  refine a_i2l 2 rfl dX12_isFamily_1 ?_
  refine a_lconst (x := 0) 3 rfl dX12_isFamily_2 (by decide) ?_
  refine a_aload_n 0 4 rfl dX12_isFamily_3 rfl rfl ?_
  refine a_get 1 cl_11 f_RX12_97_11 (by decide) (rfl) rfl 7 rfl dX12_isFamily_4 ?_
  refine a_iconst (x := 1) 8 rfl dX12_isFamily_7 (by decide) ?_
  refine a_isub 9 rfl dX12_isFamily_8 ?_
  refine a_i2l 10 rfl dX12_isFamily_9 ?_
  refine a_callS (as := [.long ((nI j).toInt64), .long 0, .long (((nI (M.1 1)) - 1).toInt64)]) (rest := []) (st2 := [.int 1]) (u1 := 0) (v1 := 0) (u2 := 0) (v2 := 0) (w) oX12_isIn q_1242 q_1243 rfl (by omega) (by decide) rfl (Nat.le_of_ble_eq_true rfl) 13 rfl dX12_isFamily_10 rfl ?_
  exact a_ireturn .boolean rfl rfl (rfl) (rfl) dX12_isFamily_13

theorem r_isFam_out (hm : M.1 1 ≤ 8) (hi : ¬ vp_in y (M.1 1)) : g_Run G mX12_isFamily 2 0 0 [.ref (g_ad G 38), .int (y)] (g_hp G C (g_hm G M ++ ob)) (some (.int 0)) (g_hp G C (g_hm G M ++ ob)) := by
  have w := r_isInI (G := G) (y := y) (a := 0) (b := nI (M.1 1) - 1) (h := g_hp G C (g_hm G M ++ ob)) (a9 := 0) rfl rfl
  rw [if_neg (fun z => hi ((f_isF (by omega)).mp z))] at w
  refine g_Run.of (lv := [(0, .ref (g_ad G 38)), (1, .int y)]) (by decide) (Nat.le_of_ble_eq_true rfl) rfl ?_
  refine a_iload_n 1 1 rfl dX12_isFamily_0 rfl rfl ?_
  refine a_i2l 2 rfl dX12_isFamily_1 ?_
  refine a_lconst (x := 0) 3 rfl dX12_isFamily_2 (by decide) ?_
  refine a_aload_n 0 4 rfl dX12_isFamily_3 rfl rfl ?_
  refine a_get 1 cl_11 f_RX12_97_11 (by decide) (rfl) rfl 7 rfl dX12_isFamily_4 ?_
  refine a_iconst (x := 1) 8 rfl dX12_isFamily_7 (by decide) ?_
  refine a_isub 9 rfl dX12_isFamily_8 ?_
  refine a_i2l 10 rfl dX12_isFamily_9 ?_
  refine a_callS (as := [.long y.toInt64, .long 0, .long (((nI (M.1 1)) - 1).toInt64)]) (rest := []) (st2 := [.int 0]) (u1 := 0) (v1 := 0) (u2 := 0) (v2 := 0) (w) oX12_isIn q_1242 q_1243 rfl (by omega) (by decide) rfl (Nat.le_of_ble_eq_true rfl) 13 rfl dX12_isFamily_10 rfl ?_
  exact a_ireturn .boolean rfl rfl (rfl) (rfl) dX12_isFamily_13

theorem r_allM (hn : M.1 0 ≤ 6) : g_Run G mX12_all 1 0 0 [.ref (g_ad G 38)] (g_hp G C (g_hm G M ++ ob)) (some (.int (nI (2 ^ M.1 0)))) (g_hp G C (g_hm G M ++ ob)) := by
  obtain ⟨n9, en⟩ : ∃ n9, n9 = M.1 0 := ⟨_, rfl⟩
  rw [← en] at hn ⊢
  have e9 : (1 : Int32) <<< (nI (M.1 0) &&& 31) = nI (2 ^ n9) := by
    rw [← en]
    match n9, hn with | 0, _ => rfl | 1, _ => rfl | 2, _ => rfl | 3, _ => rfl | 4, _ => rfl | 5, _ => rfl | 6, _ => rfl
  refine g_Run.of (lv := [(0, .ref (g_ad G 38))]) (by decide) (Nat.le_of_ble_eq_true rfl) rfl ?_
  refine a_iconst (x := 1) 1 rfl dX12_all_0 (by decide) ?_
  refine a_aload_n 0 2 rfl dX12_all_1 rfl rfl ?_
  refine a_get 0 cl_11 f_RX12_9_11 (by decide) (rfl) rfl 5 rfl dX12_all_2 ?_
  refine a_ishl 6 rfl dX12_all_5 ?_
  exact a_ireturn .int rfl rfl ((by rw [e9])) (rfl) dX12_all_6
theorem r_cubeM_out (hy : ¬ (1 ≤ y ∧ y ≤ 6)) : g_Run G mX12_cube 2 0 0 [.ref (g_ad G 38), .int y] (g_hp G C (g_hm G M ++ ob)) (some (.int (-1))) (g_hp G C (g_hm G M ++ ob)) := by
  have w := r_isInI (G := G) (y := y) (a := 1) (b := 6) (h := g_hp G C (g_hm G M ++ ob)) (a9 := 1) (b9 := 6) rfl rfl
  rw [if_neg hy] at w
  refine g_Run.of (lv := [(0, .ref (g_ad G 38)), (1, .int y)]) (by decide) (Nat.le_of_ble_eq_true rfl) rfl ?_
  refine a_iload_n 1 1 rfl dX12_cube_0 rfl rfl ?_
  refine a_i2l 2 rfl dX12_cube_1 ?_
  refine a_lconst (x := 1) 3 rfl dX12_cube_2 (by decide) ?_
  refine a_ldc2 q_1241 6 rfl dX12_cube_3 ?_
  refine a_callS (as := [.long y.toInt64, .long 1, .long 6]) (rest := []) (st2 := [.int 0]) (u1 := 0) (v1 := 0) (u2 := 0) (v2 := 0) (w) oX12_isIn q_1242 q_1243 rfl (by omega) (by decide) rfl (Nat.le_of_ble_eq_true rfl) 9 rfl dX12_cube_6 rfl ?_
  refine a_if_ne 14 12 rfl dX12_cube_9 (by decide) (fun hc => absurd (rfl) hc) (fun _ => ?_)
  refine a_iconst (x := (-1)) 13 rfl dX12_cube_12 (by decide) ?_
  exact a_ireturn .int rfl rfl (rfl) (rfl) dX12_cube_13
theorem r_cubeM {n9 : Nat} (h1 : 1 ≤ n9) (h6 : n9 ≤ 6) : g_Run G mX12_cube 2 0 0 [.ref (g_ad G 38), .int (nI n9)] (g_hp G C (g_hm G M ++ ob)) (some (.int (nI (M.1 0)))) (g_hp G C (g_hm G (f_mn (f_mn (f_mn (f_mn M 0 n9) 1 0) 4 0) 5 0) ++ ob)) := by
  have w := r_isInI (G := G) (y := nI n9) (a := 1) (b := 6) (h := g_hp G C (g_hm G M ++ ob)) (a9 := 1) (b9 := 6) rfl rfl
  rw [if_pos ⟨nI_le (a := 1) h1 (by omega), nI_le (b := 6) h6 (by omega)⟩] at w
  refine g_Run.of (lv := [(0, .ref (g_ad G 38)), (1, .int (nI n9))]) (by decide) (Nat.le_of_ble_eq_true rfl) rfl ?_
  refine a_iload_n 1 1 rfl dX12_cube_0 rfl rfl ?_
  refine a_i2l 2 rfl dX12_cube_1 ?_
  refine a_lconst (x := 1) 3 rfl dX12_cube_2 (by decide) ?_
  refine a_ldc2 q_1241 6 rfl dX12_cube_3 ?_
  refine a_callS (as := [.long ((nI n9).toInt64), .long 1, .long 6]) (rest := []) (st2 := [.int 1]) (u1 := 0) (v1 := 0) (u2 := 0) (v2 := 0) (w) oX12_isIn q_1242 q_1243 rfl (by omega) (by decide) rfl (Nat.le_of_ble_eq_true rfl) 9 rfl dX12_cube_6 rfl ?_
  refine a_if_ne 14 12 rfl dX12_cube_9 (by decide) (fun _ => ?_) (fun hc => absurd hc ((by decide)))
  refine a_aload_n 0 15 rfl dX12_cube_14 rfl rfl ?_
  refine a_get 0 cl_11 f_RX12_9_11 (by decide) (rfl) rfl 18 rfl dX12_cube_15 ?_
  refine a_istore_n (lv' := [(2, .int (nI (M.1 0))), (0, .ref (g_ad G 38)), (1, .int (nI n9))]) 19 rfl dX12_cube_18 rfl (by decide) rfl ?_
  refine a_aload_n 1 20 rfl dX12_cube_19 rfl rfl ?_
  refine a_iload_n 2 21 rfl dX12_cube_20 rfl rfl ?_
  refine a_put (fs' := [.int (nI n9), .int (nI (M.1 1)), .int (nI (M.1 2)), .int (nI (M.1 3)), .ref (g_ad G 39), .ref (g_ad G 40), .ref (g_ad G 41), .ref (g_ad G 42), .ref (g_ad G 43), .ref (g_ad G 44), .int (M.2.1 0), .ref (g_ad G 45), .int (nI (M.1 4)), .int (nI (M.1 5)), .int (M.2.1 1), .int (M.2.1 2), .long (M.2.2.1 0), .ref (g_ad G 46), .ref (g_ad G 47), .ref (g_ad G 48), .int (nI (M.1 6)), .long (M.2.2.1 1), .int (nI (M.1 7)), .int (nI (M.1 8)), .ref (g_ad G 49), .ref (g_ad G 50), .int (nI (M.1 9)), .int (nI (M.1 10)), .int (nI (M.1 11)), .long (M.2.2.1 2), .ref (g_ad G 51), .ref (g_ad G 52), .ref (g_ad G 53), .ref (g_ad G 54), .ref (g_ad G 55), .ref (g_ad G 56), .ref (g_ad G 57), .ref (g_ad G 58), .ref (g_ad G 59), .ref (g_ad G 60), .ref (g_ad G 61), .ref (g_ad G 62), .int (nI (M.1 12))]) 0 cl_11 f_RX12_9_11 (by decide) (rfl) rfl rfl rfl (Nat.le_of_ble_eq_true rfl) rfl 24 rfl dX12_cube_21 ?_
  refine a_eq (h2 := g_hp G C (g_hm G (f_mn M 0 n9) ++ ob)) rfl rfl rfl (rfl) ?_
  refine a_aload_n 1 25 rfl dX12_cube_24 rfl rfl ?_
  refine a_iconst (x := 0) 26 rfl dX12_cube_25 (by decide) ?_
  refine a_put (fs' := [.int (nI n9), .int 0, .int (nI (M.1 2)), .int (nI (M.1 3)), .ref (g_ad G 39), .ref (g_ad G 40), .ref (g_ad G 41), .ref (g_ad G 42), .ref (g_ad G 43), .ref (g_ad G 44), .int (M.2.1 0), .ref (g_ad G 45), .int (nI (M.1 4)), .int (nI (M.1 5)), .int (M.2.1 1), .int (M.2.1 2), .long (M.2.2.1 0), .ref (g_ad G 46), .ref (g_ad G 47), .ref (g_ad G 48), .int (nI (M.1 6)), .long (M.2.2.1 1), .int (nI (M.1 7)), .int (nI (M.1 8)), .ref (g_ad G 49), .ref (g_ad G 50), .int (nI (M.1 9)), .int (nI (M.1 10)), .int (nI (M.1 11)), .long (M.2.2.1 2), .ref (g_ad G 51), .ref (g_ad G 52), .ref (g_ad G 53), .ref (g_ad G 54), .ref (g_ad G 55), .ref (g_ad G 56), .ref (g_ad G 57), .ref (g_ad G 58), .ref (g_ad G 59), .ref (g_ad G 60), .ref (g_ad G 61), .ref (g_ad G 62), .int (nI (M.1 12))]) 1 cl_11 f_RX12_97_11 (by decide) (rfl) rfl rfl rfl (Nat.le_of_ble_eq_true rfl) rfl 29 rfl dX12_cube_26 ?_
  refine a_eq (h2 := g_hp G C (g_hm G (f_mn (f_mn M 0 n9) 1 0) ++ ob)) rfl rfl rfl (rfl) ?_
  refine a_aload_n 1 30 rfl dX12_cube_29 rfl rfl ?_
  refine a_callV (as := []) (rest := []) (st2 := []) (u1 := 0) (v1 := 0) (u2 := 0) (v2 := 0) (r_leaves) (⟨_, _, _, _, rfl, rfl⟩) oX12_leaves q_1245 q_1247 q_84 rfl (by omega) (by decide) rfl (Nat.le_of_ble_eq_true rfl) 33 rfl dX12_cube_30 rfl ?_
  refine a_eq (h2 := g_hp G C (g_hm G (f_mn (f_mn (f_mn (f_mn M 0 n9) 1 0) 4 0) 5 0) ++ ob)) rfl rfl rfl (rfl) ?_
  refine a_iload_n 0 34 rfl dX12_cube_33 rfl rfl ?_
  exact a_ireturn .int rfl rfl (rfl) (rfl) dX12_cube_34
/-- comes: the model's cells -/
def f_coM (M : f_M) (x : Int64) : f_M := if M.1 1 = 8 then M else f_mn (f_mn (f_mn (f_mL (f_mI (f_mI M 0 (upd (M.2.2.2.1 0) (M.1 1) 0)) 1 (upd (M.2.2.2.1 1) (M.1 1) 0)) 0 (vp_updL (M.2.2.2.2 0) (M.1 1) x)) 1 (M.1 1 + 1)) 4 0) 5 0
theorem r_comes (hm : M.1 1 ≤ 8) : g_Run G mX12_comes 2 0 0 [.ref (g_ad G 38), .long x] (g_hp G C (g_hm G M ++ ob)) (some (.int (if M.1 1 = 8 then -3 else nI (M.1 1)))) (g_hp G C (g_hm G (f_coM M x) ++ ob)) := by
  unfold f_coM
  by_cases h8 : M.1 1 = 8
  · rw [if_pos h8, if_pos h8]
    refine g_Run.of (lv := [(0, .ref (g_ad G 38)), (1, .long x)]) (by decide) (Nat.le_of_ble_eq_true rfl) rfl ?_
    refine a_aload_n 0 1 rfl dX12_comes_0 rfl rfl ?_
    refine a_get 1 cl_11 f_RX12_97_11 (by decide) (rfl) rfl 4 rfl dX12_comes_1 ?_
    refine a_bipush (x := 8) 6 rfl dX12_comes_4 (by decide) ?_
    refine a_icmp_ne 12 9 rfl dX12_comes_6 (by decide) (fun hc => absurd ((by rw [h8]; rfl)) hc) (fun _ => ?_)
    refine a_bipush (x := (-3)) 11 rfl dX12_comes_9 (by decide) ?_
    exact a_ireturn .int rfl rfl (rfl) (rfl) dX12_comes_11
  · rw [if_neg h8, if_neg h8]
    have hin : vp_in (nI (M.1 1)) 8 := vp_in_nI (by omega) (by omega)
    have hcl : (nI (M.1 1)).toNatClampNeg = M.1 1 := g_cl (by omega)
    refine g_Run.of (lv := [(0, .ref (g_ad G 38)), (1, .long x)]) (by decide) (Nat.le_of_ble_eq_true rfl) rfl ?_
    refine a_aload_n 0 1 rfl dX12_comes_0 rfl rfl ?_
    refine a_get 1 cl_11 f_RX12_97_11 (by decide) (rfl) rfl 4 rfl dX12_comes_1 ?_
    refine a_bipush (x := 8) 6 rfl dX12_comes_4 (by decide) ?_
    refine a_icmp_ne 12 9 rfl dX12_comes_6 (by decide) (fun _ => ?_) (fun hc => absurd hc ((fun z => h8 (nI_inj9 (b := 8) (by omega) (by omega) z))))
    refine a_aload_n 0 13 rfl dX12_comes_12 rfl rfl ?_
    refine a_get 4 cl_11 f_RX12_15_11 (by decide) (rfl) rfl 16 rfl dX12_comes_13 ?_
    refine a_aload_n 0 17 rfl dX12_comes_16 rfl rfl ?_
    refine a_get 1 cl_11 f_RX12_97_11 (by decide) (rfl) rfl 20 rfl dX12_comes_17 ?_
    refine a_iconst (x := 0) 21 rfl dX12_comes_20 (by decide) ?_
    refine a_iast (rfl) (hin) 22 rfl dX12_comes_21 ?_
    refine a_eq (h2 := g_hp G C (g_hm G (f_mI M 0 (upd (M.2.2.2.1 0) (M.1 1) 0)) ++ ob)) rfl rfl rfl (by show (((g_hp G C (g_hm G M ++ ob)).set 39 (c_I G 8 (upd (M.2.2.2.1 0) (nI (M.1 1)).toNatClampNeg 0))) : List va_E) = _; rw [hcl]; rfl) ?_
    refine a_aload_n 0 23 rfl dX12_comes_22 rfl rfl ?_
    refine a_get 5 cl_11 f_RX12_19_11 (by decide) (rfl) rfl 26 rfl dX12_comes_23 ?_
    refine a_aload_n 0 27 rfl dX12_comes_26 rfl rfl ?_
    refine a_get 1 cl_11 f_RX12_97_11 (by decide) (rfl) rfl 30 rfl dX12_comes_27 ?_
    refine a_iconst (x := 0) 31 rfl dX12_comes_30 (by decide) ?_
    refine a_iast (rfl) (hin) 32 rfl dX12_comes_31 ?_
    refine a_eq (h2 := g_hp G C (g_hm G (f_mI (f_mI M 0 (upd (M.2.2.2.1 0) (M.1 1) 0)) 1 (upd (M.2.2.2.1 1) (M.1 1) 0)) ++ ob)) rfl rfl rfl (by show (((g_hp G C (g_hm G (f_mI M 0 (upd (M.2.2.2.1 0) (M.1 1) 0)) ++ ob)).set 40 (c_I G 8 (upd (M.2.2.2.1 1) (nI (M.1 1)).toNatClampNeg 0))) : List va_E) = _; rw [hcl]; rfl) ?_
    refine a_aload_n 0 33 rfl dX12_comes_32 rfl rfl ?_
    refine a_get 8 cl_11 f_RX12_28_11 (by decide) (rfl) rfl 36 rfl dX12_comes_33 ?_
    refine a_aload_n 0 37 rfl dX12_comes_36 rfl rfl ?_
    refine a_get 1 cl_11 f_RX12_97_11 (by decide) (rfl) rfl 40 rfl dX12_comes_37 ?_
    refine a_lload_n 1 41 rfl dX12_comes_40 rfl rfl ?_
    refine a_last (rfl) (hin) 42 rfl dX12_comes_41 ?_
    refine a_eq (h2 := g_hp G C (g_hm G (f_mL (f_mI (f_mI M 0 (upd (M.2.2.2.1 0) (M.1 1) 0)) 1 (upd (M.2.2.2.1 1) (M.1 1) 0)) 0 (vp_updL (M.2.2.2.2 0) (M.1 1) x)) ++ ob)) rfl rfl rfl (by show (((g_hp G C (g_hm G (f_mI (f_mI M 0 (upd (M.2.2.2.1 0) (M.1 1) 0)) 1 (upd (M.2.2.2.1 1) (M.1 1) 0)) ++ ob)).set 43 (c_L G 8 (vp_updL (M.2.2.2.2 0) (nI (M.1 1)).toNatClampNeg x))) : List va_E) = _; rw [hcl]; rfl) ?_
    refine a_aload_n 0 43 rfl dX12_comes_42 rfl rfl ?_
    refine a_dup 44 rfl dX12_comes_43 rfl ?_
    refine a_get 1 cl_11 f_RX12_97_11 (by decide) (rfl) rfl 47 rfl dX12_comes_44 ?_
    refine a_iconst (x := 1) 48 rfl dX12_comes_47 (by decide) ?_
    refine a_iadd 49 rfl dX12_comes_48 ?_
    refine a_eq (st2 := [.int (nI (M.1 1 + 1)), .ref (g_ad G 38)]) rfl rfl (by show ([.int ((nI (M.1 1)) + 1), .ref (g_ad G 38)] : List Value) = _; rw [nI_1]) rfl ?_
    refine a_put (fs' := [.int (nI (M.1 0)), .int (nI (M.1 1 + 1)), .int (nI (M.1 2)), .int (nI (M.1 3)), .ref (g_ad G 39), .ref (g_ad G 40), .ref (g_ad G 41), .ref (g_ad G 42), .ref (g_ad G 43), .ref (g_ad G 44), .int (M.2.1 0), .ref (g_ad G 45), .int (nI (M.1 4)), .int (nI (M.1 5)), .int (M.2.1 1), .int (M.2.1 2), .long (M.2.2.1 0), .ref (g_ad G 46), .ref (g_ad G 47), .ref (g_ad G 48), .int (nI (M.1 6)), .long (M.2.2.1 1), .int (nI (M.1 7)), .int (nI (M.1 8)), .ref (g_ad G 49), .ref (g_ad G 50), .int (nI (M.1 9)), .int (nI (M.1 10)), .int (nI (M.1 11)), .long (M.2.2.1 2), .ref (g_ad G 51), .ref (g_ad G 52), .ref (g_ad G 53), .ref (g_ad G 54), .ref (g_ad G 55), .ref (g_ad G 56), .ref (g_ad G 57), .ref (g_ad G 58), .ref (g_ad G 59), .ref (g_ad G 60), .ref (g_ad G 61), .ref (g_ad G 62), .int (nI (M.1 12))]) 1 cl_11 f_RX12_97_11 (by decide) (rfl) rfl rfl rfl (Nat.le_of_ble_eq_true rfl) rfl 52 rfl dX12_comes_49 ?_
    refine a_eq (h2 := g_hp G C (g_hm G (f_mn (f_mL (f_mI (f_mI M 0 (upd (M.2.2.2.1 0) (M.1 1) 0)) 1 (upd (M.2.2.2.1 1) (M.1 1) 0)) 0 (vp_updL (M.2.2.2.2 0) (M.1 1) x)) 1 (M.1 1 + 1)) ++ ob)) rfl rfl rfl (rfl) ?_
    refine a_aload_n 0 53 rfl dX12_comes_52 rfl rfl ?_
    refine a_callV (as := []) (rest := []) (st2 := []) (u1 := 0) (v1 := 0) (u2 := 0) (v2 := 0) (r_leaves) (⟨_, _, _, _, rfl, rfl⟩) oX12_leaves q_1245 q_1247 q_84 rfl (by omega) (by decide) rfl (Nat.le_of_ble_eq_true rfl) 56 rfl dX12_comes_53 rfl ?_
    refine a_eq (h2 := g_hp G C (g_hm G (f_mn (f_mn (f_mn (f_mL (f_mI (f_mI M 0 (upd (M.2.2.2.1 0) (M.1 1) 0)) 1 (upd (M.2.2.2.1 1) (M.1 1) 0)) 0 (vp_updL (M.2.2.2.2 0) (M.1 1) x)) 1 (M.1 1 + 1)) 4 0) 5 0) ++ ob)) rfl rfl rfl (rfl) ?_
    refine a_aload_n 0 57 rfl dX12_comes_56 rfl rfl ?_
    refine a_get 1 cl_11 f_RX12_97_11 (by decide) (rfl) rfl 60 rfl dX12_comes_57 ?_
    refine a_iconst (x := 1) 61 rfl dX12_comes_60 (by decide) ?_
    refine a_isub 62 rfl dX12_comes_61 ?_
    exact a_ireturn .int rfl rfl ((by show (some (.int ((nI (M.1 1 + 1)) - 1)) : Option Value) = _; rw [show (1 : Int32) = nI 1 from rfl, pk_sub (by omega)]; rfl)) (rfl) dX12_comes_62
theorem r_comeM_bad (hn : M.1 0 ≤ 6) (hx : ¬ x &&& (f_all (2 ^ M.1 0) ^^^ (-1)) = 0) : g_Run G mX12_come 3 0 0 [.ref (g_ad G 38), .long x] (g_hp G C (g_hm G M ++ ob)) (some (.int (-1))) (g_hp G C (g_hm G M ++ ob)) := by
  have hp : 2 ^ M.1 0 ≤ 64 := Nat.pow_le_pow_right (by decide) hn
  refine g_Run.of (lv := [(0, .ref (g_ad G 38)), (1, .long x)]) (by decide) (Nat.le_of_ble_eq_true rfl) rfl ?_
  refine a_lload_n 1 1 rfl dX12_come_0 rfl rfl ?_
  refine a_aload_n 0 2 rfl dX12_come_1 rfl rfl ?_
  refine a_callV (as := []) (rest := [.long x]) (st2 := [.int (nI (2 ^ M.1 0)), .long x]) (u1 := 0) (v1 := 0) (u2 := 0) (v2 := 0) (r_allM hn) (⟨_, _, _, _, rfl, rfl⟩) oX12_all q_1253 q_1255 q_85 rfl (by omega) (by decide) rfl (Nat.le_of_ble_eq_true rfl) 5 rfl dX12_come_2 rfl ?_
  refine a_callS (as := [.int (nI (2 ^ M.1 0))]) (rest := [.long x]) (st2 := [.long (f_all (2 ^ M.1 0)), .long x]) (u1 := 0) (v1 := 0) (u2 := 0) (v2 := 0) (r_bits hp) oX12_bits q_1257 q_1258 rfl (by omega) (by decide) rfl (Nat.le_of_ble_eq_true rfl) 8 rfl dX12_come_5 rfl ?_
  refine a_ldc2 q_1260 11 rfl dX12_come_8 ?_
  refine a_lxor 12 rfl dX12_come_11 ?_
  refine a_land 13 rfl dX12_come_12 ?_
  refine a_lconst (x := 0) 14 rfl dX12_come_13 (by decide) ?_
  refine a_lcmp 15 rfl dX12_come_14 ?_
  refine a_if_eq 22 18 rfl dX12_come_15 (by decide) (fun hc => absurd hc ((g_cmp_ne.mpr hx))) (fun _ => ?_)
  refine a_iconst (x := (-1)) 19 rfl dX12_come_18 (by decide) ?_
  refine a_goto 27 dX12_come_19 (by decide) ?_
  exact a_ireturn .int rfl rfl (rfl) (rfl) dX12_come_27
theorem r_comeM (hn : M.1 0 ≤ 6) (hm : M.1 1 ≤ 8) (hx : x &&& (f_all (2 ^ M.1 0) ^^^ (-1)) = 0) : g_Run G mX12_come 3 0 0 [.ref (g_ad G 38), .long x] (g_hp G C (g_hm G M ++ ob)) (some (.int (if M.1 1 = 8 then -3 else nI (M.1 1)))) (g_hp G C (g_hm G (f_coM M x) ++ ob)) := by
  have hp : 2 ^ M.1 0 ≤ 64 := Nat.pow_le_pow_right (by decide) hn
  refine g_Run.of (lv := [(0, .ref (g_ad G 38)), (1, .long x)]) (by decide) (Nat.le_of_ble_eq_true rfl) rfl ?_
  refine a_lload_n 1 1 rfl dX12_come_0 rfl rfl ?_
  refine a_aload_n 0 2 rfl dX12_come_1 rfl rfl ?_
  refine a_callV (as := []) (rest := [.long x]) (st2 := [.int (nI (2 ^ M.1 0)), .long x]) (u1 := 0) (v1 := 0) (u2 := 0) (v2 := 0) (r_allM hn) (⟨_, _, _, _, rfl, rfl⟩) oX12_all q_1253 q_1255 q_85 rfl (by omega) (by decide) rfl (Nat.le_of_ble_eq_true rfl) 5 rfl dX12_come_2 rfl ?_
  refine a_callS (as := [.int (nI (2 ^ M.1 0))]) (rest := [.long x]) (st2 := [.long (f_all (2 ^ M.1 0)), .long x]) (u1 := 0) (v1 := 0) (u2 := 0) (v2 := 0) (r_bits hp) oX12_bits q_1257 q_1258 rfl (by omega) (by decide) rfl (Nat.le_of_ble_eq_true rfl) 8 rfl dX12_come_5 rfl ?_
  refine a_ldc2 q_1260 11 rfl dX12_come_8 ?_
  refine a_lxor 12 rfl dX12_come_11 ?_
  refine a_land 13 rfl dX12_come_12 ?_
  refine a_lconst (x := 0) 14 rfl dX12_come_13 (by decide) ?_
  refine a_lcmp 15 rfl dX12_come_14 ?_
  refine a_if_eq 22 18 rfl dX12_come_15 (by decide) (fun _ => ?_) (fun hc => absurd ((g_cmp_eq.mpr hx)) hc)
  refine a_aload_n 0 23 rfl dX12_come_22 rfl rfl ?_
  refine a_lload_n 1 24 rfl dX12_come_23 rfl rfl ?_
  refine a_callV (as := [.long x]) (rest := []) (st2 := [.int (if M.1 1 = 8 then -3 else nI (M.1 1))]) (u1 := 0) (v1 := 0) (u2 := 0) (v2 := 0) (r_comes hm) (⟨_, _, _, _, rfl, rfl⟩) oX12_comes q_1261 q_1263 q_86 rfl (by omega) (by decide) rfl (Nat.le_of_ble_eq_true rfl) 27 rfl dX12_come_24 rfl ?_
  exact a_ireturn .int rfl rfl (rfl) (rfl) dX12_come_27
theorem r_dropM0 (hm : M.1 1 = 0) : g_Run G mX12_drop 2 0 0 [.ref (g_ad G 38)] (g_hp G C (g_hm G M ++ ob)) (some (.int (-5))) (g_hp G C (g_hm G M ++ ob)) := by
  refine g_Run.of (lv := [(0, .ref (g_ad G 38))]) (by decide) (Nat.le_of_ble_eq_true rfl) rfl ?_
  refine a_aload_n 0 1 rfl dX12_drop_0 rfl rfl ?_
  refine a_get 1 cl_11 f_RX12_97_11 (by decide) (rfl) rfl 4 rfl dX12_drop_1 ?_
  refine a_if_ne 10 7 rfl dX12_drop_4 (by decide) (fun hc => absurd ((by rw [hm]; rfl)) hc) (fun _ => ?_)
  refine a_bipush (x := (-5)) 9 rfl dX12_drop_7 (by decide) ?_
  exact a_ireturn .int rfl rfl (rfl) (rfl) dX12_drop_9
theorem r_dropM {m9 : Nat} (hm : M.1 1 = m9 + 1) (h8 : m9 < 8) : g_Run G mX12_drop 2 0 0 [.ref (g_ad G 38)] (g_hp G C (g_hm G M ++ ob)) (some (.int (nI m9))) (g_hp G C (g_hm G (f_mn (f_mn (f_mn M 1 m9) 4 0) 5 0) ++ ob)) := by
  have e9 : nI (M.1 1) - 1 = nI m9 := by rw [hm, show (1 : Int32) = nI 1 from rfl, pk_sub (by omega)]; rfl
  refine g_Run.of (lv := [(0, .ref (g_ad G 38))]) (by decide) (Nat.le_of_ble_eq_true rfl) rfl ?_
  refine a_aload_n 0 1 rfl dX12_drop_0 rfl rfl ?_
  refine a_get 1 cl_11 f_RX12_97_11 (by decide) (rfl) rfl 4 rfl dX12_drop_1 ?_
  refine a_if_ne 10 7 rfl dX12_drop_4 (by decide) (fun _ => ?_) (fun hc => absurd hc ((fun z => absurd (nI_inj9 (b := 0) (by omega) (by omega) z) (by omega))))
  refine a_aload_n 0 11 rfl dX12_drop_10 rfl rfl ?_
  refine a_dup 12 rfl dX12_drop_11 rfl ?_
  refine a_get 1 cl_11 f_RX12_97_11 (by decide) (rfl) rfl 15 rfl dX12_drop_12 ?_
  refine a_iconst (x := 1) 16 rfl dX12_drop_15 (by decide) ?_
  refine a_isub 17 rfl dX12_drop_16 ?_
  refine a_eq (st2 := [.int (nI m9), .ref (g_ad G 38)]) rfl rfl (by show ([.int ((nI (M.1 1)) - 1), .ref (g_ad G 38)] : List Value) = _; rw [e9]) rfl ?_
  refine a_put (fs' := [.int (nI (M.1 0)), .int (nI m9), .int (nI (M.1 2)), .int (nI (M.1 3)), .ref (g_ad G 39), .ref (g_ad G 40), .ref (g_ad G 41), .ref (g_ad G 42), .ref (g_ad G 43), .ref (g_ad G 44), .int (M.2.1 0), .ref (g_ad G 45), .int (nI (M.1 4)), .int (nI (M.1 5)), .int (M.2.1 1), .int (M.2.1 2), .long (M.2.2.1 0), .ref (g_ad G 46), .ref (g_ad G 47), .ref (g_ad G 48), .int (nI (M.1 6)), .long (M.2.2.1 1), .int (nI (M.1 7)), .int (nI (M.1 8)), .ref (g_ad G 49), .ref (g_ad G 50), .int (nI (M.1 9)), .int (nI (M.1 10)), .int (nI (M.1 11)), .long (M.2.2.1 2), .ref (g_ad G 51), .ref (g_ad G 52), .ref (g_ad G 53), .ref (g_ad G 54), .ref (g_ad G 55), .ref (g_ad G 56), .ref (g_ad G 57), .ref (g_ad G 58), .ref (g_ad G 59), .ref (g_ad G 60), .ref (g_ad G 61), .ref (g_ad G 62), .int (nI (M.1 12))]) 1 cl_11 f_RX12_97_11 (by decide) (rfl) rfl rfl rfl (Nat.le_of_ble_eq_true rfl) rfl 20 rfl dX12_drop_17 ?_
  refine a_eq (h2 := g_hp G C (g_hm G (f_mn M 1 m9) ++ ob)) rfl rfl rfl (rfl) ?_
  refine a_aload_n 0 21 rfl dX12_drop_20 rfl rfl ?_
  refine a_callV (as := []) (rest := []) (st2 := []) (u1 := 0) (v1 := 0) (u2 := 0) (v2 := 0) (r_leaves) (⟨_, _, _, _, rfl, rfl⟩) oX12_leaves q_1245 q_1247 q_84 rfl (by omega) (by decide) rfl (Nat.le_of_ble_eq_true rfl) 24 rfl dX12_drop_21 rfl ?_
  refine a_eq (h2 := g_hp G C (g_hm G (f_mn (f_mn (f_mn M 1 m9) 4 0) 5 0) ++ ob)) rfl rfl rfl (rfl) ?_
  refine a_aload_n 0 25 rfl dX12_drop_24 rfl rfl ?_
  refine a_get 1 cl_11 f_RX12_97_11 (by decide) (rfl) rfl 28 rfl dX12_drop_25 ?_
  exact a_ireturn .int rfl rfl (rfl) (rfl) dX12_drop_28
end MO1
