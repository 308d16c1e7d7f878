/-! The model's calls on families -/
def f_mis (M : f_M) (j : Nat) (T : f_T) : Prop := j < M.1 1 ∧ M.1 1 ≤ 8 ∧ M.2.2.2.1 0 j = nI T.1 ∧ M.2.2.2.1 1 j = nI T.2.1 ∧ M.2.2.2.2 0 j = T.2.2 ∧ T.1 < 6 ∧ T.2.1 < 10
abbrev f_mso (M : f_M) (T : f_T) : Int64 := f_sB T.1 (M.1 0) T.2.1 T.2.2
def f_boM (n : Nat) (x : Int64) : Int64 := (f_shM false n x (2 ^ n) ||| f_shM true n x (2 ^ n)) &&& (x ^^^ (-1))
/-- is: 0 no part of another, 1 something in common, 2 all parts -/
def f_isc (w : Nat) (x : Int64) (s o : Nat) : Bool := match w with
  | 0 => !f_b x o || (decide (s = o) || !decide (s &&& o = s))
  | 1 => !f_b x o || !decide (s &&& o = 0)
  | _ => !decide (s &&& o = o) || f_b x o
def f_isM (w p : Nat) (x : Int64) : Nat → Bool
  | 0 => true
  | s + 1 => cond (f_b x s) (f_alF (f_isM w p x s) (f_isc w x s) p) (f_isM w p x s)
def f_pfM (x : Int64) (z : Nat) : Nat → Nat
  | 0 => 0
  | s + 1 => f_pfM x z s + Bool.toNat (f_b x s && decide (f_pop (nI s).toInt64 = z))
section MF1
variable {G : g_G} {C : f_C} {M : f_M} {ob h : List va_E} {x : Int64} {y y2 y3 : Int32} {i j : Nat} {T : f_T}
theorem r_isInB {a b : Int32} {a9 b9 : Int64} (ha : a9 = a.toInt64) (hb : b9 = b.toInt64) : g_Run G mX12_isIn 1 0 0 [.long y.toInt64, .long a9, .long b9] h (some (.int (f_i (decide (a ≤ y ∧ y ≤ b))))) h := by
  have w := r_isInI (G := G) (y := y) (h := h) ha hb
  have e9 : (if a ≤ y ∧ y ≤ b then (1 : Int32) else 0) = f_i (decide (a ≤ y ∧ y ≤ b)) := by
    by_cases e8 : a ≤ y ∧ y ≤ b
    · rw [if_pos e8, decide_eq_true e8]; rfl
    · rw [if_neg e8, decide_eq_false e8]; rfl
  rw [e9] at w
  exact w
theorem r_mso (hn : M.1 0 ≤ 6) (hi : f_mis M j T) : g_Run G mX12_setsOf 4 0 0 [.ref (g_ad G 38), .int (nI j)] (g_hp G C (g_hm G M ++ ob)) (some (.long (f_mso M T))) (g_hp G C (g_hm G M ++ ob)) :=
  r_setsOf hn hi.1 hi.2.1 hi.2.2.1 hi.2.2.2.2.2.1 hi.2.2.2.1 hi.2.2.2.2.2.2 hi.2.2.2.2.1
theorem r_boM (hn : M.1 0 ≤ 6) (hn0 : 0 < M.1 0) : g_Run G mX12_borderOf 4 0 0 [.ref (g_ad G 38), .long x] (g_hp G C (g_hm G M ++ ob)) (some (.long (f_boM (M.1 0) x))) (g_hp G C (g_hm G M ++ ob)) := r_borderM hn hn0
theorem r_setsM_out (hm : M.1 1 ≤ 8) (hi : ¬ vp_in y (M.1 1)) : g_Run G mX12_sets 6 0 0 [.ref (g_ad G 38), .int y, .int y2] (g_hp G C (g_hm G M ++ ob)) (some (.long (-9223372036854775808))) (g_hp G C (g_hm G M ++ ob)) := by
  refine g_Run.of (lv := [(0, .ref (g_ad G 38)), (1, .int y), (2, .int y2)]) (by decide) (Nat.le_of_ble_eq_true rfl) rfl ?_
  refine a_aload_n 0 1 rfl dX12_sets_0 rfl rfl ?_
  refine a_iload_n 1 2 rfl dX12_sets_1 rfl rfl ?_
  refine a_callV (as := [.int y]) (rest := []) (st2 := [.int 0]) (u1 := 0) (v1 := 0) (u2 := 0) (v2 := 0) (r_isFam_out hm hi) (⟨_, _, _, _, rfl, rfl⟩) oX12_isFamily q_1273 q_1275 q_87 rfl (by omega) (by decide) rfl (Nat.le_of_ble_eq_true rfl) 5 rfl dX12_sets_2 rfl ?_
  refine a_if_ne 12 8 rfl dX12_sets_5 (by decide) (fun hc => absurd (rfl) hc) (fun _ => ?_)
  refine a_ldc2 q_1295 11 rfl dX12_sets_8 ?_
  exact a_lreturn rfl (rfl) (rfl) dX12_sets_11
theorem r_setsM0 (hn : M.1 0 ≤ 6) (hn0 : 0 < M.1 0) (hi : f_mis M j T) : g_Run G mX12_sets 6 0 0 [.ref (g_ad G 38), .int (nI j), .int 0] (g_hp G C (g_hm G M ++ ob)) (some (.long (f_mso M T))) (g_hp G C (g_hm G M ++ ob)) := by
  have hin : vp_in (nI j) 8 := vp_in_nI (Nat.lt_of_lt_of_le hi.1 hi.2.1) (by omega)
  have hj : j < 8 := Nat.lt_of_lt_of_le hi.1 hi.2.1
  have ht : M.2.2.2.2 0 (nI j).toNatClampNeg = T.2.2 := by rw [g_cl (by omega)]; exact hi.2.2.2.2.1
  refine g_Run.of (lv := [(0, .ref (g_ad G 38)), (1, .int (nI j)), (2, .int 0)]) (by decide) (Nat.le_of_ble_eq_true rfl) rfl ?_
  skip
  refine a_aload_n 0 1 rfl dX12_sets_0 rfl rfl ?_
  refine a_iload_n 1 2 rfl dX12_sets_1 rfl rfl ?_
  refine a_callV (as := [.int (nI j)]) (rest := []) (st2 := [.int 1]) (u1 := 0) (v1 := 0) (u2 := 0) (v2 := 0) (r_isFam_in hi.2.1 hi.1) (⟨_, _, _, _, rfl, rfl⟩) oX12_isFamily q_1273 q_1275 q_87 rfl (by omega) (by decide) rfl (Nat.le_of_ble_eq_true rfl) 5 rfl dX12_sets_2 rfl ?_
  refine a_if_ne 12 8 rfl dX12_sets_5 (by decide) (fun _ => ?_) (fun hc => absurd hc ((by decide)))
  refine a_aload_n 0 13 rfl dX12_sets_12 rfl rfl ?_
  refine a_iload_n 1 14 rfl dX12_sets_13 rfl rfl ?_
  refine a_callV (as := [.int (nI j)]) (rest := []) (st2 := [.long (f_mso M T)]) (u1 := 0) (v1 := 0) (u2 := 0) (v2 := 0) (r_mso hn hi) (⟨_, _, _, _, rfl, rfl⟩) oX12_setsOf q_1296 q_1298 q_89 rfl (by omega) (by decide) rfl (Nat.le_of_ble_eq_true rfl) 17 rfl dX12_sets_14 rfl ?_
  refine a_lstore_n (lv' := [(3, .long (f_mso M T)), (0, .ref (g_ad G 38)), (1, .int (nI j)), (2, .int 0)]) 18 rfl dX12_sets_17 rfl (by decide) rfl ?_
  refine a_iload_n 3 19 rfl dX12_sets_18 rfl rfl ?_
  refine a_tableIn (off := 33) 52 dX12_sets_19 (by decide) (by decide) (by decide) (by decide) ?_
  refine a_lload_n 0 53 rfl dX12_sets_52 rfl rfl ?_
  exact a_lreturn rfl ((by first | rfl | rw [ht])) (rfl) dX12_sets_53

theorem r_setsM1 (hn : M.1 0 ≤ 6) (hn0 : 0 < M.1 0) (hi : f_mis M j T) : g_Run G mX12_sets 6 0 0 [.ref (g_ad G 38), .int (nI j), .int 1] (g_hp G C (g_hm G M ++ ob)) (some (.long (T.2.2))) (g_hp G C (g_hm G M ++ ob)) := by
  have hin : vp_in (nI j) 8 := vp_in_nI (Nat.lt_of_lt_of_le hi.1 hi.2.1) (by omega)
  have hj : j < 8 := Nat.lt_of_lt_of_le hi.1 hi.2.1
  have ht : M.2.2.2.2 0 (nI j).toNatClampNeg = T.2.2 := by rw [g_cl (by omega)]; exact hi.2.2.2.2.1
  refine g_Run.of (lv := [(0, .ref (g_ad G 38)), (1, .int (nI j)), (2, .int 1)]) (by decide) (Nat.le_of_ble_eq_true rfl) rfl ?_
  refine a_aload_n 0 1 rfl dX12_sets_0 rfl rfl ?_
  refine a_iload_n 1 2 rfl dX12_sets_1 rfl rfl ?_
  refine a_callV (as := [.int (nI j)]) (rest := []) (st2 := [.int 1]) (u1 := 0) (v1 := 0) (u2 := 0) (v2 := 0) (r_isFam_in hi.2.1 hi.1) (⟨_, _, _, _, rfl, rfl⟩) oX12_isFamily q_1273 q_1275 q_87 rfl (by omega) (by decide) rfl (Nat.le_of_ble_eq_true rfl) 5 rfl dX12_sets_2 rfl ?_
  refine a_if_ne 12 8 rfl dX12_sets_5 (by decide) (fun _ => ?_) (fun hc => absurd hc ((by decide)))
  refine a_aload_n 0 13 rfl dX12_sets_12 rfl rfl ?_
  refine a_iload_n 1 14 rfl dX12_sets_13 rfl rfl ?_
  refine a_callV (as := [.int (nI j)]) (rest := []) (st2 := [.long (f_mso M T)]) (u1 := 0) (v1 := 0) (u2 := 0) (v2 := 0) (r_mso hn hi) (⟨_, _, _, _, rfl, rfl⟩) oX12_setsOf q_1296 q_1298 q_89 rfl (by omega) (by decide) rfl (Nat.le_of_ble_eq_true rfl) 17 rfl dX12_sets_14 rfl ?_
  refine a_lstore_n (lv' := [(3, .long (f_mso M T)), (0, .ref (g_ad G 38)), (1, .int (nI j)), (2, .int 1)]) 18 rfl dX12_sets_17 rfl (by decide) rfl ?_
  refine a_iload_n 3 19 rfl dX12_sets_18 rfl rfl ?_
  refine a_tableIn (off := 35) 54 dX12_sets_19 (by decide) (by decide) (by decide) (by decide) ?_
  refine a_aload_n 1 55 rfl dX12_sets_54 rfl rfl ?_
  refine a_get 8 cl_11 f_RX12_28_11 (by decide) (rfl) rfl 58 rfl dX12_sets_55 ?_
  refine a_iload_n 2 59 rfl dX12_sets_58 rfl rfl ?_
  refine a_lald (rfl) (hin) 60 rfl dX12_sets_59 ?_
  exact a_lreturn rfl ((by first | rfl | rw [ht])) (rfl) dX12_sets_60

theorem r_setsM2 (hn : M.1 0 ≤ 6) (hn0 : 0 < M.1 0) (hi : f_mis M j T) : g_Run G mX12_sets 6 0 0 [.ref (g_ad G 38), .int (nI j), .int 2] (g_hp G C (g_hm G M ++ ob)) (some (.long (f_shM false (M.1 0) (f_mso M T) (2 ^ M.1 0)))) (g_hp G C (g_hm G M ++ ob)) := by
  have hin : vp_in (nI j) 8 := vp_in_nI (Nat.lt_of_lt_of_le hi.1 hi.2.1) (by omega)
  have hj : j < 8 := Nat.lt_of_lt_of_le hi.1 hi.2.1
  have ht : M.2.2.2.2 0 (nI j).toNatClampNeg = T.2.2 := by rw [g_cl (by omega)]; exact hi.2.2.2.2.1
  refine g_Run.of (lv := [(0, .ref (g_ad G 38)), (1, .int (nI j)), (2, .int 2)]) (by decide) (Nat.le_of_ble_eq_true rfl) rfl ?_
  refine a_aload_n 0 1 rfl dX12_sets_0 rfl rfl ?_
  refine a_iload_n 1 2 rfl dX12_sets_1 rfl rfl ?_
  refine a_callV (as := [.int (nI j)]) (rest := []) (st2 := [.int 1]) (u1 := 0) (v1 := 0) (u2 := 0) (v2 := 0) (r_isFam_in hi.2.1 hi.1) (⟨_, _, _, _, rfl, rfl⟩) oX12_isFamily q_1273 q_1275 q_87 rfl (by omega) (by decide) rfl (Nat.le_of_ble_eq_true rfl) 5 rfl dX12_sets_2 rfl ?_
  refine a_if_ne 12 8 rfl dX12_sets_5 (by decide) (fun _ => ?_) (fun hc => absurd hc ((by decide)))
  refine a_aload_n 0 13 rfl dX12_sets_12 rfl rfl ?_
  refine a_iload_n 1 14 rfl dX12_sets_13 rfl rfl ?_
  refine a_callV (as := [.int (nI j)]) (rest := []) (st2 := [.long (f_mso M T)]) (u1 := 0) (v1 := 0) (u2 := 0) (v2 := 0) (r_mso hn hi) (⟨_, _, _, _, rfl, rfl⟩) oX12_setsOf q_1296 q_1298 q_89 rfl (by omega) (by decide) rfl (Nat.le_of_ble_eq_true rfl) 17 rfl dX12_sets_14 rfl ?_
  refine a_lstore_n (lv' := [(3, .long (f_mso M T)), (0, .ref (g_ad G 38)), (1, .int (nI j)), (2, .int 2)]) 18 rfl dX12_sets_17 rfl (by decide) rfl ?_
  refine a_iload_n 3 19 rfl dX12_sets_18 rfl rfl ?_
  refine a_tableIn (off := 42) 61 dX12_sets_19 (by decide) (by decide) (by decide) (by decide) ?_
  refine a_aload_n 1 62 rfl dX12_sets_61 rfl rfl ?_
  refine a_lload_n 0 63 rfl dX12_sets_62 rfl rfl ?_
  refine a_iconst (x := 0) 64 rfl dX12_sets_63 (by decide) ?_
  refine a_callV (as := [.long (f_mso M T), .int 0]) (rest := []) (st2 := [.long (f_shM false (M.1 0) (f_mso M T) (2 ^ M.1 0))]) (u1 := 0) (v1 := 0) (u2 := 0) (v2 := 0) (r_shadow0 hn hn0) (⟨_, _, _, _, rfl, rfl⟩) oX12_shadow q_1318 q_1320 q_93 rfl (by omega) (by decide) rfl (Nat.le_of_ble_eq_true rfl) 67 rfl dX12_sets_64 rfl ?_
  exact a_lreturn rfl ((by first | rfl | rw [ht])) (rfl) dX12_sets_67

theorem r_setsM3 (hn : M.1 0 ≤ 6) (hn0 : 0 < M.1 0) (hi : f_mis M j T) : g_Run G mX12_sets 6 0 0 [.ref (g_ad G 38), .int (nI j), .int 3] (g_hp G C (g_hm G M ++ ob)) (some (.long (f_shM true (M.1 0) (f_mso M T) (2 ^ M.1 0)))) (g_hp G C (g_hm G M ++ ob)) := by
  have hin : vp_in (nI j) 8 := vp_in_nI (Nat.lt_of_lt_of_le hi.1 hi.2.1) (by omega)
  have hj : j < 8 := Nat.lt_of_lt_of_le hi.1 hi.2.1
  have ht : M.2.2.2.2 0 (nI j).toNatClampNeg = T.2.2 := by rw [g_cl (by omega)]; exact hi.2.2.2.2.1
  refine g_Run.of (lv := [(0, .ref (g_ad G 38)), (1, .int (nI j)), (2, .int 3)]) (by decide) (Nat.le_of_ble_eq_true rfl) rfl ?_
  refine a_aload_n 0 1 rfl dX12_sets_0 rfl rfl ?_
  refine a_iload_n 1 2 rfl dX12_sets_1 rfl rfl ?_
  refine a_callV (as := [.int (nI j)]) (rest := []) (st2 := [.int 1]) (u1 := 0) (v1 := 0) (u2 := 0) (v2 := 0) (r_isFam_in hi.2.1 hi.1) (⟨_, _, _, _, rfl, rfl⟩) oX12_isFamily q_1273 q_1275 q_87 rfl (by omega) (by decide) rfl (Nat.le_of_ble_eq_true rfl) 5 rfl dX12_sets_2 rfl ?_
  refine a_if_ne 12 8 rfl dX12_sets_5 (by decide) (fun _ => ?_) (fun hc => absurd hc ((by decide)))
  refine a_aload_n 0 13 rfl dX12_sets_12 rfl rfl ?_
  refine a_iload_n 1 14 rfl dX12_sets_13 rfl rfl ?_
  refine a_callV (as := [.int (nI j)]) (rest := []) (st2 := [.long (f_mso M T)]) (u1 := 0) (v1 := 0) (u2 := 0) (v2 := 0) (r_mso hn hi) (⟨_, _, _, _, rfl, rfl⟩) oX12_setsOf q_1296 q_1298 q_89 rfl (by omega) (by decide) rfl (Nat.le_of_ble_eq_true rfl) 17 rfl dX12_sets_14 rfl ?_
  refine a_lstore_n (lv' := [(3, .long (f_mso M T)), (0, .ref (g_ad G 38)), (1, .int (nI j)), (2, .int 3)]) 18 rfl dX12_sets_17 rfl (by decide) rfl ?_
  refine a_iload_n 3 19 rfl dX12_sets_18 rfl rfl ?_
  refine a_tableIn (off := 49) 68 dX12_sets_19 (by decide) (by decide) (by decide) (by decide) ?_
  refine a_aload_n 1 69 rfl dX12_sets_68 rfl rfl ?_
  refine a_lload_n 0 70 rfl dX12_sets_69 rfl rfl ?_
  refine a_iconst (x := 1) 71 rfl dX12_sets_70 (by decide) ?_
  refine a_callV (as := [.long (f_mso M T), .int 1]) (rest := []) (st2 := [.long (f_shM true (M.1 0) (f_mso M T) (2 ^ M.1 0))]) (u1 := 0) (v1 := 0) (u2 := 0) (v2 := 0) (r_shadow1 hn hn0) (⟨_, _, _, _, rfl, rfl⟩) oX12_shadow q_1318 q_1320 q_93 rfl (by omega) (by decide) rfl (Nat.le_of_ble_eq_true rfl) 74 rfl dX12_sets_71 rfl ?_
  exact a_lreturn rfl ((by first | rfl | rw [ht])) (rfl) dX12_sets_74

theorem r_setsM4 (hn : M.1 0 ≤ 6) (hn0 : 0 < M.1 0) (hi : f_mis M j T) : g_Run G mX12_sets 6 0 0 [.ref (g_ad G 38), .int (nI j), .int 4] (g_hp G C (g_hm G M ++ ob)) (some (.long (f_boM (M.1 0) (f_mso M T)))) (g_hp G C (g_hm G M ++ ob)) := by
  have hin : vp_in (nI j) 8 := vp_in_nI (Nat.lt_of_lt_of_le hi.1 hi.2.1) (by omega)
  have hj : j < 8 := Nat.lt_of_lt_of_le hi.1 hi.2.1
  have ht : M.2.2.2.2 0 (nI j).toNatClampNeg = T.2.2 := by rw [g_cl (by omega)]; exact hi.2.2.2.2.1
  refine g_Run.of (lv := [(0, .ref (g_ad G 38)), (1, .int (nI j)), (2, .int 4)]) (by decide) (Nat.le_of_ble_eq_true rfl) rfl ?_
  refine a_aload_n 0 1 rfl dX12_sets_0 rfl rfl ?_
  refine a_iload_n 1 2 rfl dX12_sets_1 rfl rfl ?_
  refine a_callV (as := [.int (nI j)]) (rest := []) (st2 := [.int 1]) (u1 := 0) (v1 := 0) (u2 := 0) (v2 := 0) (r_isFam_in hi.2.1 hi.1) (⟨_, _, _, _, rfl, rfl⟩) oX12_isFamily q_1273 q_1275 q_87 rfl (by omega) (by decide) rfl (Nat.le_of_ble_eq_true rfl) 5 rfl dX12_sets_2 rfl ?_
  refine a_if_ne 12 8 rfl dX12_sets_5 (by decide) (fun _ => ?_) (fun hc => absurd hc ((by decide)))
  refine a_aload_n 0 13 rfl dX12_sets_12 rfl rfl ?_
  refine a_iload_n 1 14 rfl dX12_sets_13 rfl rfl ?_
  refine a_callV (as := [.int (nI j)]) (rest := []) (st2 := [.long (f_mso M T)]) (u1 := 0) (v1 := 0) (u2 := 0) (v2 := 0) (r_mso hn hi) (⟨_, _, _, _, rfl, rfl⟩) oX12_setsOf q_1296 q_1298 q_89 rfl (by omega) (by decide) rfl (Nat.le_of_ble_eq_true rfl) 17 rfl dX12_sets_14 rfl ?_
  refine a_lstore_n (lv' := [(3, .long (f_mso M T)), (0, .ref (g_ad G 38)), (1, .int (nI j)), (2, .int 4)]) 18 rfl dX12_sets_17 rfl (by decide) rfl ?_
  refine a_iload_n 3 19 rfl dX12_sets_18 rfl rfl ?_
  refine a_tableIn (off := 56) 75 dX12_sets_19 (by decide) (by decide) (by decide) (by decide) ?_
  refine a_aload_n 1 76 rfl dX12_sets_75 rfl rfl ?_
  refine a_lload_n 0 77 rfl dX12_sets_76 rfl rfl ?_
  refine a_callV (as := [.long (f_mso M T)]) (rest := []) (st2 := [.long (f_boM (M.1 0) (f_mso M T))]) (u1 := 0) (v1 := 0) (u2 := 0) (v2 := 0) (r_boM hn hn0) (⟨_, _, _, _, rfl, rfl⟩) oX12_borderOf q_1322 q_1324 q_94 rfl (by omega) (by decide) rfl (Nat.le_of_ble_eq_true rfl) 80 rfl dX12_sets_77 rfl ?_
  exact a_lreturn rfl ((by first | rfl | rw [ht])) (rfl) dX12_sets_80

theorem r_setsM_bad (hn : M.1 0 ≤ 6) (hi : f_mis M j T) (hy : y2.toInt < 0 ∨ 4 < y2.toInt) : g_Run G mX12_sets 6 0 0 [.ref (g_ad G 38), .int (nI j), .int y2] (g_hp G C (g_hm G M ++ ob)) (some (.long (-9223372036854775808))) (g_hp G C (g_hm G M ++ ob)) := by
  refine g_Run.of (lv := [(0, .ref (g_ad G 38)), (1, .int (nI j)), (2, .int y2)]) (by decide) (Nat.le_of_ble_eq_true rfl) rfl ?_
  refine a_aload_n 0 1 rfl dX12_sets_0 rfl rfl ?_
  refine a_iload_n 1 2 rfl dX12_sets_1 rfl rfl ?_
  refine a_callV (as := [.int (nI j)]) (rest := []) (st2 := [.int 1]) (u1 := 0) (v1 := 0) (u2 := 0) (v2 := 0) (r_isFam_in hi.2.1 hi.1) (⟨_, _, _, _, rfl, rfl⟩) oX12_isFamily q_1273 q_1275 q_87 rfl (by omega) (by decide) rfl (Nat.le_of_ble_eq_true rfl) 5 rfl dX12_sets_2 rfl ?_
  refine a_if_ne 12 8 rfl dX12_sets_5 (by decide) (fun _ => ?_) (fun hc => absurd hc ((by decide)))
  refine a_aload_n 0 13 rfl dX12_sets_12 rfl rfl ?_
  refine a_iload_n 1 14 rfl dX12_sets_13 rfl rfl ?_
  refine a_callV (as := [.int (nI j)]) (rest := []) (st2 := [.long (f_mso M T)]) (u1 := 0) (v1 := 0) (u2 := 0) (v2 := 0) (r_mso hn hi) (⟨_, _, _, _, rfl, rfl⟩) oX12_setsOf q_1296 q_1298 q_89 rfl (by omega) (by decide) rfl (Nat.le_of_ble_eq_true rfl) 17 rfl dX12_sets_14 rfl ?_
  refine a_lstore_n (lv' := [(3, .long (f_mso M T)), (0, .ref (g_ad G 38)), (1, .int (nI j)), (2, .int y2)]) 18 rfl dX12_sets_17 rfl (by decide) rfl ?_
  refine a_iload_n 3 19 rfl dX12_sets_18 rfl rfl ?_
  refine a_tableOut 81 dX12_sets_19 (hy) (by decide) ?_
  refine a_ldc2 q_1295 84 rfl dX12_sets_81 ?_
  exact a_lreturn rfl (rfl) (rfl) dX12_sets_84
theorem r_ofM_out (hm : M.1 1 ≤ 8) (hi : ¬ vp_in y (M.1 1)) : g_Run G mX12_of 6 0 0 [.ref (g_ad G 38), .int y, .int y2] (g_hp G C (g_hm G M ++ ob)) (some (.int (-1))) (g_hp G C (g_hm G M ++ ob)) := by
  refine g_Run.of (lv := [(0, .ref (g_ad G 38)), (1, .int y), (2, .int y2)]) (by decide) (Nat.le_of_ble_eq_true rfl) rfl ?_
  refine a_aload_n 0 1 rfl dX12_of_0 rfl rfl ?_
  refine a_iload_n 1 2 rfl dX12_of_1 rfl rfl ?_
  refine a_callV (as := [.int y]) (rest := []) (st2 := [.int 0]) (u1 := 0) (v1 := 0) (u2 := 0) (v2 := 0) (r_isFam_out hm hi) (⟨_, _, _, _, rfl, rfl⟩) oX12_isFamily q_1273 q_1275 q_87 rfl (by omega) (by decide) rfl (Nat.le_of_ble_eq_true rfl) 5 rfl dX12_of_2 rfl ?_
  refine a_if_ne 10 8 rfl dX12_of_5 (by decide) (fun hc => absurd (rfl) hc) (fun _ => ?_)
  refine a_iconst (x := (-1)) 9 rfl dX12_of_8 (by decide) ?_
  exact a_ireturn .int rfl rfl (rfl) (rfl) dX12_of_9
theorem r_ofM0 (hn : M.1 0 ≤ 6) (hn0 : 0 < M.1 0) (hi : f_mis M j T) : g_Run G mX12_of 6 0 0 [.ref (g_ad G 38), .int (nI j), .int 0] (g_hp G C (g_hm G M ++ ob)) (some (.int (nI T.1))) (g_hp G C (g_hm G M ++ ob)) := by
  have hin : vp_in (nI j) 8 := vp_in_nI (Nat.lt_of_lt_of_le hi.1 hi.2.1) (by omega)
  have hj : j < 8 := Nat.lt_of_lt_of_le hi.1 hi.2.1
  have ht0 : M.2.2.2.1 0 (nI j).toNatClampNeg = nI T.1 := by rw [g_cl (by omega)]; exact hi.2.2.1
  have ht1 : M.2.2.2.1 1 (nI j).toNatClampNeg = nI T.2.1 := by rw [g_cl (by omega)]; exact hi.2.2.2.1
  refine g_Run.of (lv := [(0, .ref (g_ad G 38)), (1, .int (nI j)), (2, .int 0)]) (by decide) (Nat.le_of_ble_eq_true rfl) rfl ?_
  refine a_aload_n 0 1 rfl dX12_of_0 rfl rfl ?_
  refine a_iload_n 1 2 rfl dX12_of_1 rfl rfl ?_
  refine a_callV (as := [.int (nI j)]) (rest := []) (st2 := [.int 1]) (u1 := 0) (v1 := 0) (u2 := 0) (v2 := 0) (r_isFam_in hi.2.1 hi.1) (⟨_, _, _, _, rfl, rfl⟩) oX12_isFamily q_1273 q_1275 q_87 rfl (by omega) (by decide) rfl (Nat.le_of_ble_eq_true rfl) 5 rfl dX12_of_2 rfl ?_
  refine a_if_ne 10 8 rfl dX12_of_5 (by decide) (fun _ => ?_) (fun hc => absurd hc ((by decide)))
  refine a_aload_n 0 11 rfl dX12_of_10 rfl rfl ?_
  refine a_iload_n 1 12 rfl dX12_of_11 rfl rfl ?_
  refine a_callV (as := [.int (nI j)]) (rest := []) (st2 := [.long (f_mso M T)]) (u1 := 0) (v1 := 0) (u2 := 0) (v2 := 0) (r_mso hn hi) (⟨_, _, _, _, rfl, rfl⟩) oX12_setsOf q_1296 q_1298 q_89 rfl (by omega) (by decide) rfl (Nat.le_of_ble_eq_true rfl) 15 rfl dX12_of_12 rfl ?_
  refine a_lstore_n (lv' := [(3, .long (f_mso M T)), (0, .ref (g_ad G 38)), (1, .int (nI j)), (2, .int 0)]) 16 rfl dX12_of_15 rfl (by decide) rfl ?_
  refine a_iload_n 3 17 rfl dX12_of_16 rfl rfl ?_
  refine a_tableIn (off := 43) 60 dX12_of_17 (by decide) (by decide) (by decide) (by decide) ?_
  refine a_aload_n 1 61 rfl dX12_of_60 rfl rfl ?_
  refine a_get 4 cl_11 f_RX12_15_11 (by decide) (rfl) rfl 64 rfl dX12_of_61 ?_
  refine a_iload_n 2 65 rfl dX12_of_64 rfl rfl ?_
  refine a_iald (rfl) (hin) 66 rfl dX12_of_65 ?_
  exact a_ireturn .int rfl rfl ((by first | rfl | rw [ht0] | rw [ht1])) (rfl) dX12_of_66

theorem r_ofM1 (hn : M.1 0 ≤ 6) (hn0 : 0 < M.1 0) (hi : f_mis M j T) : g_Run G mX12_of 6 0 0 [.ref (g_ad G 38), .int (nI j), .int 1] (g_hp G C (g_hm G M ++ ob)) (some (.int (nI T.2.1))) (g_hp G C (g_hm G M ++ ob)) := by
  have hin : vp_in (nI j) 8 := vp_in_nI (Nat.lt_of_lt_of_le hi.1 hi.2.1) (by omega)
  have hj : j < 8 := Nat.lt_of_lt_of_le hi.1 hi.2.1
  have ht0 : M.2.2.2.1 0 (nI j).toNatClampNeg = nI T.1 := by rw [g_cl (by omega)]; exact hi.2.2.1
  have ht1 : M.2.2.2.1 1 (nI j).toNatClampNeg = nI T.2.1 := by rw [g_cl (by omega)]; exact hi.2.2.2.1
  refine g_Run.of (lv := [(0, .ref (g_ad G 38)), (1, .int (nI j)), (2, .int 1)]) (by decide) (Nat.le_of_ble_eq_true rfl) rfl ?_
  refine a_aload_n 0 1 rfl dX12_of_0 rfl rfl ?_
  refine a_iload_n 1 2 rfl dX12_of_1 rfl rfl ?_
  refine a_callV (as := [.int (nI j)]) (rest := []) (st2 := [.int 1]) (u1 := 0) (v1 := 0) (u2 := 0) (v2 := 0) (r_isFam_in hi.2.1 hi.1) (⟨_, _, _, _, rfl, rfl⟩) oX12_isFamily q_1273 q_1275 q_87 rfl (by omega) (by decide) rfl (Nat.le_of_ble_eq_true rfl) 5 rfl dX12_of_2 rfl ?_
  refine a_if_ne 10 8 rfl dX12_of_5 (by decide) (fun _ => ?_) (fun hc => absurd hc ((by decide)))
  refine a_aload_n 0 11 rfl dX12_of_10 rfl rfl ?_
  refine a_iload_n 1 12 rfl dX12_of_11 rfl rfl ?_
  refine a_callV (as := [.int (nI j)]) (rest := []) (st2 := [.long (f_mso M T)]) (u1 := 0) (v1 := 0) (u2 := 0) (v2 := 0) (r_mso hn hi) (⟨_, _, _, _, rfl, rfl⟩) oX12_setsOf q_1296 q_1298 q_89 rfl (by omega) (by decide) rfl (Nat.le_of_ble_eq_true rfl) 15 rfl dX12_of_12 rfl ?_
  refine a_lstore_n (lv' := [(3, .long (f_mso M T)), (0, .ref (g_ad G 38)), (1, .int (nI j)), (2, .int 1)]) 16 rfl dX12_of_15 rfl (by decide) rfl ?_
  refine a_iload_n 3 17 rfl dX12_of_16 rfl rfl ?_
  refine a_tableIn (off := 50) 67 dX12_of_17 (by decide) (by decide) (by decide) (by decide) ?_
  refine a_aload_n 1 68 rfl dX12_of_67 rfl rfl ?_
  refine a_get 5 cl_11 f_RX12_19_11 (by decide) (rfl) rfl 71 rfl dX12_of_68 ?_
  refine a_iload_n 2 72 rfl dX12_of_71 rfl rfl ?_
  refine a_iald (rfl) (hin) 73 rfl dX12_of_72 ?_
  exact a_ireturn .int rfl rfl ((by first | rfl | rw [ht0] | rw [ht1])) (rfl) dX12_of_73

theorem r_ofM2 (hn : M.1 0 ≤ 6) (hn0 : 0 < M.1 0) (hi : f_mis M j T) : g_Run G mX12_of 6 0 0 [.ref (g_ad G 38), .int (nI j), .int 2] (g_hp G C (g_hm G M ++ ob)) (some (.int (nI (f_pop (f_mso M T))))) (g_hp G C (g_hm G M ++ ob)) := by
  have hin : vp_in (nI j) 8 := vp_in_nI (Nat.lt_of_lt_of_le hi.1 hi.2.1) (by omega)
  have hj : j < 8 := Nat.lt_of_lt_of_le hi.1 hi.2.1
  have ht0 : M.2.2.2.1 0 (nI j).toNatClampNeg = nI T.1 := by rw [g_cl (by omega)]; exact hi.2.2.1
  have ht1 : M.2.2.2.1 1 (nI j).toNatClampNeg = nI T.2.1 := by rw [g_cl (by omega)]; exact hi.2.2.2.1
  refine g_Run.of (lv := [(0, .ref (g_ad G 38)), (1, .int (nI j)), (2, .int 2)]) (by decide) (Nat.le_of_ble_eq_true rfl) rfl ?_
  skip
  refine a_aload_n 0 1 rfl dX12_of_0 rfl rfl ?_
  refine a_iload_n 1 2 rfl dX12_of_1 rfl rfl ?_
  refine a_callV (as := [.int (nI j)]) (rest := []) (st2 := [.int 1]) (u1 := 0) (v1 := 0) (u2 := 0) (v2 := 0) (r_isFam_in hi.2.1 hi.1) (⟨_, _, _, _, rfl, rfl⟩) oX12_isFamily q_1273 q_1275 q_87 rfl (by omega) (by decide) rfl (Nat.le_of_ble_eq_true rfl) 5 rfl dX12_of_2 rfl ?_
  refine a_if_ne 10 8 rfl dX12_of_5 (by decide) (fun _ => ?_) (fun hc => absurd hc ((by decide)))
  refine a_aload_n 0 11 rfl dX12_of_10 rfl rfl ?_
  refine a_iload_n 1 12 rfl dX12_of_11 rfl rfl ?_
  refine a_callV (as := [.int (nI j)]) (rest := []) (st2 := [.long (f_mso M T)]) (u1 := 0) (v1 := 0) (u2 := 0) (v2 := 0) (r_mso hn hi) (⟨_, _, _, _, rfl, rfl⟩) oX12_setsOf q_1296 q_1298 q_89 rfl (by omega) (by decide) rfl (Nat.le_of_ble_eq_true rfl) 15 rfl dX12_of_12 rfl ?_
  refine a_lstore_n (lv' := [(3, .long (f_mso M T)), (0, .ref (g_ad G 38)), (1, .int (nI j)), (2, .int 2)]) 16 rfl dX12_of_15 rfl (by decide) rfl ?_
  refine a_iload_n 3 17 rfl dX12_of_16 rfl rfl ?_
  refine a_tableIn (off := 57) 74 dX12_of_17 (by decide) (by decide) (by decide) (by decide) ?_
  refine a_lload_n 0 75 rfl dX12_of_74 rfl rfl ?_
  refine a_callS (as := [.long (f_mso M T)]) (rest := []) (st2 := [.int (nI (f_pop (f_mso M T)))]) (u1 := 0) (v1 := 0) (u2 := 0) (v2 := 0) (r_many) oX12_many q_1311 q_1312 rfl (by omega) (by decide) rfl (Nat.le_of_ble_eq_true rfl) 78 rfl dX12_of_75 rfl ?_
  exact a_ireturn .int rfl rfl ((by first | rfl | rw [ht0] | rw [ht1])) (rfl) dX12_of_78

theorem r_ofM3 (hn : M.1 0 ≤ 6) (hn0 : 0 < M.1 0) (hi : f_mis M j T) : g_Run G mX12_of 6 0 0 [.ref (g_ad G 38), .int (nI j), .int 3] (g_hp G C (g_hm G M ++ ob)) (some (.int (nI (f_pop (f_shM false (M.1 0) (f_mso M T) (2 ^ M.1 0)))))) (g_hp G C (g_hm G M ++ ob)) := by
  have hin : vp_in (nI j) 8 := vp_in_nI (Nat.lt_of_lt_of_le hi.1 hi.2.1) (by omega)
  have hj : j < 8 := Nat.lt_of_lt_of_le hi.1 hi.2.1
  have ht0 : M.2.2.2.1 0 (nI j).toNatClampNeg = nI T.1 := by rw [g_cl (by omega)]; exact hi.2.2.1
  have ht1 : M.2.2.2.1 1 (nI j).toNatClampNeg = nI T.2.1 := by rw [g_cl (by omega)]; exact hi.2.2.2.1
  refine g_Run.of (lv := [(0, .ref (g_ad G 38)), (1, .int (nI j)), (2, .int 3)]) (by decide) (Nat.le_of_ble_eq_true rfl) rfl ?_
  refine a_aload_n 0 1 rfl dX12_of_0 rfl rfl ?_
  refine a_iload_n 1 2 rfl dX12_of_1 rfl rfl ?_
  refine a_callV (as := [.int (nI j)]) (rest := []) (st2 := [.int 1]) (u1 := 0) (v1 := 0) (u2 := 0) (v2 := 0) (r_isFam_in hi.2.1 hi.1) (⟨_, _, _, _, rfl, rfl⟩) oX12_isFamily q_1273 q_1275 q_87 rfl (by omega) (by decide) rfl (Nat.le_of_ble_eq_true rfl) 5 rfl dX12_of_2 rfl ?_
  refine a_if_ne 10 8 rfl dX12_of_5 (by decide) (fun _ => ?_) (fun hc => absurd hc ((by decide)))
  refine a_aload_n 0 11 rfl dX12_of_10 rfl rfl ?_
  refine a_iload_n 1 12 rfl dX12_of_11 rfl rfl ?_
  refine a_callV (as := [.int (nI j)]) (rest := []) (st2 := [.long (f_mso M T)]) (u1 := 0) (v1 := 0) (u2 := 0) (v2 := 0) (r_mso hn hi) (⟨_, _, _, _, rfl, rfl⟩) oX12_setsOf q_1296 q_1298 q_89 rfl (by omega) (by decide) rfl (Nat.le_of_ble_eq_true rfl) 15 rfl dX12_of_12 rfl ?_
  refine a_lstore_n (lv' := [(3, .long (f_mso M T)), (0, .ref (g_ad G 38)), (1, .int (nI j)), (2, .int 3)]) 16 rfl dX12_of_15 rfl (by decide) rfl ?_
  refine a_iload_n 3 17 rfl dX12_of_16 rfl rfl ?_
  refine a_tableIn (off := 62) 79 dX12_of_17 (by decide) (by decide) (by decide) (by decide) ?_
  refine a_aload_n 1 80 rfl dX12_of_79 rfl rfl ?_
  refine a_lload_n 0 81 rfl dX12_of_80 rfl rfl ?_
  refine a_iconst (x := 0) 82 rfl dX12_of_81 (by decide) ?_
  refine a_callV (as := [.long (f_mso M T), .int 0]) (rest := []) (st2 := [.long (f_shM false (M.1 0) (f_mso M T) (2 ^ M.1 0))]) (u1 := 0) (v1 := 0) (u2 := 0) (v2 := 0) (r_shadow0 hn hn0) (⟨_, _, _, _, rfl, rfl⟩) oX12_shadow q_1318 q_1320 q_93 rfl (by omega) (by decide) rfl (Nat.le_of_ble_eq_true rfl) 85 rfl dX12_of_82 rfl ?_
  refine a_callS (as := [.long (f_shM false (M.1 0) (f_mso M T) (2 ^ M.1 0))]) (rest := []) (st2 := [.int (nI (f_pop (f_shM false (M.1 0) (f_mso M T) (2 ^ M.1 0))))]) (u1 := 0) (v1 := 0) (u2 := 0) (v2 := 0) (r_many) oX12_many q_1311 q_1312 rfl (by omega) (by decide) rfl (Nat.le_of_ble_eq_true rfl) 88 rfl dX12_of_85 rfl ?_
  exact a_ireturn .int rfl rfl ((by first | rfl | rw [ht0] | rw [ht1])) (rfl) dX12_of_88

theorem r_ofM4 (hn : M.1 0 ≤ 6) (hn0 : 0 < M.1 0) (hi : f_mis M j T) : g_Run G mX12_of 6 0 0 [.ref (g_ad G 38), .int (nI j), .int 4] (g_hp G C (g_hm G M ++ ob)) (some (.int (nI (f_pop (f_shM true (M.1 0) (f_mso M T) (2 ^ M.1 0)))))) (g_hp G C (g_hm G M ++ ob)) := by
  have hin : vp_in (nI j) 8 := vp_in_nI (Nat.lt_of_lt_of_le hi.1 hi.2.1) (by omega)
  have hj : j < 8 := Nat.lt_of_lt_of_le hi.1 hi.2.1
  have ht0 : M.2.2.2.1 0 (nI j).toNatClampNeg = nI T.1 := by rw [g_cl (by omega)]; exact hi.2.2.1
  have ht1 : M.2.2.2.1 1 (nI j).toNatClampNeg = nI T.2.1 := by rw [g_cl (by omega)]; exact hi.2.2.2.1
  refine g_Run.of (lv := [(0, .ref (g_ad G 38)), (1, .int (nI j)), (2, .int 4)]) (by decide) (Nat.le_of_ble_eq_true rfl) rfl ?_
  refine a_aload_n 0 1 rfl dX12_of_0 rfl rfl ?_
  refine a_iload_n 1 2 rfl dX12_of_1 rfl rfl ?_
  refine a_callV (as := [.int (nI j)]) (rest := []) (st2 := [.int 1]) (u1 := 0) (v1 := 0) (u2 := 0) (v2 := 0) (r_isFam_in hi.2.1 hi.1) (⟨_, _, _, _, rfl, rfl⟩) oX12_isFamily q_1273 q_1275 q_87 rfl (by omega) (by decide) rfl (Nat.le_of_ble_eq_true rfl) 5 rfl dX12_of_2 rfl ?_
  refine a_if_ne 10 8 rfl dX12_of_5 (by decide) (fun _ => ?_) (fun hc => absurd hc ((by decide)))
  refine a_aload_n 0 11 rfl dX12_of_10 rfl rfl ?_
  refine a_iload_n 1 12 rfl dX12_of_11 rfl rfl ?_
  refine a_callV (as := [.int (nI j)]) (rest := []) (st2 := [.long (f_mso M T)]) (u1 := 0) (v1 := 0) (u2 := 0) (v2 := 0) (r_mso hn hi) (⟨_, _, _, _, rfl, rfl⟩) oX12_setsOf q_1296 q_1298 q_89 rfl (by omega) (by decide) rfl (Nat.le_of_ble_eq_true rfl) 15 rfl dX12_of_12 rfl ?_
  refine a_lstore_n (lv' := [(3, .long (f_mso M T)), (0, .ref (g_ad G 38)), (1, .int (nI j)), (2, .int 4)]) 16 rfl dX12_of_15 rfl (by decide) rfl ?_
  refine a_iload_n 3 17 rfl dX12_of_16 rfl rfl ?_
  refine a_tableIn (off := 72) 89 dX12_of_17 (by decide) (by decide) (by decide) (by decide) ?_
  refine a_aload_n 1 90 rfl dX12_of_89 rfl rfl ?_
  refine a_lload_n 0 91 rfl dX12_of_90 rfl rfl ?_
  refine a_iconst (x := 1) 92 rfl dX12_of_91 (by decide) ?_
  refine a_callV (as := [.long (f_mso M T), .int 1]) (rest := []) (st2 := [.long (f_shM true (M.1 0) (f_mso M T) (2 ^ M.1 0))]) (u1 := 0) (v1 := 0) (u2 := 0) (v2 := 0) (r_shadow1 hn hn0) (⟨_, _, _, _, rfl, rfl⟩) oX12_shadow q_1318 q_1320 q_93 rfl (by omega) (by decide) rfl (Nat.le_of_ble_eq_true rfl) 95 rfl dX12_of_92 rfl ?_
  refine a_callS (as := [.long (f_shM true (M.1 0) (f_mso M T) (2 ^ M.1 0))]) (rest := []) (st2 := [.int (nI (f_pop (f_shM true (M.1 0) (f_mso M T) (2 ^ M.1 0))))]) (u1 := 0) (v1 := 0) (u2 := 0) (v2 := 0) (r_many) oX12_many q_1311 q_1312 rfl (by omega) (by decide) rfl (Nat.le_of_ble_eq_true rfl) 98 rfl dX12_of_95 rfl ?_
  exact a_ireturn .int rfl rfl ((by first | rfl | rw [ht0] | rw [ht1])) (rfl) dX12_of_98

theorem r_ofM5 (hn : M.1 0 ≤ 6) (hn0 : 0 < M.1 0) (hi : f_mis M j T) : g_Run G mX12_of 6 0 0 [.ref (g_ad G 38), .int (nI j), .int 5] (g_hp G C (g_hm G M ++ ob)) (some (.int (nI (f_pop (f_boM (M.1 0) (f_mso M T)))))) (g_hp G C (g_hm G M ++ ob)) := by
  have hin : vp_in (nI j) 8 := vp_in_nI (Nat.lt_of_lt_of_le hi.1 hi.2.1) (by omega)
  have hj : j < 8 := Nat.lt_of_lt_of_le hi.1 hi.2.1
  have ht0 : M.2.2.2.1 0 (nI j).toNatClampNeg = nI T.1 := by rw [g_cl (by omega)]; exact hi.2.2.1
  have ht1 : M.2.2.2.1 1 (nI j).toNatClampNeg = nI T.2.1 := by rw [g_cl (by omega)]; exact hi.2.2.2.1
  refine g_Run.of (lv := [(0, .ref (g_ad G 38)), (1, .int (nI j)), (2, .int 5)]) (by decide) (Nat.le_of_ble_eq_true rfl) rfl ?_
  refine a_aload_n 0 1 rfl dX12_of_0 rfl rfl ?_
  refine a_iload_n 1 2 rfl dX12_of_1 rfl rfl ?_
  refine a_callV (as := [.int (nI j)]) (rest := []) (st2 := [.int 1]) (u1 := 0) (v1 := 0) (u2 := 0) (v2 := 0) (r_isFam_in hi.2.1 hi.1) (⟨_, _, _, _, rfl, rfl⟩) oX12_isFamily q_1273 q_1275 q_87 rfl (by omega) (by decide) rfl (Nat.le_of_ble_eq_true rfl) 5 rfl dX12_of_2 rfl ?_
  refine a_if_ne 10 8 rfl dX12_of_5 (by decide) (fun _ => ?_) (fun hc => absurd hc ((by decide)))
  refine a_aload_n 0 11 rfl dX12_of_10 rfl rfl ?_
  refine a_iload_n 1 12 rfl dX12_of_11 rfl rfl ?_
  refine a_callV (as := [.int (nI j)]) (rest := []) (st2 := [.long (f_mso M T)]) (u1 := 0) (v1 := 0) (u2 := 0) (v2 := 0) (r_mso hn hi) (⟨_, _, _, _, rfl, rfl⟩) oX12_setsOf q_1296 q_1298 q_89 rfl (by omega) (by decide) rfl (Nat.le_of_ble_eq_true rfl) 15 rfl dX12_of_12 rfl ?_
  refine a_lstore_n (lv' := [(3, .long (f_mso M T)), (0, .ref (g_ad G 38)), (1, .int (nI j)), (2, .int 5)]) 16 rfl dX12_of_15 rfl (by decide) rfl ?_
  refine a_iload_n 3 17 rfl dX12_of_16 rfl rfl ?_
  refine a_tableIn (off := 82) 99 dX12_of_17 (by decide) (by decide) (by decide) (by decide) ?_
  refine a_aload_n 1 100 rfl dX12_of_99 rfl rfl ?_
  refine a_lload_n 0 101 rfl dX12_of_100 rfl rfl ?_
  refine a_callV (as := [.long (f_mso M T)]) (rest := []) (st2 := [.long (f_boM (M.1 0) (f_mso M T))]) (u1 := 0) (v1 := 0) (u2 := 0) (v2 := 0) (r_boM hn hn0) (⟨_, _, _, _, rfl, rfl⟩) oX12_borderOf q_1322 q_1324 q_94 rfl (by omega) (by decide) rfl (Nat.le_of_ble_eq_true rfl) 104 rfl dX12_of_101 rfl ?_
  refine a_callS (as := [.long (f_boM (M.1 0) (f_mso M T))]) (rest := []) (st2 := [.int (nI (f_pop (f_boM (M.1 0) (f_mso M T))))]) (u1 := 0) (v1 := 0) (u2 := 0) (v2 := 0) (r_many) oX12_many q_1311 q_1312 rfl (by omega) (by decide) rfl (Nat.le_of_ble_eq_true rfl) 107 rfl dX12_of_104 rfl ?_
  exact a_ireturn .int rfl rfl ((by first | rfl | rw [ht0] | rw [ht1])) (rfl) dX12_of_107

theorem r_ofM6 (hn : M.1 0 ≤ 6) (hn0 : 0 < M.1 0) (hi : f_mis M j T) : g_Run G mX12_of 6 0 0 [.ref (g_ad G 38), .int (nI j), .int 6] (g_hp G C (g_hm G M ++ ob)) (some (.int (nI (f_edM (M.1 0) (f_mso M T) (2 ^ M.1 0))))) (g_hp G C (g_hm G M ++ ob)) := by
  have hin : vp_in (nI j) 8 := vp_in_nI (Nat.lt_of_lt_of_le hi.1 hi.2.1) (by omega)
  have hj : j < 8 := Nat.lt_of_lt_of_le hi.1 hi.2.1
  have ht0 : M.2.2.2.1 0 (nI j).toNatClampNeg = nI T.1 := by rw [g_cl (by omega)]; exact hi.2.2.1
  have ht1 : M.2.2.2.1 1 (nI j).toNatClampNeg = nI T.2.1 := by rw [g_cl (by omega)]; exact hi.2.2.2.1
  refine g_Run.of (lv := [(0, .ref (g_ad G 38)), (1, .int (nI j)), (2, .int 6)]) (by decide) (Nat.le_of_ble_eq_true rfl) rfl ?_
  refine a_aload_n 0 1 rfl dX12_of_0 rfl rfl ?_
  refine a_iload_n 1 2 rfl dX12_of_1 rfl rfl ?_
  refine a_callV (as := [.int (nI j)]) (rest := []) (st2 := [.int 1]) (u1 := 0) (v1 := 0) (u2 := 0) (v2 := 0) (r_isFam_in hi.2.1 hi.1) (⟨_, _, _, _, rfl, rfl⟩) oX12_isFamily q_1273 q_1275 q_87 rfl (by omega) (by decide) rfl (Nat.le_of_ble_eq_true rfl) 5 rfl dX12_of_2 rfl ?_
  refine a_if_ne 10 8 rfl dX12_of_5 (by decide) (fun _ => ?_) (fun hc => absurd hc ((by decide)))
  refine a_aload_n 0 11 rfl dX12_of_10 rfl rfl ?_
  refine a_iload_n 1 12 rfl dX12_of_11 rfl rfl ?_
  refine a_callV (as := [.int (nI j)]) (rest := []) (st2 := [.long (f_mso M T)]) (u1 := 0) (v1 := 0) (u2 := 0) (v2 := 0) (r_mso hn hi) (⟨_, _, _, _, rfl, rfl⟩) oX12_setsOf q_1296 q_1298 q_89 rfl (by omega) (by decide) rfl (Nat.le_of_ble_eq_true rfl) 15 rfl dX12_of_12 rfl ?_
  refine a_lstore_n (lv' := [(3, .long (f_mso M T)), (0, .ref (g_ad G 38)), (1, .int (nI j)), (2, .int 6)]) 16 rfl dX12_of_15 rfl (by decide) rfl ?_
  refine a_iload_n 3 17 rfl dX12_of_16 rfl rfl ?_
  refine a_tableIn (off := 91) 108 dX12_of_17 (by decide) (by decide) (by decide) (by decide) ?_
  refine a_aload_n 1 109 rfl dX12_of_108 rfl rfl ?_
  refine a_lload_n 0 110 rfl dX12_of_109 rfl rfl ?_
  refine a_callV (as := [.long (f_mso M T)]) (rest := []) (st2 := [.int (nI (f_edM (M.1 0) (f_mso M T) (2 ^ M.1 0)))]) (u1 := 0) (v1 := 0) (u2 := 0) (v2 := 0) (r_edgesM hn hn0) (⟨_, _, _, _, rfl, rfl⟩) oX12_edges q_1330 q_1332 q_95 rfl (by omega) (by decide) rfl (Nat.le_of_ble_eq_true rfl) 113 rfl dX12_of_110 rfl ?_
  exact a_ireturn .int rfl rfl ((by first | rfl | rw [ht0] | rw [ht1])) (rfl) dX12_of_113

theorem r_ofM_bad (hn : M.1 0 ≤ 6) (hi : f_mis M j T) (hy : y2.toInt < 0 ∨ 6 < y2.toInt) : g_Run G mX12_of 6 0 0 [.ref (g_ad G 38), .int (nI j), .int y2] (g_hp G C (g_hm G M ++ ob)) (some (.int (-1))) (g_hp G C (g_hm G M ++ ob)) := by
  refine g_Run.of (lv := [(0, .ref (g_ad G 38)), (1, .int (nI j)), (2, .int y2)]) (by decide) (Nat.le_of_ble_eq_true rfl) rfl ?_
  refine a_aload_n 0 1 rfl dX12_of_0 rfl rfl ?_
  refine a_iload_n 1 2 rfl dX12_of_1 rfl rfl ?_
  refine a_callV (as := [.int (nI j)]) (rest := []) (st2 := [.int 1]) (u1 := 0) (v1 := 0) (u2 := 0) (v2 := 0) (r_isFam_in hi.2.1 hi.1) (⟨_, _, _, _, rfl, rfl⟩) oX12_isFamily q_1273 q_1275 q_87 rfl (by omega) (by decide) rfl (Nat.le_of_ble_eq_true rfl) 5 rfl dX12_of_2 rfl ?_
  refine a_if_ne 10 8 rfl dX12_of_5 (by decide) (fun _ => ?_) (fun hc => absurd hc ((by decide)))
  refine a_aload_n 0 11 rfl dX12_of_10 rfl rfl ?_
  refine a_iload_n 1 12 rfl dX12_of_11 rfl rfl ?_
  refine a_callV (as := [.int (nI j)]) (rest := []) (st2 := [.long (f_mso M T)]) (u1 := 0) (v1 := 0) (u2 := 0) (v2 := 0) (r_mso hn hi) (⟨_, _, _, _, rfl, rfl⟩) oX12_setsOf q_1296 q_1298 q_89 rfl (by omega) (by decide) rfl (Nat.le_of_ble_eq_true rfl) 15 rfl dX12_of_12 rfl ?_
  refine a_lstore_n (lv' := [(3, .long (f_mso M T)), (0, .ref (g_ad G 38)), (1, .int (nI j)), (2, .int y2)]) 16 rfl dX12_of_15 rfl (by decide) rfl ?_
  refine a_iload_n 3 17 rfl dX12_of_16 rfl rfl ?_
  refine a_tableOut 114 dX12_of_17 (hy) (by decide) ?_
  refine a_iconst (x := (-1)) 115 rfl dX12_of_114 (by decide) ?_
  exact a_ireturn .int rfl rfl (rfl) (rfl) dX12_of_115
theorem r_pressM_out (hm : M.1 1 ≤ 8) (hi : ¬ vp_in y (M.1 1)) : g_Run G mX12_pressed 6 0 0 [.ref (g_ad G 38), .int y, .int y2, .int y3] (g_hp G C (g_hm G M ++ ob)) (some (.long (-9223372036854775808))) (g_hp G C (g_hm G M ++ ob)) := by
  refine g_Run.of (lv := [(0, .ref (g_ad G 38)), (1, .int y), (2, .int y2), (3, .int y3)]) (by decide) (Nat.le_of_ble_eq_true rfl) rfl ?_
  refine a_aload_n 0 1 rfl dX12_pressed_0 rfl rfl ?_
  refine a_iload_n 1 2 rfl dX12_pressed_1 rfl rfl ?_
  refine a_callV (as := [.int y]) (rest := []) (st2 := [.int 0]) (u1 := 0) (v1 := 0) (u2 := 0) (v2 := 0) (r_isFam_out hm hi) (⟨_, _, _, _, rfl, rfl⟩) oX12_isFamily q_1273 q_1275 q_87 rfl (by omega) (by decide) rfl (Nat.le_of_ble_eq_true rfl) 5 rfl dX12_pressed_2 rfl ?_
  refine a_if_eq 51 8 rfl dX12_pressed_5 (by decide) (fun _ => ?_) (fun hc => absurd (rfl) hc)
  refine a_ldc2 q_1295 54 rfl dX12_pressed_51 ?_
  exact a_lreturn rfl (rfl) (rfl) dX12_pressed_54
theorem r_pressM_bad (hm : M.1 1 ≤ 8) (hj : j < M.1 1) (hn0 : 0 < M.1 0) (hb : ¬ ((0 ≤ y3 ∧ y3 ≤ nI (M.1 0 - 1)) ∧ (0 ≤ y2 ∧ y2 ≤ y3 - 1))) : g_Run G mX12_pressed 6 0 0 [.ref (g_ad G 38), .int (nI j), .int y2, .int y3] (g_hp G C (g_hm G M ++ ob)) (some (.long (-9223372036854775808))) (g_hp G C (g_hm G M ++ ob)) := by
  refine g_Run.of (lv := [(0, .ref (g_ad G 38)), (1, .int (nI j)), (2, .int y2), (3, .int y3)]) (by decide) (Nat.le_of_ble_eq_true rfl) rfl ?_
  refine a_aload_n 0 1 rfl dX12_pressed_0 rfl rfl ?_
  refine a_iload_n 1 2 rfl dX12_pressed_1 rfl rfl ?_
  refine a_callV (as := [.int (nI j)]) (rest := []) (st2 := [.int 1]) (u1 := 0) (v1 := 0) (u2 := 0) (v2 := 0) (r_isFam_in hm hj) (⟨_, _, _, _, rfl, rfl⟩) oX12_isFamily q_1273 q_1275 q_87 rfl (by omega) (by decide) rfl (Nat.le_of_ble_eq_true rfl) 5 rfl dX12_pressed_2 rfl ?_
  refine a_if_eq 51 8 rfl dX12_pressed_5 (by decide) (fun hc => absurd hc ((by decide))) (fun _ => ?_)
  refine a_iload_n 3 9 rfl dX12_pressed_8 rfl rfl ?_
  refine a_i2l 10 rfl dX12_pressed_9 ?_
  refine a_lconst (x := 0) 11 rfl dX12_pressed_10 (by decide) ?_
  refine a_aload_n 0 12 rfl dX12_pressed_11 rfl rfl ?_
  refine a_get 0 cl_11 f_RX12_9_11 (by decide) (rfl) rfl 15 rfl dX12_pressed_12 ?_
  refine a_iconst (x := 1) 16 rfl dX12_pressed_15 (by decide) ?_
  refine a_isub 17 rfl dX12_pressed_16 ?_
  refine a_eq (st2 := [.int (nI ((M.1 0) - 1)), .long 0, .long y3.toInt64]) rfl rfl (congrArg (fun z9 => Value.int z9 :: [.long 0, .long y3.toInt64]) (pk_sub (a := (M.1 0)) (b := 1) (by omega))) rfl ?_
  refine a_i2l 18 rfl dX12_pressed_17 ?_
  refine a_callS (as := [.long y3.toInt64, .long 0, .long ((nI ((M.1 0) - 1)).toInt64)]) (rest := []) (st2 := [.int (f_i (decide ((0 : Int32) ≤ y3 ∧ y3 ≤ (nI ((M.1 0) - 1)))))]) (u1 := 0) (v1 := 0) (u2 := 0) (v2 := 0) (r_isInB (y := y3) (a := 0) (b := (nI ((M.1 0) - 1))) rfl rfl) oX12_isIn q_1242 q_1243 rfl (by omega) (by decide) rfl (Nat.le_of_ble_eq_true rfl) 21 rfl dX12_pressed_18 rfl ?_
  rcases Bool.eq_false_or_eq_true (decide ((0 : Int32) ≤ y3 ∧ y3 ≤ nI (M.1 0 - 1))) with e1 | e1
  · skip
    refine a_if_eq 51 24 rfl dX12_pressed_21 (by decide) (fun hc => absurd hc (f_i_T e1)) (fun _ => ?_)
    refine a_iload_n 2 25 rfl dX12_pressed_24 rfl rfl ?_
    refine a_i2l 26 rfl dX12_pressed_25 ?_
    refine a_lconst (x := 0) 27 rfl dX12_pressed_26 (by decide) ?_
    refine a_iload_n 3 28 rfl dX12_pressed_27 rfl rfl ?_
    refine a_iconst (x := 1) 29 rfl dX12_pressed_28 (by decide) ?_
    refine a_isub 30 rfl dX12_pressed_29 ?_
    refine a_i2l 31 rfl dX12_pressed_30 ?_
    refine a_callS (as := [.long y2.toInt64, .long 0, .long ((y3 - 1).toInt64)]) (rest := []) (st2 := [.int (f_i (decide ((0 : Int32) ≤ y2 ∧ y2 ≤ (y3 - 1))))]) (u1 := 0) (v1 := 0) (u2 := 0) (v2 := 0) (r_isInB (y := y2) (a := 0) (b := (y3 - 1)) rfl rfl) oX12_isIn q_1242 q_1243 rfl (by omega) (by decide) rfl (Nat.le_of_ble_eq_true rfl) 34 rfl dX12_pressed_31 rfl ?_
    refine a_if_eq 51 37 rfl dX12_pressed_34 (by decide) (fun _ => ?_) (fun hc => absurd (f_i_F (decide_eq_false (fun z9 => hb ⟨of_decide_eq_true e1, z9⟩))) hc)
    refine a_ldc2 q_1295 54 rfl dX12_pressed_51 ?_
    exact a_lreturn rfl (rfl) (rfl) dX12_pressed_54
  · skip
    refine a_if_eq 51 24 rfl dX12_pressed_21 (by decide) (fun _ => ?_) (fun hc => absurd (f_i_F e1) hc)
    refine a_ldc2 q_1295 54 rfl dX12_pressed_51 ?_
    exact a_lreturn rfl (rfl) (rfl) dX12_pressed_54
theorem r_pressM (hn : M.1 0 ≤ 6) {i9 j9 : Nat} (h1 : i9 < j9) (h2 : j9 < M.1 0) (hi : f_mis M j T) : g_Run G mX12_pressed 6 0 0 [.ref (g_ad G 38), .int (nI j), .int (nI i9), .int (nI j9)] (g_hp G C (g_hm G M ++ ob)) (some (.long (f_prM (M.1 0) (f_mso M T) i9 j9))) (g_hp G C (g_hm G M ++ ob)) := by
  have e1 : decide ((0 : Int32) ≤ nI j9 ∧ nI j9 ≤ nI (M.1 0 - 1)) = true := decide_eq_true ⟨nI_pos' (by omega), nI_le (by omega) (by omega)⟩
  have e2 : decide ((0 : Int32) ≤ nI i9 ∧ nI i9 ≤ nI (j9 - 1)) = true := decide_eq_true ⟨nI_pos' (by omega), nI_le (by omega) (by omega)⟩
  refine g_Run.of (lv := [(0, .ref (g_ad G 38)), (1, .int (nI j)), (2, .int (nI i9)), (3, .int (nI j9))]) (by decide) (Nat.le_of_ble_eq_true rfl) rfl ?_
  refine a_aload_n 0 1 rfl dX12_pressed_0 rfl rfl ?_
  refine a_iload_n 1 2 rfl dX12_pressed_1 rfl rfl ?_
  refine a_callV (as := [.int (nI j)]) (rest := []) (st2 := [.int 1]) (u1 := 0) (v1 := 0) (u2 := 0) (v2 := 0) (r_isFam_in hi.2.1 hi.1) (⟨_, _, _, _, rfl, rfl⟩) oX12_isFamily q_1273 q_1275 q_87 rfl (by omega) (by decide) rfl (Nat.le_of_ble_eq_true rfl) 5 rfl dX12_pressed_2 rfl ?_
  refine a_if_eq 51 8 rfl dX12_pressed_5 (by decide) (fun hc => absurd hc ((by decide))) (fun _ => ?_)
  refine a_iload_n 3 9 rfl dX12_pressed_8 rfl rfl ?_
  refine a_i2l 10 rfl dX12_pressed_9 ?_
  refine a_lconst (x := 0) 11 rfl dX12_pressed_10 (by decide) ?_
  refine a_aload_n 0 12 rfl dX12_pressed_11 rfl rfl ?_
  refine a_get 0 cl_11 f_RX12_9_11 (by decide) (rfl) rfl 15 rfl dX12_pressed_12 ?_
  refine a_iconst (x := 1) 16 rfl dX12_pressed_15 (by decide) ?_
  refine a_isub 17 rfl dX12_pressed_16 ?_
  refine a_eq (st2 := [.int (nI ((M.1 0) - 1)), .long 0, .long ((nI j9).toInt64)]) rfl rfl (congrArg (fun z9 => Value.int z9 :: [.long 0, .long ((nI j9).toInt64)]) (pk_sub (a := (M.1 0)) (b := 1) (by omega))) rfl ?_
  refine a_i2l 18 rfl dX12_pressed_17 ?_
  refine a_callS (as := [.long ((nI j9).toInt64), .long 0, .long ((nI ((M.1 0) - 1)).toInt64)]) (rest := []) (st2 := [.int (f_i (decide ((0 : Int32) ≤ (nI j9) ∧ (nI j9) ≤ (nI ((M.1 0) - 1)))))]) (u1 := 0) (v1 := 0) (u2 := 0) (v2 := 0) (r_isInB (y := (nI j9)) (a := 0) (b := (nI ((M.1 0) - 1))) rfl rfl) oX12_isIn q_1242 q_1243 rfl (by omega) (by decide) rfl (Nat.le_of_ble_eq_true rfl) 21 rfl dX12_pressed_18 rfl ?_
  refine a_if_eq 51 24 rfl dX12_pressed_21 (by decide) (fun hc => absurd hc (f_i_T e1)) (fun _ => ?_)
  refine a_iload_n 2 25 rfl dX12_pressed_24 rfl rfl ?_
  refine a_i2l 26 rfl dX12_pressed_25 ?_
  refine a_lconst (x := 0) 27 rfl dX12_pressed_26 (by decide) ?_
  refine a_iload_n 3 28 rfl dX12_pressed_27 rfl rfl ?_
  refine a_iconst (x := 1) 29 rfl dX12_pressed_28 (by decide) ?_
  refine a_isub 30 rfl dX12_pressed_29 ?_
  refine a_eq (st2 := [.int (nI (j9 - 1)), .long 0, .long ((nI i9).toInt64)]) rfl rfl (congrArg (fun z9 => Value.int z9 :: [.long 0, .long ((nI i9).toInt64)]) (pk_sub (a := j9) (b := 1) (by omega))) rfl ?_
  refine a_i2l 31 rfl dX12_pressed_30 ?_
  refine a_callS (as := [.long ((nI i9).toInt64), .long 0, .long ((nI (j9 - 1)).toInt64)]) (rest := []) (st2 := [.int (f_i (decide ((0 : Int32) ≤ (nI i9) ∧ (nI i9) ≤ (nI (j9 - 1)))))]) (u1 := 0) (v1 := 0) (u2 := 0) (v2 := 0) (r_isInB (y := (nI i9)) (a := 0) (b := (nI (j9 - 1))) rfl rfl) oX12_isIn q_1242 q_1243 rfl (by omega) (by decide) rfl (Nat.le_of_ble_eq_true rfl) 34 rfl dX12_pressed_31 rfl ?_
  refine a_if_eq 51 37 rfl dX12_pressed_34 (by decide) (fun hc => absurd hc (f_i_T e2)) (fun _ => ?_)
  refine a_aload_n 0 38 rfl dX12_pressed_37 rfl rfl ?_
  refine a_aload_n 0 39 rfl dX12_pressed_38 rfl rfl ?_
  refine a_iload_n 1 40 rfl dX12_pressed_39 rfl rfl ?_
  refine a_callV (as := [.int (nI j)]) (rest := [.ref (g_ad G 38)]) (st2 := [.long (f_mso M T), .ref (g_ad G 38)]) (u1 := 0) (v1 := 0) (u2 := 0) (v2 := 0) (r_mso hn hi) (⟨_, _, _, _, rfl, rfl⟩) oX12_setsOf q_1296 q_1298 q_89 rfl (by omega) (by decide) rfl (Nat.le_of_ble_eq_true rfl) 43 rfl dX12_pressed_40 rfl ?_
  refine a_iload_n 2 44 rfl dX12_pressed_43 rfl rfl ?_
  refine a_iload_n 3 45 rfl dX12_pressed_44 rfl rfl ?_
  refine a_callV (as := [.long (f_mso M T), .int (nI i9), .int (nI j9)]) (rest := []) (st2 := [.long (f_prM (M.1 0) (f_mso M T) i9 j9)]) (u1 := 0) (v1 := 0) (u2 := 0) (v2 := 0) (r_pressedM hn h1 h2) (⟨_, _, _, _, rfl, rfl⟩) oX12_pressedBy q_1338 q_1340 q_96 rfl (by omega) (by decide) rfl (Nat.le_of_ble_eq_true rfl) 48 rfl dX12_pressed_45 rfl ?_
  refine a_goto 54 dX12_pressed_48 (by decide) ?_
  exact a_lreturn rfl (rfl) (rfl) dX12_pressed_54
theorem r_prM_out (hm : M.1 1 ≤ 8) (hi : ¬ vp_in y (M.1 1)) : g_Run G mX12_press 6 0 0 [.ref (g_ad G 38), .int y] (g_hp G C (g_hm G M ++ ob)) (some (.int (-1))) (g_hp G C (g_hm G M ++ ob)) := by
  refine g_Run.of (lv := [(0, .ref (g_ad G 38)), (1, .int y)]) (by decide) (Nat.le_of_ble_eq_true rfl) rfl ?_
  refine a_aload_n 0 1 rfl dX12_press_0 rfl rfl ?_
  refine a_iload_n 1 2 rfl dX12_press_1 rfl rfl ?_
  refine a_callV (as := [.int y]) (rest := []) (st2 := [.int 0]) (u1 := 0) (v1 := 0) (u2 := 0) (v2 := 0) (r_isFam_out hm hi) (⟨_, _, _, _, rfl, rfl⟩) oX12_isFamily q_1273 q_1275 q_87 rfl (by omega) (by decide) rfl (Nat.le_of_ble_eq_true rfl) 5 rfl dX12_press_2 rfl ?_
  refine a_if_eq 24 8 rfl dX12_press_5 (by decide) (fun _ => ?_) (fun hc => absurd (rfl) hc)
  refine a_iconst (x := (-1)) 25 rfl dX12_press_24 (by decide) ?_
  exact a_ireturn .int rfl rfl (rfl) (rfl) dX12_press_25
theorem r_prM {t : Nat} (hn : M.1 0 ≤ 6) (hn0 : 0 < M.1 0) (hi : f_mis M j T) (ht : f_arM (M.1 0) (f_rsM (M.1 0) t (f_mso M T) 0).1 (M.1 0 - 1) = true) : g_Run G mX12_press 6 0 0 [.ref (g_ad G 38), .int (nI j)] (g_hp G C (g_hm G M ++ ob)) (some (.int (if M.1 1 = 8 then -3 else nI (M.1 1)))) (g_hp G C (g_hm G (f_coM (f_mi M 1 (nI (f_rsM (M.1 0) t (f_mso M T) 0).2)) (f_rsM (M.1 0) t (f_mso M T) 0).1) ++ ob)) := by
  refine g_Run.of (lv := [(0, .ref (g_ad G 38)), (1, .int (nI j))]) (by decide) (Nat.le_of_ble_eq_true rfl) rfl ?_
  refine a_aload_n 0 1 rfl dX12_press_0 rfl rfl ?_
  refine a_iload_n 1 2 rfl dX12_press_1 rfl rfl ?_
  refine a_callV (as := [.int (nI j)]) (rest := []) (st2 := [.int 1]) (u1 := 0) (v1 := 0) (u2 := 0) (v2 := 0) (r_isFam_in hi.2.1 hi.1) (⟨_, _, _, _, rfl, rfl⟩) oX12_isFamily q_1273 q_1275 q_87 rfl (by omega) (by decide) rfl (Nat.le_of_ble_eq_true rfl) 5 rfl dX12_press_2 rfl ?_
  refine a_if_eq 24 8 rfl dX12_press_5 (by decide) (fun hc => absurd hc ((by decide))) (fun _ => ?_)
  refine a_aload_n 0 9 rfl dX12_press_8 rfl rfl ?_
  refine a_aload_n 0 10 rfl dX12_press_9 rfl rfl ?_
  refine a_aload_n 0 11 rfl dX12_press_10 rfl rfl ?_
  refine a_iload_n 1 12 rfl dX12_press_11 rfl rfl ?_
  refine a_callV (as := [.int (nI j)]) (rest := [.ref (g_ad G 38), .ref (g_ad G 38)]) (st2 := [.long (f_mso M T), .ref (g_ad G 38), .ref (g_ad G 38)]) (u1 := 0) (v1 := 0) (u2 := 0) (v2 := 0) (r_mso hn hi) (⟨_, _, _, _, rfl, rfl⟩) oX12_setsOf q_1296 q_1298 q_89 rfl (by omega) (by decide) rfl (Nat.le_of_ble_eq_true rfl) 15 rfl dX12_press_12 rfl ?_
  refine a_callV (as := [.long (f_mso M T)]) (rest := [.ref (g_ad G 38)]) (st2 := [.long ((f_rsM (M.1 0) t (f_mso M T) 0).1), .ref (g_ad G 38)]) (u1 := 0) (v1 := 0) (u2 := 0) (v2 := 0) (r_restsM hn hn0 ht) (⟨_, _, _, _, rfl, rfl⟩) oX12_rests q_1346 q_1348 q_97 rfl (by omega) (by decide) rfl (Nat.le_of_ble_eq_true rfl) 18 rfl dX12_press_15 rfl ?_
  refine a_callV (as := [.long ((f_rsM (M.1 0) t (f_mso M T) 0).1)]) (rest := []) (st2 := [.int (if M.1 1 = 8 then -3 else nI (M.1 1))]) (u1 := 0) (v1 := 0) (u2 := 0) (v2 := 0) (r_comes (M := f_mi M 1 (nI (f_rsM (M.1 0) t (f_mso M T) 0).2)) hi.2.1) (⟨_, _, _, _, rfl, rfl⟩) oX12_comes q_1261 q_1263 q_86 rfl (by omega) (by decide) rfl (Nat.le_of_ble_eq_true rfl) 21 rfl dX12_press_18 rfl ?_
  refine a_goto 25 dX12_press_21 (by decide) ?_
  exact a_ireturn .int rfl rfl (rfl) (rfl) dX12_press_25
theorem r_roM_out (hm : M.1 1 ≤ 8) (hi : ¬ vp_in y (M.1 1)) : g_Run G mX12_rounds 6 0 0 [.ref (g_ad G 38), .int y] (g_hp G C (g_hm G M ++ ob)) (some (.int (-1))) (g_hp G C (g_hm G M ++ ob)) := by
  refine g_Run.of (lv := [(0, .ref (g_ad G 38)), (1, .int y)]) (by decide) (Nat.le_of_ble_eq_true rfl) rfl ?_
  refine a_aload_n 0 1 rfl dX12_rounds_0 rfl rfl ?_
  refine a_iload_n 1 2 rfl dX12_rounds_1 rfl rfl ?_
  refine a_callV (as := [.int y]) (rest := []) (st2 := [.int 0]) (u1 := 0) (v1 := 0) (u2 := 0) (v2 := 0) (r_isFam_out hm hi) (⟨_, _, _, _, rfl, rfl⟩) oX12_isFamily q_1273 q_1275 q_87 rfl (by omega) (by decide) rfl (Nat.le_of_ble_eq_true rfl) 5 rfl dX12_rounds_2 rfl ?_
  refine a_if_ne 10 8 rfl dX12_rounds_5 (by decide) (fun hc => absurd (rfl) hc) (fun _ => ?_)
  refine a_iconst (x := (-1)) 9 rfl dX12_rounds_8 (by decide) ?_
  exact a_ireturn .int rfl rfl (rfl) (rfl) dX12_rounds_9
theorem r_roM {t : Nat} (hn : M.1 0 ≤ 6) (hn0 : 0 < M.1 0) (hi : f_mis M j T) (ht : f_arM (M.1 0) (f_rsM (M.1 0) t (f_mso M T) 0).1 (M.1 0 - 1) = true) : g_Run G mX12_rounds 6 0 0 [.ref (g_ad G 38), .int (nI j)] (g_hp G C (g_hm G M ++ ob)) (some (.int (nI (f_rsM (M.1 0) t (f_mso M T) 0).2))) (g_hp G C (g_hm G (f_mi M 1 (nI (f_rsM (M.1 0) t (f_mso M T) 0).2)) ++ ob)) := by
  refine g_Run.of (lv := [(0, .ref (g_ad G 38)), (1, .int (nI j))]) (by decide) (Nat.le_of_ble_eq_true rfl) rfl ?_
  refine a_aload_n 0 1 rfl dX12_rounds_0 rfl rfl ?_
  refine a_iload_n 1 2 rfl dX12_rounds_1 rfl rfl ?_
  refine a_callV (as := [.int (nI j)]) (rest := []) (st2 := [.int 1]) (u1 := 0) (v1 := 0) (u2 := 0) (v2 := 0) (r_isFam_in hi.2.1 hi.1) (⟨_, _, _, _, rfl, rfl⟩) oX12_isFamily q_1273 q_1275 q_87 rfl (by omega) (by decide) rfl (Nat.le_of_ble_eq_true rfl) 5 rfl dX12_rounds_2 rfl ?_
  refine a_if_ne 10 8 rfl dX12_rounds_5 (by decide) (fun _ => ?_) (fun hc => absurd hc ((by decide)))
  refine a_aload_n 0 11 rfl dX12_rounds_10 rfl rfl ?_
  refine a_aload_n 0 12 rfl dX12_rounds_11 rfl rfl ?_
  refine a_iload_n 1 13 rfl dX12_rounds_12 rfl rfl ?_
  refine a_callV (as := [.int (nI j)]) (rest := [.ref (g_ad G 38)]) (st2 := [.long (f_mso M T), .ref (g_ad G 38)]) (u1 := 0) (v1 := 0) (u2 := 0) (v2 := 0) (r_mso hn hi) (⟨_, _, _, _, rfl, rfl⟩) oX12_setsOf q_1296 q_1298 q_89 rfl (by omega) (by decide) rfl (Nat.le_of_ble_eq_true rfl) 16 rfl dX12_rounds_13 rfl ?_
  refine a_callV (as := [.long (f_mso M T)]) (rest := []) (st2 := [.long ((f_rsM (M.1 0) t (f_mso M T) 0).1)]) (u1 := 0) (v1 := 0) (u2 := 0) (v2 := 0) (r_restsM hn hn0 ht) (⟨_, _, _, _, rfl, rfl⟩) oX12_rests q_1346 q_1348 q_97 rfl (by omega) (by decide) rfl (Nat.le_of_ble_eq_true rfl) 19 rfl dX12_rounds_16 rfl ?_
  refine a_lstore_n (lv' := [(2, .long ((f_rsM (M.1 0) t (f_mso M T) 0).1)), (0, .ref (g_ad G 38)), (1, .int (nI j))]) 20 rfl dX12_rounds_19 rfl (by decide) rfl ?_
  refine a_aload_n 1 21 rfl dX12_rounds_20 rfl rfl ?_
  refine a_get 14 cl_11 f_RX12_178_11 (by decide) (rfl) rfl 24 rfl dX12_rounds_21 ?_
  exact a_ireturn .int rfl rfl (rfl) (rfl) dX12_rounds_24
theorem r_isM_out (hm : M.1 1 ≤ 8) (hi : ¬ vp_in y (M.1 1)) : g_Run G mX12_is 6 0 0 [.ref (g_ad G 38), .int y, .int y2] (g_hp G C (g_hm G M ++ ob)) (some (.int (-1))) (g_hp G C (g_hm G M ++ ob)) := by
  refine g_Run.of (lv := [(0, .ref (g_ad G 38)), (1, .int y), (2, .int y2)]) (by decide) (Nat.le_of_ble_eq_true rfl) rfl ?_
  refine a_aload_n 0 1 rfl dX12_is_0 rfl rfl ?_
  refine a_iload_n 1 2 rfl dX12_is_1 rfl rfl ?_
  refine a_callV (as := [.int y]) (rest := []) (st2 := [.int 0]) (u1 := 0) (v1 := 0) (u2 := 0) (v2 := 0) (r_isFam_out hm hi) (⟨_, _, _, _, rfl, rfl⟩) oX12_isFamily q_1273 q_1275 q_87 rfl (by omega) (by decide) rfl (Nat.le_of_ble_eq_true rfl) 5 rfl dX12_is_2 rfl ?_
  refine a_if_eq 20 8 rfl dX12_is_5 (by decide) (fun _ => ?_) (fun hc => absurd (rfl) hc)
  refine a_iconst (x := (-1)) 21 rfl dX12_is_20 (by decide) ?_
  exact a_ireturn .int rfl rfl (rfl) (rfl) dX12_is_21
theorem r_isM_bad (hm : M.1 1 ≤ 8) (hj : j < M.1 1) (hb : ¬ ((0 : Int32) ≤ y2 ∧ y2 ≤ 3)) : g_Run G mX12_is 6 0 0 [.ref (g_ad G 38), .int (nI j), .int y2] (g_hp G C (g_hm G M ++ ob)) (some (.int (-1))) (g_hp G C (g_hm G M ++ ob)) := by
  refine g_Run.of (lv := [(0, .ref (g_ad G 38)), (1, .int (nI j)), (2, .int y2)]) (by decide) (Nat.le_of_ble_eq_true rfl) rfl ?_
  refine a_aload_n 0 1 rfl dX12_is_0 rfl rfl ?_
  refine a_iload_n 1 2 rfl dX12_is_1 rfl rfl ?_
  refine a_callV (as := [.int (nI j)]) (rest := []) (st2 := [.int 1]) (u1 := 0) (v1 := 0) (u2 := 0) (v2 := 0) (r_isFam_in hm hj) (⟨_, _, _, _, rfl, rfl⟩) oX12_isFamily q_1273 q_1275 q_87 rfl (by omega) (by decide) rfl (Nat.le_of_ble_eq_true rfl) 5 rfl dX12_is_2 rfl ?_
  refine a_if_eq 20 8 rfl dX12_is_5 (by decide) (fun hc => absurd hc ((by decide))) (fun _ => ?_)
  refine a_iload_n 2 9 rfl dX12_is_8 rfl rfl ?_
  refine a_i2l 10 rfl dX12_is_9 ?_
  refine a_lconst (x := 0) 11 rfl dX12_is_10 (by decide) ?_
  refine a_ldc2 q_1362 14 rfl dX12_is_11 ?_
  refine a_callS (as := [.long y2.toInt64, .long 0, .long 3]) (rest := []) (st2 := [.int (f_i (decide ((0 : Int32) ≤ y2 ∧ y2 ≤ 3)))]) (u1 := 0) (v1 := 0) (u2 := 0) (v2 := 0) (r_isInB (y := y2) (a := 0) (b := 3) rfl rfl) oX12_isIn q_1242 q_1243 rfl (by omega) (by decide) rfl (Nat.le_of_ble_eq_true rfl) 17 rfl dX12_is_14 rfl ?_
  refine a_if_ne 22 20 rfl dX12_is_17 (by decide) (fun hc => absurd (f_i_F (decide_eq_false hb)) hc) (fun _ => ?_)
  refine a_iconst (x := (-1)) 21 rfl dX12_is_20 (by decide) ?_
  exact a_ireturn .int rfl rfl (rfl) (rfl) dX12_is_21
theorem r_isM3 (hn : M.1 0 ≤ 6) (hn0 : 0 < M.1 0) (hi : f_mis M j T) : g_Run G mX12_is 6 0 0 [.ref (g_ad G 38), .int (nI j), .int 3] (g_hp G C (g_hm G M ++ ob)) (some (.int (f_i (f_arM (M.1 0) (f_mso M T) (M.1 0 - 1))))) (g_hp G C (g_hm G M ++ ob)) := by
  refine g_Run.of (lv := [(0, .ref (g_ad G 38)), (1, .int (nI j)), (2, .int 3)]) (by decide) (Nat.le_of_ble_eq_true rfl) rfl ?_
  refine a_aload_n 0 1 rfl dX12_is_0 rfl rfl ?_
  refine a_iload_n 1 2 rfl dX12_is_1 rfl rfl ?_
  refine a_callV (as := [.int (nI j)]) (rest := []) (st2 := [.int 1]) (u1 := 0) (v1 := 0) (u2 := 0) (v2 := 0) (r_isFam_in hi.2.1 hi.1) (⟨_, _, _, _, rfl, rfl⟩) oX12_isFamily q_1273 q_1275 q_87 rfl (by omega) (by decide) rfl (Nat.le_of_ble_eq_true rfl) 5 rfl dX12_is_2 rfl ?_
  refine a_if_eq 20 8 rfl dX12_is_5 (by decide) (fun hc => absurd hc ((by decide))) (fun _ => ?_)
  refine a_iload_n 2 9 rfl dX12_is_8 rfl rfl ?_
  refine a_i2l 10 rfl dX12_is_9 ?_
  refine a_lconst (x := 0) 11 rfl dX12_is_10 (by decide) ?_
  refine a_ldc2 q_1362 14 rfl dX12_is_11 ?_
  refine a_callS (as := [.long ((3 : Int32).toInt64), .long 0, .long 3]) (rest := []) (st2 := [.int (f_i (decide ((0 : Int32) ≤ (3 : Int32) ∧ (3 : Int32) ≤ 3)))]) (u1 := 0) (v1 := 0) (u2 := 0) (v2 := 0) (r_isInB (y := (3 : Int32)) (a := 0) (b := 3) rfl rfl) oX12_isIn q_1242 q_1243 rfl (by omega) (by decide) rfl (Nat.le_of_ble_eq_true rfl) 17 rfl dX12_is_14 rfl ?_
  refine a_if_ne 22 20 rfl dX12_is_17 (by decide) (fun _ => ?_) (fun hc => absurd hc (f_i_T (by decide)))
  refine a_aload_n 0 23 rfl dX12_is_22 rfl rfl ?_
  refine a_iload_n 1 24 rfl dX12_is_23 rfl rfl ?_
  refine a_callV (as := [.int (nI j)]) (rest := []) (st2 := [.long (f_mso M T)]) (u1 := 0) (v1 := 0) (u2 := 0) (v2 := 0) (r_mso hn hi) (⟨_, _, _, _, rfl, rfl⟩) oX12_setsOf q_1296 q_1298 q_89 rfl (by omega) (by decide) rfl (Nat.le_of_ble_eq_true rfl) 27 rfl dX12_is_24 rfl ?_
  refine a_lstore_n (lv' := [(3, .long (f_mso M T)), (0, .ref (g_ad G 38)), (1, .int (nI j)), (2, .int 3)]) 28 rfl dX12_is_27 rfl (by decide) rfl ?_
  refine a_iload_n 3 29 rfl dX12_is_28 rfl rfl ?_
  refine a_iconst (x := 3) 30 rfl dX12_is_29 (by decide) ?_
  refine a_icmp_ne 47 33 rfl dX12_is_30 (by decide) (fun hc => absurd ((by decide)) hc) (fun _ => ?_)
  refine a_aload_n 1 34 rfl dX12_is_33 rfl rfl ?_
  refine a_lload_n 0 35 rfl dX12_is_34 rfl rfl ?_
  refine a_callV (as := [.long (f_mso M T)]) (rest := []) (st2 := [.int (f_i (f_arM (M.1 0) (f_mso M T) (M.1 0 - 1)))]) (u1 := 0) (v1 := 0) (u2 := 0) (v2 := 0) (r_atRestM hn hn0) (⟨_, _, _, _, rfl, rfl⟩) oX12_isAtRest q_1350 q_1352 q_98 rfl (by omega) (by decide) rfl (Nat.le_of_ble_eq_true rfl) 38 rfl dX12_is_35 rfl ?_
  refine g_sfx (pc := 46) (lv := [(3, .long (f_mso M T)), (0, .ref (g_ad G 38)), (1, .int (nI j)), (2, .int 3)]) (st := [.int (f_i (f_arM (M.1 0) (f_mso M T) (M.1 0 - 1)))]) (h := (g_hp G C (g_hm G M ++ ob))) (fun key => ?_) ?_
  · skip
    rcases Bool.eq_false_or_eq_true ((f_arM (M.1 0) (f_mso M T) (M.1 0 - 1))) with c38_1 | c38_1
    · skip
      refine a_if_eq 45 41 rfl dX12_is_38 (by decide) (fun hc => absurd hc (f_i_T c38_1)) (fun _ => ?_)
      refine a_iconst (x := 1) 42 rfl dX12_is_41 (by decide) ?_
      refine a_goto 46 dX12_is_42 (by decide) ?_
      exact a_eq rfl (rfl) (by rw [c38_1]; rfl) rfl key
    · skip
      refine a_if_eq 45 41 rfl dX12_is_38 (by decide) (fun _ => ?_) (fun hc => absurd (f_i_F c38_1) hc)
      refine a_iconst (x := 0) 46 rfl dX12_is_45 (by decide) ?_
      exact a_eq rfl (rfl) (by rw [c38_1]; rfl) rfl key
  exact a_ireturn .int rfl rfl (rfl) (rfl) dX12_is_46
theorem r_isM0 (hn : M.1 0 ≤ 6) (hn0 : 0 < M.1 0) (hi : f_mis M j T) : g_Run G mX12_is 6 0 0 [.ref (g_ad G 38), .int (nI j), .int 0] (g_hp G C (g_hm G M ++ ob)) (some (.int (f_i (f_isM 0 (2 ^ M.1 0) (f_mso M T) (2 ^ M.1 0))))) (g_hp G C (g_hm G M ++ ob)) := by
  have hp : 2 ^ M.1 0 ≤ 64 := Nat.pow_le_pow_right (by decide) hn
  have hp0 : 0 < 2 ^ M.1 0 := Nat.two_pow_pos _
  obtain ⟨x, ex⟩ : ∃ x, x = f_mso M T := ⟨_, rfl⟩
  rw [← ex]
  refine g_Run.of (lv := [(0, .ref (g_ad G 38)), (1, .int (nI j)), (2, .int 0)]) (by decide) (Nat.le_of_ble_eq_true rfl) rfl ?_
  refine a_aload_n 0 1 rfl dX12_is_0 rfl rfl ?_
  refine a_iload_n 1 2 rfl dX12_is_1 rfl rfl ?_
  refine a_callV (as := [.int (nI j)]) (rest := []) (st2 := [.int 1]) (u1 := 0) (v1 := 0) (u2 := 0) (v2 := 0) (r_isFam_in hi.2.1 hi.1) (⟨_, _, _, _, rfl, rfl⟩) oX12_isFamily q_1273 q_1275 q_87 rfl (by omega) (by decide) rfl (Nat.le_of_ble_eq_true rfl) 5 rfl dX12_is_2 rfl ?_
  refine a_if_eq 20 8 rfl dX12_is_5 (by decide) (fun hc => absurd hc ((by decide))) (fun _ => ?_)
  refine a_iload_n 2 9 rfl dX12_is_8 rfl rfl ?_
  refine a_i2l 10 rfl dX12_is_9 ?_
  refine a_lconst (x := 0) 11 rfl dX12_is_10 (by decide) ?_
  refine a_ldc2 q_1362 14 rfl dX12_is_11 ?_
  refine a_callS (as := [.long ((0 : Int32).toInt64), .long 0, .long 3]) (rest := []) (st2 := [.int (f_i (decide ((0 : Int32) ≤ (0 : Int32) ∧ (0 : Int32) ≤ 3)))]) (u1 := 0) (v1 := 0) (u2 := 0) (v2 := 0) (r_isInB (y := (0 : Int32)) (a := 0) (b := 3) rfl rfl) oX12_isIn q_1242 q_1243 rfl (by omega) (by decide) rfl (Nat.le_of_ble_eq_true rfl) 17 rfl dX12_is_14 rfl ?_
  refine a_if_ne 22 20 rfl dX12_is_17 (by decide) (fun _ => ?_) (fun hc => absurd hc (f_i_T (by decide)))
  refine a_aload_n 0 23 rfl dX12_is_22 rfl rfl ?_
  refine a_iload_n 1 24 rfl dX12_is_23 rfl rfl ?_
  refine a_callV (as := [.int (nI j)]) (rest := []) (st2 := [.long (f_mso M T)]) (u1 := 0) (v1 := 0) (u2 := 0) (v2 := 0) (r_mso hn hi) (⟨_, _, _, _, rfl, rfl⟩) oX12_setsOf q_1296 q_1298 q_89 rfl (by omega) (by decide) rfl (Nat.le_of_ble_eq_true rfl) 27 rfl dX12_is_24 rfl ?_
  refine a_eq (st2 := [.long x]) rfl rfl (congrArg (fun z9 => Value.long z9 :: []) (ex.symm)) rfl ?_
  refine a_lstore_n (lv' := [(3, .long x), (0, .ref (g_ad G 38)), (1, .int (nI j)), (2, .int 0)]) 28 rfl dX12_is_27 rfl (by decide) rfl ?_
  refine a_iload_n 3 29 rfl dX12_is_28 rfl rfl ?_
  refine a_iconst (x := 3) 30 rfl dX12_is_29 (by decide) ?_
  refine a_icmp_ne 47 33 rfl dX12_is_30 (by decide) (fun _ => ?_) (fun hc => absurd hc ((by decide)))
  refine a_iconst (x := 1) 48 rfl dX12_is_47 (by decide) ?_
  refine a_istore (lv' := [(5, .int 1), (3, .long x), (0, .ref (g_ad G 38)), (1, .int (nI j)), (2, .int 0)]) 50 rfl dX12_is_48 (by decide) rfl ?_
  refine a_iconst (x := 0) 51 rfl dX12_is_50 (by decide) ?_
  refine a_istore (lv' := [(6, .int 0), (5, .int 1), (3, .long x), (0, .ref (g_ad G 38)), (1, .int (nI j)), (2, .int 0)]) 53 rfl dX12_is_51 (by decide) rfl ?_
  refine a_sub (lv' := [(6, .int (nI 0)), (5, .int (f_i (f_isM 0 (2 ^ M.1 0) x 0))), (3, .long x), (0, .ref (g_ad G 38)), (2, .int 0)]) [0, 1, 2, 3, 5] rfl ?_
  refine g_for (P := fun s9 => True) (2 ^ M.1 0) (fun s9 => [(6, .int (nI s9)), (5, .int (f_i (f_isM 0 (2 ^ M.1 0) x s9))), (3, .long x), (0, .ref (g_ad G 38)), (2, .int 0)]) (fun s9 => (g_hp G C (g_hm G M ++ ob))) (trivial) (fun s9 h_s9 p_s9 k_s9 => ?_) (fun p_s9 => ?_)
  · skip
    refine a_iload 0 55 rfl dX12_is_53 rfl ?_
    refine a_aload_n 3 56 rfl dX12_is_55 rfl rfl ?_
    refine a_callV (as := []) (rest := [.int (nI s9)]) (st2 := [.int (nI (2 ^ M.1 0)), .int (nI s9)]) (u1 := 0) (v1 := 0) (u2 := 0) (v2 := 0) (r_allM hn) (⟨_, _, _, _, rfl, rfl⟩) oX12_all q_1253 q_1255 q_85 rfl (by omega) (by decide) rfl (Nat.le_of_ble_eq_true rfl) 59 rfl dX12_is_56 rfl ?_
    refine a_icmp_ge 188 62 rfl dX12_is_59 (by decide) (fun hc => absurd hc (nI_ge (a := s9) (b := (2 ^ M.1 0)) (by omega) (by omega))) (fun _ => ?_)
    refine a_iconst (x := 0) 63 rfl dX12_is_62 (by decide) ?_
    refine a_istore (lv' := [(7, .int 0), (6, .int (nI s9)), (5, .int (f_i (f_isM 0 (2 ^ M.1 0) x s9))), (3, .long x), (0, .ref (g_ad G 38)), (2, .int 0)]) 65 rfl dX12_is_63 (by decide) rfl ?_
    rcases Bool.eq_false_or_eq_true (f_b x s9) with e1 | e1
    · skip
      refine a_sub (lv' := [(7, .int (nI 0)), (5, .int (f_i (f_alF (f_isM 0 (2 ^ M.1 0) x s9) (f_isc 0 x s9) 0))), (6, .int (nI s9)), (3, .long x), (0, .ref (g_ad G 38)), (2, .int 0)]) [0, 2, 1, 3, 4, 5] rfl ?_
      refine g_for (P := fun o9 => True) (2 ^ M.1 0) (fun o9 => [(7, .int (nI o9)), (5, .int (f_i (f_alF (f_isM 0 (2 ^ M.1 0) x s9) (f_isc 0 x s9) o9))), (6, .int (nI s9)), (3, .long x), (0, .ref (g_ad G 38)), (2, .int 0)]) (fun o9 => (g_hp G C (g_hm G M ++ ob))) (trivial) (fun o9 h_o9 p_o9 k_o9 => ?_) (fun p_o9 => ?_)
      · skip
        have hb : s9 &&& o9 ≤ s9 := Nat.and_le_left
        refine a_iload 0 67 rfl dX12_is_65 rfl ?_
        refine a_aload_n 4 68 rfl dX12_is_67 rfl rfl ?_
        refine a_callV (as := []) (rest := [.int (nI o9)]) (st2 := [.int (nI (2 ^ M.1 0)), .int (nI o9)]) (u1 := 0) (v1 := 0) (u2 := 0) (v2 := 0) (r_allM hn) (⟨_, _, _, _, rfl, rfl⟩) oX12_all q_1253 q_1255 q_85 rfl (by omega) (by decide) rfl (Nat.le_of_ble_eq_true rfl) 71 rfl dX12_is_68 rfl ?_
        refine a_icmp_ge 182 74 rfl dX12_is_71 (by decide) (fun hc => absurd hc (nI_ge (a := o9) (b := (2 ^ M.1 0)) (by omega) (by omega))) (fun _ => ?_)
        refine a_lload_n 3 75 rfl dX12_is_74 rfl rfl ?_
        refine a_iload 2 77 rfl dX12_is_75 rfl ?_
        refine a_callS (as := [.long x, .int (nI s9)]) (rest := []) (st2 := [.int (f_i (f_b x s9))]) (u1 := 0) (v1 := 0) (u2 := 0) (v2 := 0) (r_hasB (s := s9) (by omega)) oX12_has q_1304 q_1305 rfl (by omega) (by decide) rfl (Nat.le_of_ble_eq_true rfl) 80 rfl dX12_is_77 rfl ?_
        refine a_if_eq 182 83 rfl dX12_is_80 (by decide) (fun hc => absurd hc (f_i_T e1)) (fun _ => ?_)
        refine a_iload_n 5 84 rfl dX12_is_83 rfl rfl ?_
        refine a_iconst (x := 2) 85 rfl dX12_is_84 (by decide) ?_
        refine a_icmp_ne 120 88 rfl dX12_is_85 (by decide) (fun _ => ?_) (fun hc => absurd hc ((by decide)))
        refine a_lload_n 3 121 rfl dX12_is_120 rfl rfl ?_
        refine a_iload 0 123 rfl dX12_is_121 rfl ?_
        refine a_callS (as := [.long x, .int (nI o9)]) (rest := []) (st2 := [.int (f_i (f_b x o9))]) (u1 := 0) (v1 := 0) (u2 := 0) (v2 := 0) (r_hasB (s := o9) (by omega)) oX12_has q_1304 q_1305 rfl (by omega) (by decide) rfl (Nat.le_of_ble_eq_true rfl) 126 rfl dX12_is_123 rfl ?_
        rcases Bool.eq_false_or_eq_true (f_b x o9) with e2 | e2
        · skip
          refine g_sfx (pc := 173) (lv := [(7, .int (nI o9)), (5, .int (f_i (f_alF (f_isM 0 (2 ^ M.1 0) x s9) (f_isc 0 x s9) o9))), (6, .int (nI s9)), (3, .long x), (0, .ref (g_ad G 38)), (2, .int 0)]) (st := [.int (f_i ((decide (s9 = o9)) || (!(decide ((s9 &&& o9) = s9))))), .int (f_i (f_alF (f_isM 0 (2 ^ M.1 0) x s9) (f_isc 0 x s9) o9))]) (h := (g_hp G C (g_hm G M ++ ob))) (fun key => ?_) ?_
          · skip
            refine a_if_eq 176 129 rfl dX12_is_126 (by decide) (fun hc => absurd hc (f_i_T e2)) (fun _ => ?_)
            refine a_iload 1 131 rfl dX12_is_129 rfl ?_
            refine a_iload_n 5 132 rfl dX12_is_131 rfl rfl ?_
            refine a_if_ne 160 135 rfl dX12_is_132 (by decide) (fun hc => absurd (rfl) hc) (fun _ => ?_)
            refine a_iload 2 137 rfl dX12_is_135 rfl ?_
            refine a_iload 0 139 rfl dX12_is_137 rfl ?_
            rcases Bool.eq_false_or_eq_true (decide (s9 = o9)) with c139_1 | c139_1
            · skip
              refine a_icmp_eq 152 142 rfl dX12_is_139 (by decide) (fun _ => ?_) (fun hc => absurd (congrArg nI (of_decide_eq_true c139_1)) hc)
              refine a_iconst (x := 1) 153 rfl dX12_is_152 (by decide) ?_
              refine a_goto 173 dX12_is_153 (by decide) ?_
              exact a_eq rfl (rfl) (by rw [c139_1]; rfl) rfl key
            · skip
              refine a_icmp_eq 152 142 rfl dX12_is_139 (by decide) (fun hc => absurd hc (fun z9 => of_decide_eq_false c139_1 (nI_inj9 (a := s9) (b := o9) (by omega) (by omega) z9))) (fun _ => ?_)
              refine a_iload 2 144 rfl dX12_is_142 rfl ?_
              refine a_iload 0 146 rfl dX12_is_144 rfl ?_
              refine a_iand 147 rfl dX12_is_146 ?_
              refine a_eq (st2 := [.int (nI (s9 &&& o9)), .int (f_i (f_alF (f_isM 0 (2 ^ M.1 0) x s9) (f_isc 0 x s9) o9))]) rfl rfl (congrArg (fun z9 => Value.int z9 :: [.int (f_i (f_alF (f_isM 0 (2 ^ M.1 0) x s9) (f_isc 0 x s9) o9))]) (nI_and s9 o9)) rfl ?_
              refine a_iload 2 149 rfl dX12_is_147 rfl ?_
              rcases Bool.eq_false_or_eq_true (decide ((s9 &&& o9) = s9)) with c149_2 | c149_2
              · skip
                refine a_icmp_eq 156 152 rfl dX12_is_149 (by decide) (fun _ => ?_) (fun hc => absurd (congrArg nI (of_decide_eq_true c149_2)) hc)
                refine a_iconst (x := 0) 157 rfl dX12_is_156 (by decide) ?_
                refine a_goto 173 dX12_is_157 (by decide) ?_
                exact a_eq rfl (rfl) (by rw [c139_1, c149_2]; rfl) rfl key
              · skip
                refine a_icmp_eq 156 152 rfl dX12_is_149 (by decide) (fun hc => absurd hc (fun z9 => of_decide_eq_false c149_2 (nI_inj9 (a := (s9 &&& o9)) (b := s9) (by omega) (by omega) z9))) (fun _ => ?_)
                refine a_iconst (x := 1) 153 rfl dX12_is_152 (by decide) ?_
                refine a_goto 173 dX12_is_153 (by decide) ?_
                exact a_eq rfl (rfl) (by rw [c139_1, c149_2]; rfl) rfl key
          refine a_iand 174 rfl dX12_is_173 ?_
          refine a_eq (st2 := [.int (f_i ((f_alF (f_isM 0 (2 ^ M.1 0) x s9) (f_isc 0 x s9) o9) && ((decide (s9 = o9)) || (!(decide ((s9 &&& o9) = s9))))))]) rfl rfl (congrArg (fun z9 => Value.int z9 :: []) (f_i_and (f_alF (f_isM 0 (2 ^ M.1 0) x s9) (f_isc 0 x s9) o9) ((decide (s9 = o9)) || (!(decide ((s9 &&& o9) = s9)))))) rfl ?_
          refine a_istore (lv' := [(5, .int (f_i ((f_alF (f_isM 0 (2 ^ M.1 0) x s9) (f_isc 0 x s9) o9) && ((decide (s9 = o9)) || (!(decide ((s9 &&& o9) = s9))))))), (7, .int (nI o9)), (6, .int (nI s9)), (3, .long x), (0, .ref (g_ad G 38)), (2, .int 0)]) 176 rfl dX12_is_174 (by decide) rfl ?_
          refine a_eq (lv2 := [(5, .int (f_i (f_alF (f_isM 0 (2 ^ M.1 0) x s9) (f_isc 0 x s9) (o9 + 1)))), (7, .int (nI o9)), (6, .int (nI s9)), (3, .long x), (0, .ref (g_ad G 38)), (2, .int 0)]) rfl (congrArg (fun z9 => ([(5, .int z9), (7, .int (nI o9)), (6, .int (nI s9)), (3, .long x), (0, .ref (g_ad G 38)), (2, .int 0)] : List (Nat × Value))) (by show _ = f_i (_ && f_isc 0 x s9 o9); unfold f_isc; rw [e2]; rfl)) rfl rfl ?_
          refine a_iinc (y := nI (o9 + 1)) (lv' := [(7, .int (nI (o9 + 1))), (5, .int (f_i (f_alF (f_isM 0 (2 ^ M.1 0) x s9) (f_isc 0 x s9) (o9 + 1)))), (6, .int (nI s9)), (3, .long x), (0, .ref (g_ad G 38)), (2, .int 0)]) 1 179 rfl dX12_is_176 rfl (nI_1 o9) (by decide) rfl ?_
          refine a_goto 65 dX12_is_179 (by decide) ?_
          refine a_sub (lv' := [(7, .int (nI (o9 + 1))), (5, .int (f_i (f_alF (f_isM 0 (2 ^ M.1 0) x s9) (f_isc 0 x s9) (o9 + 1)))), (6, .int (nI s9)), (3, .long x), (0, .ref (g_ad G 38)), (2, .int 0)]) [0, 1, 2, 3, 4, 5] rfl ?_
          exact k_o9 trivial
        · skip
          refine a_if_eq 176 129 rfl dX12_is_126 (by decide) (fun _ => ?_) (fun hc => absurd (f_i_F e2) hc)
          refine a_eq (lv2 := [(7, .int (nI o9)), (5, .int (f_i (f_alF (f_isM 0 (2 ^ M.1 0) x s9) (f_isc 0 x s9) (o9 + 1)))), (6, .int (nI s9)), (3, .long x), (0, .ref (g_ad G 38)), (2, .int 0)]) rfl (congrArg (fun z9 => ([(7, .int (nI o9)), (5, .int z9), (6, .int (nI s9)), (3, .long x), (0, .ref (g_ad G 38)), (2, .int 0)] : List (Nat × Value))) (by show _ = f_i (_ && f_isc 0 x s9 o9); unfold f_isc; rw [e2]; show _ = f_i (_ && true); rw [Bool.and_true])) rfl rfl ?_
          refine a_iinc (y := nI (o9 + 1)) (lv' := [(7, .int (nI (o9 + 1))), (5, .int (f_i (f_alF (f_isM 0 (2 ^ M.1 0) x s9) (f_isc 0 x s9) (o9 + 1)))), (6, .int (nI s9)), (3, .long x), (0, .ref (g_ad G 38)), (2, .int 0)]) 0 179 rfl dX12_is_176 rfl (nI_1 o9) (by decide) rfl ?_
          refine a_goto 65 dX12_is_179 (by decide) ?_
          refine a_sub (lv' := [(7, .int (nI (o9 + 1))), (5, .int (f_i (f_alF (f_isM 0 (2 ^ M.1 0) x s9) (f_isc 0 x s9) (o9 + 1)))), (6, .int (nI s9)), (3, .long x), (0, .ref (g_ad G 38)), (2, .int 0)]) [0, 1, 2, 3, 4, 5] rfl ?_
          exact k_o9 trivial
      · skip
        refine a_iload 0 67 rfl dX12_is_65 rfl ?_
        refine a_aload_n 4 68 rfl dX12_is_67 rfl rfl ?_
        refine a_callV (as := []) (rest := [.int (nI (2 ^ M.1 0))]) (st2 := [.int (nI (2 ^ M.1 0)), .int (nI (2 ^ M.1 0))]) (u1 := 0) (v1 := 0) (u2 := 0) (v2 := 0) (r_allM hn) (⟨_, _, _, _, rfl, rfl⟩) oX12_all q_1253 q_1255 q_85 rfl (by omega) (by decide) rfl (Nat.le_of_ble_eq_true rfl) 71 rfl dX12_is_68 rfl ?_
        refine a_icmp_ge 182 74 rfl dX12_is_71 (by decide) (fun _ => ?_) (fun hc => absurd (nI_le (a := (2 ^ M.1 0)) (b := (2 ^ M.1 0)) (by omega) (by omega)) hc)
        refine a_eq (lv2 := [(7, .int (nI (2 ^ M.1 0))), (5, .int (f_i (f_isM 0 (2 ^ M.1 0) x (s9 + 1)))), (6, .int (nI s9)), (3, .long x), (0, .ref (g_ad G 38)), (2, .int 0)]) rfl (congrArg (fun z9 => ([(7, .int (nI (2 ^ M.1 0))), (5, .int z9), (6, .int (nI s9)), (3, .long x), (0, .ref (g_ad G 38)), (2, .int 0)] : List (Nat × Value))) (by rw [f_isM, e1]; rfl)) rfl rfl ?_
        refine a_iinc (y := nI (s9 + 1)) (lv' := [(6, .int (nI (s9 + 1))), (7, .int (nI (2 ^ M.1 0))), (5, .int (f_i (f_isM 0 (2 ^ M.1 0) x (s9 + 1)))), (3, .long x), (0, .ref (g_ad G 38)), (2, .int 0)]) 2 185 rfl dX12_is_182 rfl (nI_1 s9) (by decide) rfl ?_
        refine a_goto 53 dX12_is_185 (by decide) ?_
        refine a_sub (lv' := [(6, .int (nI (s9 + 1))), (5, .int (f_i (f_isM 0 (2 ^ M.1 0) x (s9 + 1)))), (3, .long x), (0, .ref (g_ad G 38)), (2, .int 0)]) [0, 2, 3, 4, 5] rfl ?_
        exact k_s9 trivial
    · skip
      refine a_iload 0 67 rfl dX12_is_65 rfl ?_
      refine a_aload_n 4 68 rfl dX12_is_67 rfl rfl ?_
      refine a_callV (as := []) (rest := [.int 0]) (st2 := [.int (nI (2 ^ M.1 0)), .int 0]) (u1 := 0) (v1 := 0) (u2 := 0) (v2 := 0) (r_allM hn) (⟨_, _, _, _, rfl, rfl⟩) oX12_all q_1253 q_1255 q_85 rfl (by omega) (by decide) rfl (Nat.le_of_ble_eq_true rfl) 71 rfl dX12_is_68 rfl ?_
      refine a_icmp_ge 182 74 rfl dX12_is_71 (by decide) (fun hc => absurd hc (nI_ge (a := 0) (b := (2 ^ M.1 0)) (by omega) (by omega))) (fun _ => ?_)
      refine a_lload_n 3 75 rfl dX12_is_74 rfl rfl ?_
      refine a_iload 1 77 rfl dX12_is_75 rfl ?_
      refine a_callS (as := [.long x, .int (nI s9)]) (rest := []) (st2 := [.int (f_i (f_b x s9))]) (u1 := 0) (v1 := 0) (u2 := 0) (v2 := 0) (r_hasB (s := s9) (by omega)) oX12_has q_1304 q_1305 rfl (by omega) (by decide) rfl (Nat.le_of_ble_eq_true rfl) 80 rfl dX12_is_77 rfl ?_
      refine a_if_eq 182 83 rfl dX12_is_80 (by decide) (fun _ => ?_) (fun hc => absurd (f_i_F e1) hc)
      refine a_eq (lv2 := [(7, .int 0), (6, .int (nI s9)), (5, .int (f_i (f_isM 0 (2 ^ M.1 0) x (s9 + 1)))), (3, .long x), (0, .ref (g_ad G 38)), (2, .int 0)]) rfl (congrArg (fun z9 => ([(7, .int 0), (6, .int (nI s9)), (5, .int z9), (3, .long x), (0, .ref (g_ad G 38)), (2, .int 0)] : List (Nat × Value))) (by rw [f_isM, e1]; rfl)) rfl rfl ?_
      refine a_iinc (y := nI (s9 + 1)) (lv' := [(6, .int (nI (s9 + 1))), (7, .int 0), (5, .int (f_i (f_isM 0 (2 ^ M.1 0) x (s9 + 1)))), (3, .long x), (0, .ref (g_ad G 38)), (2, .int 0)]) 1 185 rfl dX12_is_182 rfl (nI_1 s9) (by decide) rfl ?_
      refine a_goto 53 dX12_is_185 (by decide) ?_
      refine a_sub (lv' := [(6, .int (nI (s9 + 1))), (5, .int (f_i (f_isM 0 (2 ^ M.1 0) x (s9 + 1)))), (3, .long x), (0, .ref (g_ad G 38)), (2, .int 0)]) [0, 2, 3, 4, 5] rfl ?_
      exact k_s9 trivial
  · skip
    refine a_iload 0 55 rfl dX12_is_53 rfl ?_
    refine a_aload_n 3 56 rfl dX12_is_55 rfl rfl ?_
    refine a_callV (as := []) (rest := [.int (nI (2 ^ M.1 0))]) (st2 := [.int (nI (2 ^ M.1 0)), .int (nI (2 ^ M.1 0))]) (u1 := 0) (v1 := 0) (u2 := 0) (v2 := 0) (r_allM hn) (⟨_, _, _, _, rfl, rfl⟩) oX12_all q_1253 q_1255 q_85 rfl (by omega) (by decide) rfl (Nat.le_of_ble_eq_true rfl) 59 rfl dX12_is_56 rfl ?_
    refine a_icmp_ge 188 62 rfl dX12_is_59 (by decide) (fun _ => ?_) (fun hc => absurd (nI_le (a := (2 ^ M.1 0)) (b := (2 ^ M.1 0)) (by omega) (by omega)) hc)
    refine a_iload 1 190 rfl dX12_is_188 rfl ?_
    refine g_sfx (pc := 198) (lv := [(6, .int (nI (2 ^ M.1 0))), (5, .int (f_i (f_isM 0 (2 ^ M.1 0) x (2 ^ M.1 0)))), (3, .long x), (0, .ref (g_ad G 38)), (2, .int 0)]) (st := [.int (f_i (f_isM 0 (2 ^ M.1 0) x (2 ^ M.1 0)))]) (h := (g_hp G C (g_hm G M ++ ob))) (fun key => ?_) ?_
    · skip
      rcases Bool.eq_false_or_eq_true ((f_isM 0 (2 ^ M.1 0) x (2 ^ M.1 0))) with c190_1 | c190_1
      · skip
        refine a_if_eq 197 193 rfl dX12_is_190 (by decide) (fun hc => absurd hc (f_i_T c190_1)) (fun _ => ?_)
        refine a_iconst (x := 1) 194 rfl dX12_is_193 (by decide) ?_
        refine a_goto 198 dX12_is_194 (by decide) ?_
        exact a_eq rfl (rfl) (by rw [c190_1]; rfl) rfl key
      · skip
        refine a_if_eq 197 193 rfl dX12_is_190 (by decide) (fun _ => ?_) (fun hc => absurd (f_i_F c190_1) hc)
        refine a_iconst (x := 0) 198 rfl dX12_is_197 (by decide) ?_
        exact a_eq rfl (rfl) (by rw [c190_1]; rfl) rfl key
    exact a_ireturn .int rfl rfl (rfl) (rfl) dX12_is_198

theorem r_isM1 (hn : M.1 0 ≤ 6) (hn0 : 0 < M.1 0) (hi : f_mis M j T) : g_Run G mX12_is 6 0 0 [.ref (g_ad G 38), .int (nI j), .int 1] (g_hp G C (g_hm G M ++ ob)) (some (.int (f_i (f_isM 1 (2 ^ M.1 0) (f_mso M T) (2 ^ M.1 0))))) (g_hp G C (g_hm G M ++ ob)) := by
  have hp : 2 ^ M.1 0 ≤ 64 := Nat.pow_le_pow_right (by decide) hn
  have hp0 : 0 < 2 ^ M.1 0 := Nat.two_pow_pos _
  obtain ⟨x, ex⟩ : ∃ x, x = f_mso M T := ⟨_, rfl⟩
  rw [← ex]
  refine g_Run.of (lv := [(0, .ref (g_ad G 38)), (1, .int (nI j)), (2, .int 1)]) (by decide) (Nat.le_of_ble_eq_true rfl) rfl ?_
  refine a_aload_n 0 1 rfl dX12_is_0 rfl rfl ?_
  refine a_iload_n 1 2 rfl dX12_is_1 rfl rfl ?_
  refine a_callV (as := [.int (nI j)]) (rest := []) (st2 := [.int 1]) (u1 := 0) (v1 := 0) (u2 := 0) (v2 := 0) (r_isFam_in hi.2.1 hi.1) (⟨_, _, _, _, rfl, rfl⟩) oX12_isFamily q_1273 q_1275 q_87 rfl (by omega) (by decide) rfl (Nat.le_of_ble_eq_true rfl) 5 rfl dX12_is_2 rfl ?_
  refine a_if_eq 20 8 rfl dX12_is_5 (by decide) (fun hc => absurd hc ((by decide))) (fun _ => ?_)
  refine a_iload_n 2 9 rfl dX12_is_8 rfl rfl ?_
  refine a_i2l 10 rfl dX12_is_9 ?_
  refine a_lconst (x := 0) 11 rfl dX12_is_10 (by decide) ?_
  refine a_ldc2 q_1362 14 rfl dX12_is_11 ?_
  refine a_callS (as := [.long ((1 : Int32).toInt64), .long 0, .long 3]) (rest := []) (st2 := [.int (f_i (decide ((0 : Int32) ≤ (1 : Int32) ∧ (1 : Int32) ≤ 3)))]) (u1 := 0) (v1 := 0) (u2 := 0) (v2 := 0) (r_isInB (y := (1 : Int32)) (a := 0) (b := 3) rfl rfl) oX12_isIn q_1242 q_1243 rfl (by omega) (by decide) rfl (Nat.le_of_ble_eq_true rfl) 17 rfl dX12_is_14 rfl ?_
  refine a_if_ne 22 20 rfl dX12_is_17 (by decide) (fun _ => ?_) (fun hc => absurd hc (f_i_T (by decide)))
  refine a_aload_n 0 23 rfl dX12_is_22 rfl rfl ?_
  refine a_iload_n 1 24 rfl dX12_is_23 rfl rfl ?_
  refine a_callV (as := [.int (nI j)]) (rest := []) (st2 := [.long (f_mso M T)]) (u1 := 0) (v1 := 0) (u2 := 0) (v2 := 0) (r_mso hn hi) (⟨_, _, _, _, rfl, rfl⟩) oX12_setsOf q_1296 q_1298 q_89 rfl (by omega) (by decide) rfl (Nat.le_of_ble_eq_true rfl) 27 rfl dX12_is_24 rfl ?_
  refine a_eq (st2 := [.long x]) rfl rfl (congrArg (fun z9 => Value.long z9 :: []) (ex.symm)) rfl ?_
  refine a_lstore_n (lv' := [(3, .long x), (0, .ref (g_ad G 38)), (1, .int (nI j)), (2, .int 1)]) 28 rfl dX12_is_27 rfl (by decide) rfl ?_
  refine a_iload_n 3 29 rfl dX12_is_28 rfl rfl ?_
  refine a_iconst (x := 3) 30 rfl dX12_is_29 (by decide) ?_
  refine a_icmp_ne 47 33 rfl dX12_is_30 (by decide) (fun _ => ?_) (fun hc => absurd hc ((by decide)))
  refine a_iconst (x := 1) 48 rfl dX12_is_47 (by decide) ?_
  refine a_istore (lv' := [(5, .int 1), (3, .long x), (0, .ref (g_ad G 38)), (1, .int (nI j)), (2, .int 1)]) 50 rfl dX12_is_48 (by decide) rfl ?_
  refine a_iconst (x := 0) 51 rfl dX12_is_50 (by decide) ?_
  refine a_istore (lv' := [(6, .int 0), (5, .int 1), (3, .long x), (0, .ref (g_ad G 38)), (1, .int (nI j)), (2, .int 1)]) 53 rfl dX12_is_51 (by decide) rfl ?_
  refine a_sub (lv' := [(6, .int (nI 0)), (5, .int (f_i (f_isM 1 (2 ^ M.1 0) x 0))), (3, .long x), (0, .ref (g_ad G 38)), (2, .int 1)]) [0, 1, 2, 3, 5] rfl ?_
  refine g_for (P := fun s9 => True) (2 ^ M.1 0) (fun s9 => [(6, .int (nI s9)), (5, .int (f_i (f_isM 1 (2 ^ M.1 0) x s9))), (3, .long x), (0, .ref (g_ad G 38)), (2, .int 1)]) (fun s9 => (g_hp G C (g_hm G M ++ ob))) (trivial) (fun s9 h_s9 p_s9 k_s9 => ?_) (fun p_s9 => ?_)
  · skip
    refine a_iload 0 55 rfl dX12_is_53 rfl ?_
    refine a_aload_n 3 56 rfl dX12_is_55 rfl rfl ?_
    refine a_callV (as := []) (rest := [.int (nI s9)]) (st2 := [.int (nI (2 ^ M.1 0)), .int (nI s9)]) (u1 := 0) (v1 := 0) (u2 := 0) (v2 := 0) (r_allM hn) (⟨_, _, _, _, rfl, rfl⟩) oX12_all q_1253 q_1255 q_85 rfl (by omega) (by decide) rfl (Nat.le_of_ble_eq_true rfl) 59 rfl dX12_is_56 rfl ?_
    refine a_icmp_ge 188 62 rfl dX12_is_59 (by decide) (fun hc => absurd hc (nI_ge (a := s9) (b := (2 ^ M.1 0)) (by omega) (by omega))) (fun _ => ?_)
    refine a_iconst (x := 0) 63 rfl dX12_is_62 (by decide) ?_
    refine a_istore (lv' := [(7, .int 0), (6, .int (nI s9)), (5, .int (f_i (f_isM 1 (2 ^ M.1 0) x s9))), (3, .long x), (0, .ref (g_ad G 38)), (2, .int 1)]) 65 rfl dX12_is_63 (by decide) rfl ?_
    rcases Bool.eq_false_or_eq_true (f_b x s9) with e1 | e1
    · skip
      refine a_sub (lv' := [(7, .int (nI 0)), (5, .int (f_i (f_alF (f_isM 1 (2 ^ M.1 0) x s9) (f_isc 1 x s9) 0))), (6, .int (nI s9)), (3, .long x), (0, .ref (g_ad G 38)), (2, .int 1)]) [0, 2, 1, 3, 4, 5] rfl ?_
      refine g_for (P := fun o9 => True) (2 ^ M.1 0) (fun o9 => [(7, .int (nI o9)), (5, .int (f_i (f_alF (f_isM 1 (2 ^ M.1 0) x s9) (f_isc 1 x s9) o9))), (6, .int (nI s9)), (3, .long x), (0, .ref (g_ad G 38)), (2, .int 1)]) (fun o9 => (g_hp G C (g_hm G M ++ ob))) (trivial) (fun o9 h_o9 p_o9 k_o9 => ?_) (fun p_o9 => ?_)
      · skip
        have hb : s9 &&& o9 ≤ s9 := Nat.and_le_left
        refine a_iload 0 67 rfl dX12_is_65 rfl ?_
        refine a_aload_n 4 68 rfl dX12_is_67 rfl rfl ?_
        refine a_callV (as := []) (rest := [.int (nI o9)]) (st2 := [.int (nI (2 ^ M.1 0)), .int (nI o9)]) (u1 := 0) (v1 := 0) (u2 := 0) (v2 := 0) (r_allM hn) (⟨_, _, _, _, rfl, rfl⟩) oX12_all q_1253 q_1255 q_85 rfl (by omega) (by decide) rfl (Nat.le_of_ble_eq_true rfl) 71 rfl dX12_is_68 rfl ?_
        refine a_icmp_ge 182 74 rfl dX12_is_71 (by decide) (fun hc => absurd hc (nI_ge (a := o9) (b := (2 ^ M.1 0)) (by omega) (by omega))) (fun _ => ?_)
        refine a_lload_n 3 75 rfl dX12_is_74 rfl rfl ?_
        refine a_iload 2 77 rfl dX12_is_75 rfl ?_
        refine a_callS (as := [.long x, .int (nI s9)]) (rest := []) (st2 := [.int (f_i (f_b x s9))]) (u1 := 0) (v1 := 0) (u2 := 0) (v2 := 0) (r_hasB (s := s9) (by omega)) oX12_has q_1304 q_1305 rfl (by omega) (by decide) rfl (Nat.le_of_ble_eq_true rfl) 80 rfl dX12_is_77 rfl ?_
        refine a_if_eq 182 83 rfl dX12_is_80 (by decide) (fun hc => absurd hc (f_i_T e1)) (fun _ => ?_)
        refine a_iload_n 5 84 rfl dX12_is_83 rfl rfl ?_
        refine a_iconst (x := 2) 85 rfl dX12_is_84 (by decide) ?_
        refine a_icmp_ne 120 88 rfl dX12_is_85 (by decide) (fun _ => ?_) (fun hc => absurd hc ((by decide)))
        refine a_lload_n 3 121 rfl dX12_is_120 rfl rfl ?_
        refine a_iload 0 123 rfl dX12_is_121 rfl ?_
        refine a_callS (as := [.long x, .int (nI o9)]) (rest := []) (st2 := [.int (f_i (f_b x o9))]) (u1 := 0) (v1 := 0) (u2 := 0) (v2 := 0) (r_hasB (s := o9) (by omega)) oX12_has q_1304 q_1305 rfl (by omega) (by decide) rfl (Nat.le_of_ble_eq_true rfl) 126 rfl dX12_is_123 rfl ?_
        rcases Bool.eq_false_or_eq_true (f_b x o9) with e2 | e2
        · skip
          refine g_sfx (pc := 173) (lv := [(7, .int (nI o9)), (5, .int (f_i (f_alF (f_isM 1 (2 ^ M.1 0) x s9) (f_isc 1 x s9) o9))), (6, .int (nI s9)), (3, .long x), (0, .ref (g_ad G 38)), (2, .int 1)]) (st := [.int (f_i (!(decide ((s9 &&& o9) = 0)))), .int (f_i (f_alF (f_isM 1 (2 ^ M.1 0) x s9) (f_isc 1 x s9) o9))]) (h := (g_hp G C (g_hm G M ++ ob))) (fun key => ?_) ?_
          · skip
            refine a_if_eq 176 129 rfl dX12_is_126 (by decide) (fun hc => absurd hc (f_i_T e2)) (fun _ => ?_)
            refine a_iload 1 131 rfl dX12_is_129 rfl ?_
            refine a_iload_n 5 132 rfl dX12_is_131 rfl rfl ?_
            refine a_if_ne 160 135 rfl dX12_is_132 (by decide) (fun _ => ?_) (fun hc => absurd hc ((by decide)))
            refine a_iload 2 162 rfl dX12_is_160 rfl ?_
            refine a_iload 0 164 rfl dX12_is_162 rfl ?_
            refine a_iand 165 rfl dX12_is_164 ?_
            refine a_eq (st2 := [.int (nI (s9 &&& o9)), .int (f_i (f_alF (f_isM 1 (2 ^ M.1 0) x s9) (f_isc 1 x s9) o9))]) rfl rfl (congrArg (fun z9 => Value.int z9 :: [.int (f_i (f_alF (f_isM 1 (2 ^ M.1 0) x s9) (f_isc 1 x s9) o9))]) (nI_and s9 o9)) rfl ?_
            rcases Bool.eq_false_or_eq_true (decide ((s9 &&& o9) = 0)) with c165_1 | c165_1
            · skip
              refine a_if_eq 172 168 rfl dX12_is_165 (by decide) (fun _ => ?_) (fun hc => absurd (congrArg nI (of_decide_eq_true c165_1)) hc)
              refine a_iconst (x := 0) 173 rfl dX12_is_172 (by decide) ?_
              exact a_eq rfl (rfl) (by rw [c165_1]; rfl) rfl key
            · skip
              refine a_if_eq 172 168 rfl dX12_is_165 (by decide) (fun hc => absurd hc (fun z9 => of_decide_eq_false c165_1 (nI_inj9 (a := (s9 &&& o9)) (b := 0) (by omega) (by omega) z9))) (fun _ => ?_)
              refine a_iconst (x := 1) 169 rfl dX12_is_168 (by decide) ?_
              refine a_goto 173 dX12_is_169 (by decide) ?_
              exact a_eq rfl (rfl) (by rw [c165_1]; rfl) rfl key
          refine a_iand 174 rfl dX12_is_173 ?_
          refine a_eq (st2 := [.int (f_i ((f_alF (f_isM 1 (2 ^ M.1 0) x s9) (f_isc 1 x s9) o9) && (!(decide ((s9 &&& o9) = 0)))))]) rfl rfl (congrArg (fun z9 => Value.int z9 :: []) (f_i_and (f_alF (f_isM 1 (2 ^ M.1 0) x s9) (f_isc 1 x s9) o9) (!(decide ((s9 &&& o9) = 0))))) rfl ?_
          refine a_istore (lv' := [(5, .int (f_i ((f_alF (f_isM 1 (2 ^ M.1 0) x s9) (f_isc 1 x s9) o9) && (!(decide ((s9 &&& o9) = 0)))))), (7, .int (nI o9)), (6, .int (nI s9)), (3, .long x), (0, .ref (g_ad G 38)), (2, .int 1)]) 176 rfl dX12_is_174 (by decide) rfl ?_
          refine a_eq (lv2 := [(5, .int (f_i (f_alF (f_isM 1 (2 ^ M.1 0) x s9) (f_isc 1 x s9) (o9 + 1)))), (7, .int (nI o9)), (6, .int (nI s9)), (3, .long x), (0, .ref (g_ad G 38)), (2, .int 1)]) rfl (congrArg (fun z9 => ([(5, .int z9), (7, .int (nI o9)), (6, .int (nI s9)), (3, .long x), (0, .ref (g_ad G 38)), (2, .int 1)] : List (Nat × Value))) (by show _ = f_i (_ && f_isc 1 x s9 o9); unfold f_isc; rw [e2]; rfl)) rfl rfl ?_
          refine a_iinc (y := nI (o9 + 1)) (lv' := [(7, .int (nI (o9 + 1))), (5, .int (f_i (f_alF (f_isM 1 (2 ^ M.1 0) x s9) (f_isc 1 x s9) (o9 + 1)))), (6, .int (nI s9)), (3, .long x), (0, .ref (g_ad G 38)), (2, .int 1)]) 1 179 rfl dX12_is_176 rfl (nI_1 o9) (by decide) rfl ?_
          refine a_goto 65 dX12_is_179 (by decide) ?_
          refine a_sub (lv' := [(7, .int (nI (o9 + 1))), (5, .int (f_i (f_alF (f_isM 1 (2 ^ M.1 0) x s9) (f_isc 1 x s9) (o9 + 1)))), (6, .int (nI s9)), (3, .long x), (0, .ref (g_ad G 38)), (2, .int 1)]) [0, 1, 2, 3, 4, 5] rfl ?_
          exact k_o9 trivial
        · skip
          refine a_if_eq 176 129 rfl dX12_is_126 (by decide) (fun _ => ?_) (fun hc => absurd (f_i_F e2) hc)
          refine a_eq (lv2 := [(7, .int (nI o9)), (5, .int (f_i (f_alF (f_isM 1 (2 ^ M.1 0) x s9) (f_isc 1 x s9) (o9 + 1)))), (6, .int (nI s9)), (3, .long x), (0, .ref (g_ad G 38)), (2, .int 1)]) rfl (congrArg (fun z9 => ([(7, .int (nI o9)), (5, .int z9), (6, .int (nI s9)), (3, .long x), (0, .ref (g_ad G 38)), (2, .int 1)] : List (Nat × Value))) (by show _ = f_i (_ && f_isc 1 x s9 o9); unfold f_isc; rw [e2]; show _ = f_i (_ && true); rw [Bool.and_true])) rfl rfl ?_
          refine a_iinc (y := nI (o9 + 1)) (lv' := [(7, .int (nI (o9 + 1))), (5, .int (f_i (f_alF (f_isM 1 (2 ^ M.1 0) x s9) (f_isc 1 x s9) (o9 + 1)))), (6, .int (nI s9)), (3, .long x), (0, .ref (g_ad G 38)), (2, .int 1)]) 0 179 rfl dX12_is_176 rfl (nI_1 o9) (by decide) rfl ?_
          refine a_goto 65 dX12_is_179 (by decide) ?_
          refine a_sub (lv' := [(7, .int (nI (o9 + 1))), (5, .int (f_i (f_alF (f_isM 1 (2 ^ M.1 0) x s9) (f_isc 1 x s9) (o9 + 1)))), (6, .int (nI s9)), (3, .long x), (0, .ref (g_ad G 38)), (2, .int 1)]) [0, 1, 2, 3, 4, 5] rfl ?_
          exact k_o9 trivial
      · skip
        refine a_iload 0 67 rfl dX12_is_65 rfl ?_
        refine a_aload_n 4 68 rfl dX12_is_67 rfl rfl ?_
        refine a_callV (as := []) (rest := [.int (nI (2 ^ M.1 0))]) (st2 := [.int (nI (2 ^ M.1 0)), .int (nI (2 ^ M.1 0))]) (u1 := 0) (v1 := 0) (u2 := 0) (v2 := 0) (r_allM hn) (⟨_, _, _, _, rfl, rfl⟩) oX12_all q_1253 q_1255 q_85 rfl (by omega) (by decide) rfl (Nat.le_of_ble_eq_true rfl) 71 rfl dX12_is_68 rfl ?_
        refine a_icmp_ge 182 74 rfl dX12_is_71 (by decide) (fun _ => ?_) (fun hc => absurd (nI_le (a := (2 ^ M.1 0)) (b := (2 ^ M.1 0)) (by omega) (by omega)) hc)
        refine a_eq (lv2 := [(7, .int (nI (2 ^ M.1 0))), (5, .int (f_i (f_isM 1 (2 ^ M.1 0) x (s9 + 1)))), (6, .int (nI s9)), (3, .long x), (0, .ref (g_ad G 38)), (2, .int 1)]) rfl (congrArg (fun z9 => ([(7, .int (nI (2 ^ M.1 0))), (5, .int z9), (6, .int (nI s9)), (3, .long x), (0, .ref (g_ad G 38)), (2, .int 1)] : List (Nat × Value))) (by rw [f_isM, e1]; rfl)) rfl rfl ?_
        refine a_iinc (y := nI (s9 + 1)) (lv' := [(6, .int (nI (s9 + 1))), (7, .int (nI (2 ^ M.1 0))), (5, .int (f_i (f_isM 1 (2 ^ M.1 0) x (s9 + 1)))), (3, .long x), (0, .ref (g_ad G 38)), (2, .int 1)]) 2 185 rfl dX12_is_182 rfl (nI_1 s9) (by decide) rfl ?_
        refine a_goto 53 dX12_is_185 (by decide) ?_
        refine a_sub (lv' := [(6, .int (nI (s9 + 1))), (5, .int (f_i (f_isM 1 (2 ^ M.1 0) x (s9 + 1)))), (3, .long x), (0, .ref (g_ad G 38)), (2, .int 1)]) [0, 2, 3, 4, 5] rfl ?_
        exact k_s9 trivial
    · skip
      refine a_iload 0 67 rfl dX12_is_65 rfl ?_
      refine a_aload_n 4 68 rfl dX12_is_67 rfl rfl ?_
      refine a_callV (as := []) (rest := [.int 0]) (st2 := [.int (nI (2 ^ M.1 0)), .int 0]) (u1 := 0) (v1 := 0) (u2 := 0) (v2 := 0) (r_allM hn) (⟨_, _, _, _, rfl, rfl⟩) oX12_all q_1253 q_1255 q_85 rfl (by omega) (by decide) rfl (Nat.le_of_ble_eq_true rfl) 71 rfl dX12_is_68 rfl ?_
      refine a_icmp_ge 182 74 rfl dX12_is_71 (by decide) (fun hc => absurd hc (nI_ge (a := 0) (b := (2 ^ M.1 0)) (by omega) (by omega))) (fun _ => ?_)
      refine a_lload_n 3 75 rfl dX12_is_74 rfl rfl ?_
      refine a_iload 1 77 rfl dX12_is_75 rfl ?_
      refine a_callS (as := [.long x, .int (nI s9)]) (rest := []) (st2 := [.int (f_i (f_b x s9))]) (u1 := 0) (v1 := 0) (u2 := 0) (v2 := 0) (r_hasB (s := s9) (by omega)) oX12_has q_1304 q_1305 rfl (by omega) (by decide) rfl (Nat.le_of_ble_eq_true rfl) 80 rfl dX12_is_77 rfl ?_
      refine a_if_eq 182 83 rfl dX12_is_80 (by decide) (fun _ => ?_) (fun hc => absurd (f_i_F e1) hc)
      refine a_eq (lv2 := [(7, .int 0), (6, .int (nI s9)), (5, .int (f_i (f_isM 1 (2 ^ M.1 0) x (s9 + 1)))), (3, .long x), (0, .ref (g_ad G 38)), (2, .int 1)]) rfl (congrArg (fun z9 => ([(7, .int 0), (6, .int (nI s9)), (5, .int z9), (3, .long x), (0, .ref (g_ad G 38)), (2, .int 1)] : List (Nat × Value))) (by rw [f_isM, e1]; rfl)) rfl rfl ?_
      refine a_iinc (y := nI (s9 + 1)) (lv' := [(6, .int (nI (s9 + 1))), (7, .int 0), (5, .int (f_i (f_isM 1 (2 ^ M.1 0) x (s9 + 1)))), (3, .long x), (0, .ref (g_ad G 38)), (2, .int 1)]) 1 185 rfl dX12_is_182 rfl (nI_1 s9) (by decide) rfl ?_
      refine a_goto 53 dX12_is_185 (by decide) ?_
      refine a_sub (lv' := [(6, .int (nI (s9 + 1))), (5, .int (f_i (f_isM 1 (2 ^ M.1 0) x (s9 + 1)))), (3, .long x), (0, .ref (g_ad G 38)), (2, .int 1)]) [0, 2, 3, 4, 5] rfl ?_
      exact k_s9 trivial
  · skip
    refine a_iload 0 55 rfl dX12_is_53 rfl ?_
    refine a_aload_n 3 56 rfl dX12_is_55 rfl rfl ?_
    refine a_callV (as := []) (rest := [.int (nI (2 ^ M.1 0))]) (st2 := [.int (nI (2 ^ M.1 0)), .int (nI (2 ^ M.1 0))]) (u1 := 0) (v1 := 0) (u2 := 0) (v2 := 0) (r_allM hn) (⟨_, _, _, _, rfl, rfl⟩) oX12_all q_1253 q_1255 q_85 rfl (by omega) (by decide) rfl (Nat.le_of_ble_eq_true rfl) 59 rfl dX12_is_56 rfl ?_
    refine a_icmp_ge 188 62 rfl dX12_is_59 (by decide) (fun _ => ?_) (fun hc => absurd (nI_le (a := (2 ^ M.1 0)) (b := (2 ^ M.1 0)) (by omega) (by omega)) hc)
    refine a_iload 1 190 rfl dX12_is_188 rfl ?_
    refine g_sfx (pc := 198) (lv := [(6, .int (nI (2 ^ M.1 0))), (5, .int (f_i (f_isM 1 (2 ^ M.1 0) x (2 ^ M.1 0)))), (3, .long x), (0, .ref (g_ad G 38)), (2, .int 1)]) (st := [.int (f_i (f_isM 1 (2 ^ M.1 0) x (2 ^ M.1 0)))]) (h := (g_hp G C (g_hm G M ++ ob))) (fun key => ?_) ?_
    · skip
      rcases Bool.eq_false_or_eq_true ((f_isM 1 (2 ^ M.1 0) x (2 ^ M.1 0))) with c190_1 | c190_1
      · skip
        refine a_if_eq 197 193 rfl dX12_is_190 (by decide) (fun hc => absurd hc (f_i_T c190_1)) (fun _ => ?_)
        refine a_iconst (x := 1) 194 rfl dX12_is_193 (by decide) ?_
        refine a_goto 198 dX12_is_194 (by decide) ?_
        exact a_eq rfl (rfl) (by rw [c190_1]; rfl) rfl key
      · skip
        refine a_if_eq 197 193 rfl dX12_is_190 (by decide) (fun _ => ?_) (fun hc => absurd (f_i_F c190_1) hc)
        refine a_iconst (x := 0) 198 rfl dX12_is_197 (by decide) ?_
        exact a_eq rfl (rfl) (by rw [c190_1]; rfl) rfl key
    exact a_ireturn .int rfl rfl (rfl) (rfl) dX12_is_198

theorem r_isM2 (hn : M.1 0 ≤ 6) (hn0 : 0 < M.1 0) (hi : f_mis M j T) : g_Run G mX12_is 6 0 0 [.ref (g_ad G 38), .int (nI j), .int 2] (g_hp G C (g_hm G M ++ ob)) (some (.int (f_i (f_isM 2 (2 ^ M.1 0) (f_mso M T) (2 ^ M.1 0))))) (g_hp G C (g_hm G M ++ ob)) := by
  have hp : 2 ^ M.1 0 ≤ 64 := Nat.pow_le_pow_right (by decide) hn
  have hp0 : 0 < 2 ^ M.1 0 := Nat.two_pow_pos _
  obtain ⟨x, ex⟩ : ∃ x, x = f_mso M T := ⟨_, rfl⟩
  rw [← ex]
  refine g_Run.of (lv := [(0, .ref (g_ad G 38)), (1, .int (nI j)), (2, .int 2)]) (by decide) (Nat.le_of_ble_eq_true rfl) rfl ?_
  refine a_aload_n 0 1 rfl dX12_is_0 rfl rfl ?_
  refine a_iload_n 1 2 rfl dX12_is_1 rfl rfl ?_
  refine a_callV (as := [.int (nI j)]) (rest := []) (st2 := [.int 1]) (u1 := 0) (v1 := 0) (u2 := 0) (v2 := 0) (r_isFam_in hi.2.1 hi.1) (⟨_, _, _, _, rfl, rfl⟩) oX12_isFamily q_1273 q_1275 q_87 rfl (by omega) (by decide) rfl (Nat.le_of_ble_eq_true rfl) 5 rfl dX12_is_2 rfl ?_
  refine a_if_eq 20 8 rfl dX12_is_5 (by decide) (fun hc => absurd hc ((by decide))) (fun _ => ?_)
  refine a_iload_n 2 9 rfl dX12_is_8 rfl rfl ?_
  refine a_i2l 10 rfl dX12_is_9 ?_
  refine a_lconst (x := 0) 11 rfl dX12_is_10 (by decide) ?_
  refine a_ldc2 q_1362 14 rfl dX12_is_11 ?_
  refine a_callS (as := [.long ((2 : Int32).toInt64), .long 0, .long 3]) (rest := []) (st2 := [.int (f_i (decide ((0 : Int32) ≤ (2 : Int32) ∧ (2 : Int32) ≤ 3)))]) (u1 := 0) (v1 := 0) (u2 := 0) (v2 := 0) (r_isInB (y := (2 : Int32)) (a := 0) (b := 3) rfl rfl) oX12_isIn q_1242 q_1243 rfl (by omega) (by decide) rfl (Nat.le_of_ble_eq_true rfl) 17 rfl dX12_is_14 rfl ?_
  refine a_if_ne 22 20 rfl dX12_is_17 (by decide) (fun _ => ?_) (fun hc => absurd hc (f_i_T (by decide)))
  refine a_aload_n 0 23 rfl dX12_is_22 rfl rfl ?_
  refine a_iload_n 1 24 rfl dX12_is_23 rfl rfl ?_
  refine a_callV (as := [.int (nI j)]) (rest := []) (st2 := [.long (f_mso M T)]) (u1 := 0) (v1 := 0) (u2 := 0) (v2 := 0) (r_mso hn hi) (⟨_, _, _, _, rfl, rfl⟩) oX12_setsOf q_1296 q_1298 q_89 rfl (by omega) (by decide) rfl (Nat.le_of_ble_eq_true rfl) 27 rfl dX12_is_24 rfl ?_
  refine a_eq (st2 := [.long x]) rfl rfl (congrArg (fun z9 => Value.long z9 :: []) (ex.symm)) rfl ?_
  refine a_lstore_n (lv' := [(3, .long x), (0, .ref (g_ad G 38)), (1, .int (nI j)), (2, .int 2)]) 28 rfl dX12_is_27 rfl (by decide) rfl ?_
  refine a_iload_n 3 29 rfl dX12_is_28 rfl rfl ?_
  refine a_iconst (x := 3) 30 rfl dX12_is_29 (by decide) ?_
  refine a_icmp_ne 47 33 rfl dX12_is_30 (by decide) (fun _ => ?_) (fun hc => absurd hc ((by decide)))
  refine a_iconst (x := 1) 48 rfl dX12_is_47 (by decide) ?_
  refine a_istore (lv' := [(5, .int 1), (3, .long x), (0, .ref (g_ad G 38)), (1, .int (nI j)), (2, .int 2)]) 50 rfl dX12_is_48 (by decide) rfl ?_
  refine a_iconst (x := 0) 51 rfl dX12_is_50 (by decide) ?_
  refine a_istore (lv' := [(6, .int 0), (5, .int 1), (3, .long x), (0, .ref (g_ad G 38)), (1, .int (nI j)), (2, .int 2)]) 53 rfl dX12_is_51 (by decide) rfl ?_
  refine a_sub (lv' := [(6, .int (nI 0)), (5, .int (f_i (f_isM 2 (2 ^ M.1 0) x 0))), (3, .long x), (0, .ref (g_ad G 38)), (2, .int 2)]) [0, 1, 2, 3, 5] rfl ?_
  refine g_for (P := fun s9 => True) (2 ^ M.1 0) (fun s9 => [(6, .int (nI s9)), (5, .int (f_i (f_isM 2 (2 ^ M.1 0) x s9))), (3, .long x), (0, .ref (g_ad G 38)), (2, .int 2)]) (fun s9 => (g_hp G C (g_hm G M ++ ob))) (trivial) (fun s9 h_s9 p_s9 k_s9 => ?_) (fun p_s9 => ?_)
  · skip
    refine a_iload 0 55 rfl dX12_is_53 rfl ?_
    refine a_aload_n 3 56 rfl dX12_is_55 rfl rfl ?_
    refine a_callV (as := []) (rest := [.int (nI s9)]) (st2 := [.int (nI (2 ^ M.1 0)), .int (nI s9)]) (u1 := 0) (v1 := 0) (u2 := 0) (v2 := 0) (r_allM hn) (⟨_, _, _, _, rfl, rfl⟩) oX12_all q_1253 q_1255 q_85 rfl (by omega) (by decide) rfl (Nat.le_of_ble_eq_true rfl) 59 rfl dX12_is_56 rfl ?_
    refine a_icmp_ge 188 62 rfl dX12_is_59 (by decide) (fun hc => absurd hc (nI_ge (a := s9) (b := (2 ^ M.1 0)) (by omega) (by omega))) (fun _ => ?_)
    refine a_iconst (x := 0) 63 rfl dX12_is_62 (by decide) ?_
    refine a_istore (lv' := [(7, .int 0), (6, .int (nI s9)), (5, .int (f_i (f_isM 2 (2 ^ M.1 0) x s9))), (3, .long x), (0, .ref (g_ad G 38)), (2, .int 2)]) 65 rfl dX12_is_63 (by decide) rfl ?_
    rcases Bool.eq_false_or_eq_true (f_b x s9) with e1 | e1
    · skip
      refine a_sub (lv' := [(7, .int (nI 0)), (5, .int (f_i (f_alF (f_isM 2 (2 ^ M.1 0) x s9) (f_isc 2 x s9) 0))), (6, .int (nI s9)), (3, .long x), (0, .ref (g_ad G 38)), (2, .int 2)]) [0, 2, 1, 3, 4, 5] rfl ?_
      refine g_for (P := fun o9 => True) (2 ^ M.1 0) (fun o9 => [(7, .int (nI o9)), (5, .int (f_i (f_alF (f_isM 2 (2 ^ M.1 0) x s9) (f_isc 2 x s9) o9))), (6, .int (nI s9)), (3, .long x), (0, .ref (g_ad G 38)), (2, .int 2)]) (fun o9 => (g_hp G C (g_hm G M ++ ob))) (trivial) (fun o9 h_o9 p_o9 k_o9 => ?_) (fun p_o9 => ?_)
      · skip
        have hb : s9 &&& o9 ≤ s9 := Nat.and_le_left
        refine a_iload 0 67 rfl dX12_is_65 rfl ?_
        refine a_aload_n 4 68 rfl dX12_is_67 rfl rfl ?_
        refine a_callV (as := []) (rest := [.int (nI o9)]) (st2 := [.int (nI (2 ^ M.1 0)), .int (nI o9)]) (u1 := 0) (v1 := 0) (u2 := 0) (v2 := 0) (r_allM hn) (⟨_, _, _, _, rfl, rfl⟩) oX12_all q_1253 q_1255 q_85 rfl (by omega) (by decide) rfl (Nat.le_of_ble_eq_true rfl) 71 rfl dX12_is_68 rfl ?_
        refine a_icmp_ge 182 74 rfl dX12_is_71 (by decide) (fun hc => absurd hc (nI_ge (a := o9) (b := (2 ^ M.1 0)) (by omega) (by omega))) (fun _ => ?_)
        refine a_lload_n 3 75 rfl dX12_is_74 rfl rfl ?_
        refine a_iload 2 77 rfl dX12_is_75 rfl ?_
        refine a_callS (as := [.long x, .int (nI s9)]) (rest := []) (st2 := [.int (f_i (f_b x s9))]) (u1 := 0) (v1 := 0) (u2 := 0) (v2 := 0) (r_hasB (s := s9) (by omega)) oX12_has q_1304 q_1305 rfl (by omega) (by decide) rfl (Nat.le_of_ble_eq_true rfl) 80 rfl dX12_is_77 rfl ?_
        refine a_if_eq 182 83 rfl dX12_is_80 (by decide) (fun hc => absurd hc (f_i_T e1)) (fun _ => ?_)
        refine a_iload_n 5 84 rfl dX12_is_83 rfl rfl ?_
        refine a_iconst (x := 2) 85 rfl dX12_is_84 (by decide) ?_
        refine a_icmp_ne 120 88 rfl dX12_is_85 (by decide) (fun hc => absurd (rfl) hc) (fun _ => ?_)
        refine a_iload 1 90 rfl dX12_is_88 rfl ?_
        refine a_iload 2 92 rfl dX12_is_90 rfl ?_
        refine a_iload 0 94 rfl dX12_is_92 rfl ?_
        refine a_iand 95 rfl dX12_is_94 ?_
        refine a_eq (st2 := [.int (nI (s9 &&& o9)), .int (f_i (f_alF (f_isM 2 (2 ^ M.1 0) x s9) (f_isc 2 x s9) o9))]) rfl rfl (congrArg (fun z9 => Value.int z9 :: [.int (f_i (f_alF (f_isM 2 (2 ^ M.1 0) x s9) (f_isc 2 x s9) o9))]) (nI_and s9 o9)) rfl ?_
        refine a_iload 0 97 rfl dX12_is_95 rfl ?_
        refine g_sfx (pc := 114) (lv := [(7, .int (nI o9)), (5, .int (f_i (f_alF (f_isM 2 (2 ^ M.1 0) x s9) (f_isc 2 x s9) o9))), (6, .int (nI s9)), (3, .long x), (0, .ref (g_ad G 38)), (2, .int 2)]) (st := [.int (f_i ((!(decide ((s9 &&& o9) = o9))) || (f_b x o9))), .int (f_i (f_alF (f_isM 2 (2 ^ M.1 0) x s9) (f_isc 2 x s9) o9))]) (h := (g_hp G C (g_hm G M ++ ob))) (fun key => ?_) ?_
        · skip
          rcases Bool.eq_false_or_eq_true (decide ((s9 &&& o9) = o9)) with c97_1 | c97_1
          · skip
            refine a_icmp_ne 109 100 rfl dX12_is_97 (by decide) (fun hc => absurd (congrArg nI (of_decide_eq_true c97_1)) hc) (fun _ => ?_)
            refine a_lload_n 3 101 rfl dX12_is_100 rfl rfl ?_
            refine a_iload 0 103 rfl dX12_is_101 rfl ?_
            refine a_callS (as := [.long x, .int (nI o9)]) (rest := [.int (f_i (f_alF (f_isM 2 (2 ^ M.1 0) x s9) (f_isc 2 x s9) o9))]) (st2 := [.int (f_i (f_b x o9)), .int (f_i (f_alF (f_isM 2 (2 ^ M.1 0) x s9) (f_isc 2 x s9) o9))]) (u1 := 0) (v1 := 0) (u2 := 0) (v2 := 0) (r_hasB (s := o9) (by omega)) oX12_has q_1304 q_1305 rfl (by omega) (by decide) rfl (Nat.le_of_ble_eq_true rfl) 106 rfl dX12_is_103 rfl ?_
            rcases Bool.eq_false_or_eq_true ((f_b x o9)) with c106_2 | c106_2
            · skip
              refine a_if_eq 113 109 rfl dX12_is_106 (by decide) (fun hc => absurd hc (f_i_T c106_2)) (fun _ => ?_)
              refine a_iconst (x := 1) 110 rfl dX12_is_109 (by decide) ?_
              refine a_goto 114 dX12_is_110 (by decide) ?_
              exact a_eq rfl (rfl) (by rw [c97_1, c106_2]; rfl) rfl key
            · skip
              refine a_if_eq 113 109 rfl dX12_is_106 (by decide) (fun _ => ?_) (fun hc => absurd (f_i_F c106_2) hc)
              refine a_iconst (x := 0) 114 rfl dX12_is_113 (by decide) ?_
              exact a_eq rfl (rfl) (by rw [c97_1, c106_2]; rfl) rfl key
          · skip
            refine a_icmp_ne 109 100 rfl dX12_is_97 (by decide) (fun _ => ?_) (fun hc => absurd hc (fun z9 => of_decide_eq_false c97_1 (nI_inj9 (a := (s9 &&& o9)) (b := o9) (by omega) (by omega) z9)))
            refine a_iconst (x := 1) 110 rfl dX12_is_109 (by decide) ?_
            refine a_goto 114 dX12_is_110 (by decide) ?_
            exact a_eq rfl (rfl) (by rw [c97_1]; rfl) rfl key
        refine a_iand 115 rfl dX12_is_114 ?_
        refine a_eq (st2 := [.int (f_i ((f_alF (f_isM 2 (2 ^ M.1 0) x s9) (f_isc 2 x s9) o9) && ((!(decide ((s9 &&& o9) = o9))) || (f_b x o9))))]) rfl rfl (congrArg (fun z9 => Value.int z9 :: []) (f_i_and (f_alF (f_isM 2 (2 ^ M.1 0) x s9) (f_isc 2 x s9) o9) ((!(decide ((s9 &&& o9) = o9))) || (f_b x o9)))) rfl ?_
        refine a_istore (lv' := [(5, .int (f_i ((f_alF (f_isM 2 (2 ^ M.1 0) x s9) (f_isc 2 x s9) o9) && ((!(decide ((s9 &&& o9) = o9))) || (f_b x o9))))), (7, .int (nI o9)), (6, .int (nI s9)), (3, .long x), (0, .ref (g_ad G 38)), (2, .int 2)]) 117 rfl dX12_is_115 (by decide) rfl ?_
        refine a_goto 176 dX12_is_117 (by decide) ?_
        refine a_iinc (y := nI (o9 + 1)) (lv' := [(7, .int (nI (o9 + 1))), (5, .int (f_i ((f_alF (f_isM 2 (2 ^ M.1 0) x s9) (f_isc 2 x s9) o9) && ((!(decide ((s9 &&& o9) = o9))) || (f_b x o9))))), (6, .int (nI s9)), (3, .long x), (0, .ref (g_ad G 38)), (2, .int 2)]) 1 179 rfl dX12_is_176 rfl (nI_1 o9) (by decide) rfl ?_
        refine a_goto 65 dX12_is_179 (by decide) ?_
        refine a_sub (lv' := [(7, .int (nI (o9 + 1))), (5, .int (f_i (f_alF (f_isM 2 (2 ^ M.1 0) x s9) (f_isc 2 x s9) (o9 + 1)))), (6, .int (nI s9)), (3, .long x), (0, .ref (g_ad G 38)), (2, .int 2)]) [0, 1, 2, 3, 4, 5] rfl ?_
        exact k_o9 trivial
      · skip
        refine a_iload 0 67 rfl dX12_is_65 rfl ?_
        refine a_aload_n 4 68 rfl dX12_is_67 rfl rfl ?_
        refine a_callV (as := []) (rest := [.int (nI (2 ^ M.1 0))]) (st2 := [.int (nI (2 ^ M.1 0)), .int (nI (2 ^ M.1 0))]) (u1 := 0) (v1 := 0) (u2 := 0) (v2 := 0) (r_allM hn) (⟨_, _, _, _, rfl, rfl⟩) oX12_all q_1253 q_1255 q_85 rfl (by omega) (by decide) rfl (Nat.le_of_ble_eq_true rfl) 71 rfl dX12_is_68 rfl ?_
        refine a_icmp_ge 182 74 rfl dX12_is_71 (by decide) (fun _ => ?_) (fun hc => absurd (nI_le (a := (2 ^ M.1 0)) (b := (2 ^ M.1 0)) (by omega) (by omega)) hc)
        refine a_eq (lv2 := [(7, .int (nI (2 ^ M.1 0))), (5, .int (f_i (f_isM 2 (2 ^ M.1 0) x (s9 + 1)))), (6, .int (nI s9)), (3, .long x), (0, .ref (g_ad G 38)), (2, .int 2)]) rfl (congrArg (fun z9 => ([(7, .int (nI (2 ^ M.1 0))), (5, .int z9), (6, .int (nI s9)), (3, .long x), (0, .ref (g_ad G 38)), (2, .int 2)] : List (Nat × Value))) (by rw [f_isM, e1]; rfl)) rfl rfl ?_
        refine a_iinc (y := nI (s9 + 1)) (lv' := [(6, .int (nI (s9 + 1))), (7, .int (nI (2 ^ M.1 0))), (5, .int (f_i (f_isM 2 (2 ^ M.1 0) x (s9 + 1)))), (3, .long x), (0, .ref (g_ad G 38)), (2, .int 2)]) 2 185 rfl dX12_is_182 rfl (nI_1 s9) (by decide) rfl ?_
        refine a_goto 53 dX12_is_185 (by decide) ?_
        refine a_sub (lv' := [(6, .int (nI (s9 + 1))), (5, .int (f_i (f_isM 2 (2 ^ M.1 0) x (s9 + 1)))), (3, .long x), (0, .ref (g_ad G 38)), (2, .int 2)]) [0, 2, 3, 4, 5] rfl ?_
        exact k_s9 trivial
    · skip
      refine a_iload 0 67 rfl dX12_is_65 rfl ?_
      refine a_aload_n 4 68 rfl dX12_is_67 rfl rfl ?_
      refine a_callV (as := []) (rest := [.int 0]) (st2 := [.int (nI (2 ^ M.1 0)), .int 0]) (u1 := 0) (v1 := 0) (u2 := 0) (v2 := 0) (r_allM hn) (⟨_, _, _, _, rfl, rfl⟩) oX12_all q_1253 q_1255 q_85 rfl (by omega) (by decide) rfl (Nat.le_of_ble_eq_true rfl) 71 rfl dX12_is_68 rfl ?_
      refine a_icmp_ge 182 74 rfl dX12_is_71 (by decide) (fun hc => absurd hc (nI_ge (a := 0) (b := (2 ^ M.1 0)) (by omega) (by omega))) (fun _ => ?_)
      refine a_lload_n 3 75 rfl dX12_is_74 rfl rfl ?_
      refine a_iload 1 77 rfl dX12_is_75 rfl ?_
      refine a_callS (as := [.long x, .int (nI s9)]) (rest := []) (st2 := [.int (f_i (f_b x s9))]) (u1 := 0) (v1 := 0) (u2 := 0) (v2 := 0) (r_hasB (s := s9) (by omega)) oX12_has q_1304 q_1305 rfl (by omega) (by decide) rfl (Nat.le_of_ble_eq_true rfl) 80 rfl dX12_is_77 rfl ?_
      refine a_if_eq 182 83 rfl dX12_is_80 (by decide) (fun _ => ?_) (fun hc => absurd (f_i_F e1) hc)
      refine a_eq (lv2 := [(7, .int 0), (6, .int (nI s9)), (5, .int (f_i (f_isM 2 (2 ^ M.1 0) x (s9 + 1)))), (3, .long x), (0, .ref (g_ad G 38)), (2, .int 2)]) rfl (congrArg (fun z9 => ([(7, .int 0), (6, .int (nI s9)), (5, .int z9), (3, .long x), (0, .ref (g_ad G 38)), (2, .int 2)] : List (Nat × Value))) (by rw [f_isM, e1]; rfl)) rfl rfl ?_
      refine a_iinc (y := nI (s9 + 1)) (lv' := [(6, .int (nI (s9 + 1))), (7, .int 0), (5, .int (f_i (f_isM 2 (2 ^ M.1 0) x (s9 + 1)))), (3, .long x), (0, .ref (g_ad G 38)), (2, .int 2)]) 1 185 rfl dX12_is_182 rfl (nI_1 s9) (by decide) rfl ?_
      refine a_goto 53 dX12_is_185 (by decide) ?_
      refine a_sub (lv' := [(6, .int (nI (s9 + 1))), (5, .int (f_i (f_isM 2 (2 ^ M.1 0) x (s9 + 1)))), (3, .long x), (0, .ref (g_ad G 38)), (2, .int 2)]) [0, 2, 3, 4, 5] rfl ?_
      exact k_s9 trivial
  · skip
    refine a_iload 0 55 rfl dX12_is_53 rfl ?_
    refine a_aload_n 3 56 rfl dX12_is_55 rfl rfl ?_
    refine a_callV (as := []) (rest := [.int (nI (2 ^ M.1 0))]) (st2 := [.int (nI (2 ^ M.1 0)), .int (nI (2 ^ M.1 0))]) (u1 := 0) (v1 := 0) (u2 := 0) (v2 := 0) (r_allM hn) (⟨_, _, _, _, rfl, rfl⟩) oX12_all q_1253 q_1255 q_85 rfl (by omega) (by decide) rfl (Nat.le_of_ble_eq_true rfl) 59 rfl dX12_is_56 rfl ?_
    refine a_icmp_ge 188 62 rfl dX12_is_59 (by decide) (fun _ => ?_) (fun hc => absurd (nI_le (a := (2 ^ M.1 0)) (b := (2 ^ M.1 0)) (by omega) (by omega)) hc)
    refine a_iload 1 190 rfl dX12_is_188 rfl ?_
    refine g_sfx (pc := 198) (lv := [(6, .int (nI (2 ^ M.1 0))), (5, .int (f_i (f_isM 2 (2 ^ M.1 0) x (2 ^ M.1 0)))), (3, .long x), (0, .ref (g_ad G 38)), (2, .int 2)]) (st := [.int (f_i (f_isM 2 (2 ^ M.1 0) x (2 ^ M.1 0)))]) (h := (g_hp G C (g_hm G M ++ ob))) (fun key => ?_) ?_
    · skip
      rcases Bool.eq_false_or_eq_true ((f_isM 2 (2 ^ M.1 0) x (2 ^ M.1 0))) with c190_1 | c190_1
      · skip
        refine a_if_eq 197 193 rfl dX12_is_190 (by decide) (fun hc => absurd hc (f_i_T c190_1)) (fun _ => ?_)
        refine a_iconst (x := 1) 194 rfl dX12_is_193 (by decide) ?_
        refine a_goto 198 dX12_is_194 (by decide) ?_
        exact a_eq rfl (rfl) (by rw [c190_1]; rfl) rfl key
      · skip
        refine a_if_eq 197 193 rfl dX12_is_190 (by decide) (fun _ => ?_) (fun hc => absurd (f_i_F c190_1) hc)
        refine a_iconst (x := 0) 198 rfl dX12_is_197 (by decide) ?_
        exact a_eq rfl (rfl) (by rw [c190_1]; rfl) rfl key
    exact a_ireturn .int rfl rfl (rfl) (rfl) dX12_is_198
theorem r_pfM {z : Nat} (hn : M.1 0 ≤ 6) (hz : z < 100) : g_Run G mX12_profileOf 3 0 0 [.ref (g_ad G 38), .long x, .int (nI z)] (g_hp G C (g_hm G M ++ ob)) (some (.int (nI (f_pfM x z (2 ^ M.1 0))))) (g_hp G C (g_hm G M ++ ob)) := by
  have hp : 2 ^ M.1 0 ≤ 64 := Nat.pow_le_pow_right (by decide) hn
  refine g_Run.of (lv := [(0, .ref (g_ad G 38)), (1, .long x), (3, .int (nI z))]) (by decide) (Nat.le_of_ble_eq_true rfl) rfl ?_
  refine a_iconst (x := 0) 1 rfl dX12_profileOf_0 (by decide) ?_
  refine a_istore (lv' := [(4, .int 0), (0, .ref (g_ad G 38)), (1, .long x), (3, .int (nI z))]) 3 rfl dX12_profileOf_1 (by decide) rfl ?_
  refine a_iconst (x := 0) 4 rfl dX12_profileOf_3 (by decide) ?_
  refine a_istore (lv' := [(5, .int 0), (4, .int 0), (0, .ref (g_ad G 38)), (1, .long x), (3, .int (nI z))]) 6 rfl dX12_profileOf_4 (by decide) rfl ?_
  refine a_sub (lv' := [(5, .int (nI 0)), (4, .int (nI (f_pfM x z 0))), (0, .ref (g_ad G 38)), (1, .long x), (3, .int (nI z))]) [0, 1, 2, 3, 4] rfl ?_
  refine g_for (P := fun s9 => True) (2 ^ M.1 0) (fun s9 => [(5, .int (nI s9)), (4, .int (nI (f_pfM x z s9))), (0, .ref (g_ad G 38)), (1, .long x), (3, .int (nI z))]) (fun s9 => (g_hp G C (g_hm G M ++ ob))) (trivial) (fun s9 h_s9 p_s9 k_s9 => ?_) (fun p_s9 => ?_)
  · skip
    have hq := f_pop_le (nI s9).toInt64
    refine a_iload 0 8 rfl dX12_profileOf_6 rfl ?_
    refine a_aload_n 2 9 rfl dX12_profileOf_8 rfl rfl ?_
    refine a_callV (as := []) (rest := [.int (nI s9)]) (st2 := [.int (nI (2 ^ M.1 0)), .int (nI s9)]) (u1 := 0) (v1 := 0) (u2 := 0) (v2 := 0) (r_allM hn) (⟨_, _, _, _, rfl, rfl⟩) oX12_all q_1253 q_1255 q_85 rfl (by omega) (by decide) rfl (Nat.le_of_ble_eq_true rfl) 12 rfl dX12_profileOf_9 rfl ?_
    refine a_icmp_ge 50 15 rfl dX12_profileOf_12 (by decide) (fun hc => absurd hc (nI_ge (a := s9) (b := (2 ^ M.1 0)) (by omega) (by omega))) (fun _ => ?_)
    refine a_iload 1 17 rfl dX12_profileOf_15 rfl ?_
    refine a_lload_n 3 18 rfl dX12_profileOf_17 rfl rfl ?_
    refine a_iload 0 20 rfl dX12_profileOf_18 rfl ?_
    refine a_callS (as := [.long x, .int (nI s9)]) (rest := [.int (nI (f_pfM x z s9))]) (st2 := [.int (f_i (f_b x s9)), .int (nI (f_pfM x z s9))]) (u1 := 0) (v1 := 0) (u2 := 0) (v2 := 0) (r_hasB (s := s9) (by omega)) oX12_has q_1304 q_1305 rfl (by omega) (by decide) rfl (Nat.le_of_ble_eq_true rfl) 23 rfl dX12_profileOf_20 rfl ?_
    refine g_sfx (pc := 41) (lv := [(5, .int (nI s9)), (4, .int (nI (f_pfM x z s9))), (0, .ref (g_ad G 38)), (1, .long x), (3, .int (nI z))]) (st := [.int (f_i ((f_b x s9) && (decide ((f_pop ((nI s9).toInt64)) = z)))), .int (nI (f_pfM x z s9))]) (h := (g_hp G C (g_hm G M ++ ob))) (fun key => ?_) ?_
    · skip
      rcases Bool.eq_false_or_eq_true ((f_b x s9)) with c23_1 | c23_1
      · skip
        refine a_if_eq 40 26 rfl dX12_profileOf_23 (by decide) (fun hc => absurd hc (f_i_T c23_1)) (fun _ => ?_)
        refine a_iload 0 28 rfl dX12_profileOf_26 rfl ?_
        refine a_i2l 29 rfl dX12_profileOf_28 ?_
        refine a_callS (as := [.long ((nI s9).toInt64)]) (rest := [.int (nI (f_pfM x z s9))]) (st2 := [.int (nI (f_pop ((nI s9).toInt64))), .int (nI (f_pfM x z s9))]) (u1 := 0) (v1 := 0) (u2 := 0) (v2 := 0) (r_many) oX12_many q_1311 q_1312 rfl (by omega) (by decide) rfl (Nat.le_of_ble_eq_true rfl) 32 rfl dX12_profileOf_29 rfl ?_
        refine a_iload_n 4 33 rfl dX12_profileOf_32 rfl rfl ?_
        rcases Bool.eq_false_or_eq_true (decide ((f_pop ((nI s9).toInt64)) = z)) with c33_2 | c33_2
        · skip
          refine a_icmp_ne 40 36 rfl dX12_profileOf_33 (by decide) (fun hc => absurd (congrArg nI (of_decide_eq_true c33_2)) hc) (fun _ => ?_)
          refine a_iconst (x := 1) 37 rfl dX12_profileOf_36 (by decide) ?_
          refine a_goto 41 dX12_profileOf_37 (by decide) ?_
          exact a_eq rfl (rfl) (by rw [c23_1, c33_2]; rfl) rfl key
        · skip
          refine a_icmp_ne 40 36 rfl dX12_profileOf_33 (by decide) (fun _ => ?_) (fun hc => absurd hc (fun z9 => of_decide_eq_false c33_2 (nI_inj9 (a := (f_pop ((nI s9).toInt64))) (b := z) (by omega) (by omega) z9)))
          refine a_iconst (x := 0) 41 rfl dX12_profileOf_40 (by decide) ?_
          exact a_eq rfl (rfl) (by rw [c23_1, c33_2]; rfl) rfl key
      · skip
        refine a_if_eq 40 26 rfl dX12_profileOf_23 (by decide) (fun _ => ?_) (fun hc => absurd (f_i_F c23_1) hc)
        refine a_iconst (x := 0) 41 rfl dX12_profileOf_40 (by decide) ?_
        exact a_eq rfl (rfl) (by rw [c23_1]; rfl) rfl key
    refine a_iadd 42 rfl dX12_profileOf_41 ?_
    refine a_eq (st2 := [.int (nI ((f_pfM x z s9) + Bool.toNat ((f_b x s9) && (decide ((f_pop ((nI s9).toInt64)) = z)))))]) rfl rfl (congrArg (fun z9 => Value.int z9 :: []) (f_i_add (f_pfM x z s9) ((f_b x s9) && (decide ((f_pop ((nI s9).toInt64)) = z))))) rfl ?_
    refine a_istore (lv' := [(4, .int (nI ((f_pfM x z s9) + Bool.toNat ((f_b x s9) && (decide ((f_pop ((nI s9).toInt64)) = z)))))), (5, .int (nI s9)), (0, .ref (g_ad G 38)), (1, .long x), (3, .int (nI z))]) 44 rfl dX12_profileOf_42 (by decide) rfl ?_
    refine a_iinc (y := nI (s9 + 1)) (lv' := [(5, .int (nI (s9 + 1))), (4, .int (nI ((f_pfM x z s9) + Bool.toNat ((f_b x s9) && (decide ((f_pop ((nI s9).toInt64)) = z)))))), (0, .ref (g_ad G 38)), (1, .long x), (3, .int (nI z))]) 1 47 rfl dX12_profileOf_44 rfl (nI_1 s9) (by decide) rfl ?_
    refine a_goto 6 dX12_profileOf_47 (by decide) ?_
    refine a_sub (lv' := [(5, .int (nI (s9 + 1))), (4, .int (nI (f_pfM x z (s9 + 1)))), (0, .ref (g_ad G 38)), (1, .long x), (3, .int (nI z))]) [0, 1, 2, 3, 4] rfl ?_
    exact k_s9 trivial
  · skip
    refine a_iload 0 8 rfl dX12_profileOf_6 rfl ?_
    refine a_aload_n 2 9 rfl dX12_profileOf_8 rfl rfl ?_
    refine a_callV (as := []) (rest := [.int (nI (2 ^ M.1 0))]) (st2 := [.int (nI (2 ^ M.1 0)), .int (nI (2 ^ M.1 0))]) (u1 := 0) (v1 := 0) (u2 := 0) (v2 := 0) (r_allM hn) (⟨_, _, _, _, rfl, rfl⟩) oX12_all q_1253 q_1255 q_85 rfl (by omega) (by decide) rfl (Nat.le_of_ble_eq_true rfl) 12 rfl dX12_profileOf_9 rfl ?_
    refine a_icmp_ge 50 15 rfl dX12_profileOf_12 (by decide) (fun _ => ?_) (fun hc => absurd (nI_le (a := (2 ^ M.1 0)) (b := (2 ^ M.1 0)) (by omega) (by omega)) hc)
    refine a_iload 1 52 rfl dX12_profileOf_50 rfl ?_
    exact a_ireturn .int rfl rfl (rfl) (rfl) dX12_profileOf_52
theorem r_proM_out (hm : M.1 1 ≤ 8) (hi : ¬ vp_in y (M.1 1)) : g_Run G mX12_profile 6 0 0 [.ref (g_ad G 38), .int y, .int y2] (g_hp G C (g_hm G M ++ ob)) (some (.int (-1))) (g_hp G C (g_hm G M ++ ob)) := by
  refine g_Run.of (lv := [(0, .ref (g_ad G 38)), (1, .int y), (2, .int y2)]) (by decide) (Nat.le_of_ble_eq_true rfl) rfl ?_
  refine a_aload_n 0 1 rfl dX12_profile_0 rfl rfl ?_
  refine a_iload_n 1 2 rfl dX12_profile_1 rfl rfl ?_
  refine a_callV (as := [.int y]) (rest := []) (st2 := [.int 0]) (u1 := 0) (v1 := 0) (u2 := 0) (v2 := 0) (r_isFam_out hm hi) (⟨_, _, _, _, rfl, rfl⟩) oX12_isFamily q_1273 q_1275 q_87 rfl (by omega) (by decide) rfl (Nat.le_of_ble_eq_true rfl) 5 rfl dX12_profile_2 rfl ?_
  refine a_if_eq 35 8 rfl dX12_profile_5 (by decide) (fun _ => ?_) (fun hc => absurd (rfl) hc)
  refine a_iconst (x := (-1)) 36 rfl dX12_profile_35 (by decide) ?_
  exact a_ireturn .int rfl rfl (rfl) (rfl) dX12_profile_36
theorem r_proM_bad (hm : M.1 1 ≤ 8) (hj : j < M.1 1) (hb : ¬ ((0 : Int32) ≤ y2 ∧ y2 ≤ nI (M.1 0))) : g_Run G mX12_profile 6 0 0 [.ref (g_ad G 38), .int (nI j), .int y2] (g_hp G C (g_hm G M ++ ob)) (some (.int (-1))) (g_hp G C (g_hm G M ++ ob)) := by
  refine g_Run.of (lv := [(0, .ref (g_ad G 38)), (1, .int (nI j)), (2, .int y2)]) (by decide) (Nat.le_of_ble_eq_true rfl) rfl ?_
  refine a_aload_n 0 1 rfl dX12_profile_0 rfl rfl ?_
  refine a_iload_n 1 2 rfl dX12_profile_1 rfl rfl ?_
  refine a_callV (as := [.int (nI j)]) (rest := []) (st2 := [.int 1]) (u1 := 0) (v1 := 0) (u2 := 0) (v2 := 0) (r_isFam_in hm hj) (⟨_, _, _, _, rfl, rfl⟩) oX12_isFamily q_1273 q_1275 q_87 rfl (by omega) (by decide) rfl (Nat.le_of_ble_eq_true rfl) 5 rfl dX12_profile_2 rfl ?_
  refine a_if_eq 35 8 rfl dX12_profile_5 (by decide) (fun hc => absurd hc ((by decide))) (fun _ => ?_)
  refine a_iload_n 2 9 rfl dX12_profile_8 rfl rfl ?_
  refine a_i2l 10 rfl dX12_profile_9 ?_
  refine a_lconst (x := 0) 11 rfl dX12_profile_10 (by decide) ?_
  refine a_aload_n 0 12 rfl dX12_profile_11 rfl rfl ?_
  refine a_get 0 cl_11 f_RX12_9_11 (by decide) (rfl) rfl 15 rfl dX12_profile_12 ?_
  refine a_i2l 16 rfl dX12_profile_15 ?_
  refine a_callS (as := [.long y2.toInt64, .long 0, .long ((nI (M.1 0)).toInt64)]) (rest := []) (st2 := [.int (f_i (decide ((0 : Int32) ≤ y2 ∧ y2 ≤ (nI (M.1 0)))))]) (u1 := 0) (v1 := 0) (u2 := 0) (v2 := 0) (r_isInB (y := y2) (a := 0) (b := (nI (M.1 0))) rfl rfl) oX12_isIn q_1242 q_1243 rfl (by omega) (by decide) rfl (Nat.le_of_ble_eq_true rfl) 19 rfl dX12_profile_16 rfl ?_
  refine a_if_eq 35 22 rfl dX12_profile_19 (by decide) (fun _ => ?_) (fun hc => absurd (f_i_F (decide_eq_false hb)) hc)
  refine a_iconst (x := (-1)) 36 rfl dX12_profile_35 (by decide) ?_
  exact a_ireturn .int rfl rfl (rfl) (rfl) dX12_profile_36
theorem r_proM {z : Nat} (hn : M.1 0 ≤ 6) (hi : f_mis M j T) (hz : z ≤ M.1 0) : g_Run G mX12_profile 6 0 0 [.ref (g_ad G 38), .int (nI j), .int (nI z)] (g_hp G C (g_hm G M ++ ob)) (some (.int (nI (f_pfM (f_mso M T) z (2 ^ M.1 0))))) (g_hp G C (g_hm G M ++ ob)) := by
  have e1 : decide ((0 : Int32) ≤ nI z ∧ nI z ≤ nI (M.1 0)) = true := decide_eq_true ⟨nI_pos' (by omega), nI_le (by omega) (by omega)⟩
  refine g_Run.of (lv := [(0, .ref (g_ad G 38)), (1, .int (nI j)), (2, .int (nI z))]) (by decide) (Nat.le_of_ble_eq_true rfl) rfl ?_
  refine a_aload_n 0 1 rfl dX12_profile_0 rfl rfl ?_
  refine a_iload_n 1 2 rfl dX12_profile_1 rfl rfl ?_
  refine a_callV (as := [.int (nI j)]) (rest := []) (st2 := [.int 1]) (u1 := 0) (v1 := 0) (u2 := 0) (v2 := 0) (r_isFam_in hi.2.1 hi.1) (⟨_, _, _, _, rfl, rfl⟩) oX12_isFamily q_1273 q_1275 q_87 rfl (by omega) (by decide) rfl (Nat.le_of_ble_eq_true rfl) 5 rfl dX12_profile_2 rfl ?_
  refine a_if_eq 35 8 rfl dX12_profile_5 (by decide) (fun hc => absurd hc ((by decide))) (fun _ => ?_)
  refine a_iload_n 2 9 rfl dX12_profile_8 rfl rfl ?_
  refine a_i2l 10 rfl dX12_profile_9 ?_
  refine a_lconst (x := 0) 11 rfl dX12_profile_10 (by decide) ?_
  refine a_aload_n 0 12 rfl dX12_profile_11 rfl rfl ?_
  refine a_get 0 cl_11 f_RX12_9_11 (by decide) (rfl) rfl 15 rfl dX12_profile_12 ?_
  refine a_i2l 16 rfl dX12_profile_15 ?_
  refine a_callS (as := [.long ((nI z).toInt64), .long 0, .long ((nI (M.1 0)).toInt64)]) (rest := []) (st2 := [.int (f_i (decide ((0 : Int32) ≤ (nI z) ∧ (nI z) ≤ (nI (M.1 0)))))]) (u1 := 0) (v1 := 0) (u2 := 0) (v2 := 0) (r_isInB (y := (nI z)) (a := 0) (b := (nI (M.1 0))) rfl rfl) oX12_isIn q_1242 q_1243 rfl (by omega) (by decide) rfl (Nat.le_of_ble_eq_true rfl) 19 rfl dX12_profile_16 rfl ?_
  refine a_if_eq 35 22 rfl dX12_profile_19 (by decide) (fun hc => absurd hc (f_i_T e1)) (fun _ => ?_)
  refine a_aload_n 0 23 rfl dX12_profile_22 rfl rfl ?_
  refine a_aload_n 0 24 rfl dX12_profile_23 rfl rfl ?_
  refine a_iload_n 1 25 rfl dX12_profile_24 rfl rfl ?_
  refine a_callV (as := [.int (nI j)]) (rest := [.ref (g_ad G 38)]) (st2 := [.long (f_mso M T), .ref (g_ad G 38)]) (u1 := 0) (v1 := 0) (u2 := 0) (v2 := 0) (r_mso hn hi) (⟨_, _, _, _, rfl, rfl⟩) oX12_setsOf q_1296 q_1298 q_89 rfl (by omega) (by decide) rfl (Nat.le_of_ble_eq_true rfl) 28 rfl dX12_profile_25 rfl ?_
  refine a_iload_n 2 29 rfl dX12_profile_28 rfl rfl ?_
  refine a_callV (as := [.long (f_mso M T), .int (nI z)]) (rest := []) (st2 := [.int (nI (f_pfM (f_mso M T) z (2 ^ M.1 0)))]) (u1 := 0) (v1 := 0) (u2 := 0) (v2 := 0) (r_pfM hn (by omega)) (⟨_, _, _, _, rfl, rfl⟩) oX12_profileOf q_1367 q_1369 q_99 rfl (by omega) (by decide) rfl (Nat.le_of_ble_eq_true rfl) 32 rfl dX12_profile_29 rfl ?_
  refine a_goto 36 dX12_profile_32 (by decide) ?_
  exact a_ireturn .int rfl rfl (rfl) (rfl) dX12_profile_36
end MF1
