/-! The model's changes, image, tape's ends -/
def f_sC4 (R : Nat → Int32) : Nat → Nat → Int32
  | 0 => R
  | t + 1 => upd (f_sC4 R t) t (f_sC4 R t (t + 4))
def f_4R (R : Nat → Int32) (c j w : Nat) (v0 v1 : Int32) : Nat → Int32 := upd (upd (upd (upd R (4 * c) (nI j)) (4 * c + 1) (nI w)) (4 * c + 2) v0) (4 * c + 3) v1
def f_stM (M : f_M) (j w : Nat) (v : Int32) : f_M := f_mI (f_mn (f_mn (f_mI M 4 (f_4R (M.2.2.2.1 4) (M.1 4) j w (M.2.2.2.1 w j) v)) 4 (M.1 4 + 1)) 5 0) w (upd (M.2.2.2.1 w) j v)
def f_shM12 (M : f_M) : f_M := f_mn (f_mI M 4 (f_sC4 (M.2.2.2.1 4) 44)) 4 11
def f_cpI (A B : Nat → Int32) : Nat → Nat → Int32
  | 0 => A
  | t + 1 => upd (f_cpI A B t) t (B t)
def f_cpL (A B : Nat → Int64) : Nat → Nat → Int64
  | 0 => A
  | t + 1 => vp_updL (f_cpL A B t) t (B t)
def f_imM (M : f_M) : f_M := f_mi (f_mL (f_mI (f_mI (f_mn (f_mn M 2 (M.1 0)) 3 (M.1 1)) 2 (f_cpI (M.2.2.2.1 2) (M.2.2.2.1 0) (M.1 1))) 3 (f_cpI (M.2.2.2.1 3) (M.2.2.2.1 1) (M.1 1))) 1 (f_cpL (M.2.2.2.2 1) (M.2.2.2.2 0) (M.1 1))) 0 1
def f_baM (M : f_M) : f_M := f_mn (f_mn (f_mL (f_mI (f_mI (f_mn (f_mn M 0 (M.1 2)) 1 (M.1 3)) 0 (f_cpI (M.2.2.2.1 0) (M.2.2.2.1 2) (M.1 3))) 1 (f_cpI (M.2.2.2.1 1) (M.2.2.2.1 3) (M.1 3))) 0 (f_cpL (M.2.2.2.2 0) (M.2.2.2.2 1) (M.1 3))) 4 0) 5 0
def f_alB (M : f_M) : Bool := decide (M.1 0 = M.1 2) && decide (M.1 1 = M.1 3)
def f_alC (M : f_M) (f : Nat) : Bool := decide (M.2.2.2.1 0 f = M.2.2.2.1 2 f) && (decide (M.2.2.2.1 1 f = M.2.2.2.1 3 f) && decide (M.2.2.2.2 0 f = M.2.2.2.2 1 f))
theorem f_alF_false {a : Bool} {c : Nat → Bool} {t : Nat} (h : f_alF a c t = false) : ∀ j, f_alF a c (t + j) = false := by
  intro j
  induction j with
  | zero => exact h
  | succ j ih => rw [← Nat.add_assoc, f_alF, ih, Bool.false_and]
def f_th3 (R : Nat → Int32) : Nat → Nat
  | 0 => 0
  | s + 1 => f_th3 R s + Bool.toNat (decide (0 ≤ R s))
section MC1
variable {G : g_G} {C : f_C} {M M2 : f_M} {ob h h2 : List va_E} {x : Int64} {y y2 y3 r9 : Int32} {a k so m o j w c : Nat}
theorem r_laysM0 (hj : j < 8) : g_Run G mX12_lays 2 0 0 [.ref (g_ad G 38), .int (nI j), .int 0, .int y] (g_hp G C (g_hm G M ++ ob)) none (g_hp G C (g_hm G (f_mI M 0 (upd (M.2.2.2.1 0) j y)) ++ ob)) := by
  have hcl : (nI j).toNatClampNeg = j := g_cl (by omega)
  refine g_Run.of (lv := [(0, .ref (g_ad G 38)), (1, .int (nI j)), (2, .int 0), (3, .int y)]) (by decide) (Nat.le_of_ble_eq_true rfl) rfl ?_
  refine a_iload_n 2 1 rfl dX12_lays_0 rfl rfl ?_
  refine a_if_ne 14 4 rfl dX12_lays_1 (by decide) (fun hc => absurd (rfl) hc) (fun _ => ?_)
  refine a_aload_n 0 5 rfl dX12_lays_4 rfl rfl ?_
  refine a_get 4 cl_11 f_RX12_15_11 (by decide) (rfl) rfl 8 rfl dX12_lays_5 ?_
  refine a_iload_n 1 9 rfl dX12_lays_8 rfl rfl ?_
  refine a_iload_n 3 10 rfl dX12_lays_9 rfl rfl ?_
  refine a_iast (rfl) (vp_in_nI (n := j) (by omega) (by omega)) 11 rfl dX12_lays_10 ?_
  refine a_eq (h2 := g_hp G C (g_hm G (f_mI M 0 (upd (M.2.2.2.1 0) j y)) ++ ob)) rfl rfl rfl (by show (((g_hp G C (g_hm G M ++ ob)).set 39 (c_I G 8 (upd (M.2.2.2.1 0) (nI j).toNatClampNeg y))) : List va_E) = _; rw [hcl]; rfl) ?_
  refine a_goto 21 dX12_lays_11 (by decide) ?_
  exact a_return rfl (rfl) (rfl) dX12_lays_21

theorem r_laysM1 (hj : j < 8) : g_Run G mX12_lays 2 0 0 [.ref (g_ad G 38), .int (nI j), .int 1, .int y] (g_hp G C (g_hm G M ++ ob)) none (g_hp G C (g_hm G (f_mI M 1 (upd (M.2.2.2.1 1) j y)) ++ ob)) := by
  have hcl : (nI j).toNatClampNeg = j := g_cl (by omega)
  refine g_Run.of (lv := [(0, .ref (g_ad G 38)), (1, .int (nI j)), (2, .int 1), (3, .int y)]) (by decide) (Nat.le_of_ble_eq_true rfl) rfl ?_
  refine a_iload_n 2 1 rfl dX12_lays_0 rfl rfl ?_
  refine a_if_ne 14 4 rfl dX12_lays_1 (by decide) (fun _ => ?_) (fun hc => absurd hc ((by decide)))
  refine a_aload_n 0 15 rfl dX12_lays_14 rfl rfl ?_
  refine a_get 5 cl_11 f_RX12_19_11 (by decide) (rfl) rfl 18 rfl dX12_lays_15 ?_
  refine a_iload_n 1 19 rfl dX12_lays_18 rfl rfl ?_
  refine a_iload_n 3 20 rfl dX12_lays_19 rfl rfl ?_
  refine a_iast (rfl) (vp_in_nI (n := j) (by omega) (by omega)) 21 rfl dX12_lays_20 ?_
  refine a_eq (h2 := g_hp G C (g_hm G (f_mI M 1 (upd (M.2.2.2.1 1) j y)) ++ ob)) rfl rfl rfl (by show (((g_hp G C (g_hm G M ++ ob)).set 40 (c_I G 8 (upd (M.2.2.2.1 1) (nI j).toNatClampNeg y))) : List va_E) = _; rw [hcl]; rfl) ?_
  exact a_return rfl (rfl) (rfl) dX12_lays_21

theorem r_laysM (hj : j < 8) (hw : w < 2) : g_Run G mX12_lays 2 0 0 [.ref (g_ad G 38), .int (nI j), .int (nI w), .int y] (g_hp G C (g_hm G M ++ ob)) none (g_hp G C (g_hm G (f_mI M w (upd (M.2.2.2.1 w) j y)) ++ ob)) := by
  match w, hw with
  | 0, _ => exact r_laysM0 hj
  | 1, _ => exact r_laysM1 hj
theorem r_setM_out (hm : M.1 1 ≤ 8) (hi : ¬ vp_in y (M.1 1)) : g_Run G mX12_set 6 0 0 [.ref (g_ad G 38), .int y, .int y2, .int y3] (g_hp G C (g_hm G M ++ ob)) (some (.int (-1))) (g_hp G C (g_hm G M ++ ob)) := by
  refine g_Run.of (lv := [(0, .ref (g_ad G 38)), (1, .int y), (2, .int y2), (3, .int y3)]) (by decide) (Nat.le_of_ble_eq_true rfl) rfl ?_
  refine a_aload_n 0 1 rfl dX12_set_0 rfl rfl ?_
  refine a_iload_n 1 2 rfl dX12_set_1 rfl rfl ?_
  refine a_callV (as := [.int y]) (rest := []) (st2 := [.int 0]) (u1 := 0) (v1 := 0) (u2 := 0) (v2 := 0) (r_isFam_out hm hi) (⟨_, _, _, _, rfl, rfl⟩) oX12_isFamily q_1273 q_1275 q_87 rfl (by omega) (by decide) rfl (Nat.le_of_ble_eq_true rfl) 5 rfl dX12_set_2 rfl ?_
  refine a_if_eq 40 8 rfl dX12_set_5 (by decide) (fun _ => ?_) (fun hc => absurd (rfl) hc)
  refine a_iconst (x := (-1)) 41 rfl dX12_set_40 (by decide) ?_
  exact a_ireturn .int rfl rfl (rfl) (rfl) dX12_set_41
theorem r_setM_b1 (hm : M.1 1 ≤ 8) (hj : j < M.1 1) (hy : ¬ ((0 : Int32) ≤ y2 ∧ y2 ≤ 1)) : g_Run G mX12_set 6 0 0 [.ref (g_ad G 38), .int (nI j), .int y2, .int y3] (g_hp G C (g_hm G M ++ ob)) (some (.int (-1))) (g_hp G C (g_hm G M ++ ob)) := by
  refine g_Run.of (lv := [(0, .ref (g_ad G 38)), (1, .int (nI j)), (2, .int y2), (3, .int y3)]) (by decide) (Nat.le_of_ble_eq_true rfl) rfl ?_
  refine a_aload_n 0 1 rfl dX12_set_0 rfl rfl ?_
  refine a_iload_n 1 2 rfl dX12_set_1 rfl rfl ?_
  refine a_callV (as := [.int (nI j)]) (rest := []) (st2 := [.int 1]) (u1 := 0) (v1 := 0) (u2 := 0) (v2 := 0) (r_isFam_in hm hj) (⟨_, _, _, _, rfl, rfl⟩) oX12_isFamily q_1273 q_1275 q_87 rfl (by omega) (by decide) rfl (Nat.le_of_ble_eq_true rfl) 5 rfl dX12_set_2 rfl ?_
  refine a_if_eq 40 8 rfl dX12_set_5 (by decide) (fun hc => absurd hc ((by decide))) (fun _ => ?_)
  refine a_iload_n 2 9 rfl dX12_set_8 rfl rfl ?_
  refine a_i2l 10 rfl dX12_set_9 ?_
  refine a_lconst (x := 0) 11 rfl dX12_set_10 (by decide) ?_
  refine a_lconst (x := 1) 12 rfl dX12_set_11 (by decide) ?_
  refine a_callS (as := [.long y2.toInt64, .long 0, .long 1]) (rest := []) (st2 := [.int (f_i (decide ((0 : Int32) ≤ y2 ∧ y2 ≤ 1)))]) (u1 := 0) (v1 := 0) (u2 := 0) (v2 := 0) (r_isInB (y := y2) (a := 0) (b := 1) rfl rfl) oX12_isIn q_1242 q_1243 rfl (by omega) (by decide) rfl (Nat.le_of_ble_eq_true rfl) 15 rfl dX12_set_12 rfl ?_
  refine a_if_eq 40 18 rfl dX12_set_15 (by decide) (fun _ => ?_) (fun hc => absurd (f_i_F (decide_eq_false hy)) hc)
  refine a_iconst (x := (-1)) 41 rfl dX12_set_40 (by decide) ?_
  exact a_ireturn .int rfl rfl (rfl) (rfl) dX12_set_41
theorem r_setM_b2_0 (hm : M.1 1 ≤ 8) (hj : j < M.1 1) (hy : ¬ ((0 : Int32) ≤ y3 ∧ y3 ≤ 5)) : g_Run G mX12_set 6 0 0 [.ref (g_ad G 38), .int (nI j), .int 0, .int y3] (g_hp G C (g_hm G M ++ ob)) (some (.int (-1))) (g_hp G C (g_hm G M ++ ob)) := by
  refine g_Run.of (lv := [(0, .ref (g_ad G 38)), (1, .int (nI j)), (2, .int 0), (3, .int y3)]) (by decide) (Nat.le_of_ble_eq_true rfl) rfl ?_
  refine a_aload_n 0 1 rfl dX12_set_0 rfl rfl ?_
  refine a_iload_n 1 2 rfl dX12_set_1 rfl rfl ?_
  refine a_callV (as := [.int (nI j)]) (rest := []) (st2 := [.int 1]) (u1 := 0) (v1 := 0) (u2 := 0) (v2 := 0) (r_isFam_in hm hj) (⟨_, _, _, _, rfl, rfl⟩) oX12_isFamily q_1273 q_1275 q_87 rfl (by omega) (by decide) rfl (Nat.le_of_ble_eq_true rfl) 5 rfl dX12_set_2 rfl ?_
  refine a_if_eq 40 8 rfl dX12_set_5 (by decide) (fun hc => absurd hc ((by decide))) (fun _ => ?_)
  refine a_iload_n 2 9 rfl dX12_set_8 rfl rfl ?_
  refine a_i2l 10 rfl dX12_set_9 ?_
  refine a_lconst (x := 0) 11 rfl dX12_set_10 (by decide) ?_
  refine a_lconst (x := 1) 12 rfl dX12_set_11 (by decide) ?_
  refine a_callS (as := [.long ((0 : Int32).toInt64), .long 0, .long 1]) (rest := []) (st2 := [.int (f_i (decide ((0 : Int32) ≤ (0 : Int32) ∧ (0 : Int32) ≤ 1)))]) (u1 := 0) (v1 := 0) (u2 := 0) (v2 := 0) (r_isInB (y := (0 : Int32)) (a := 0) (b := 1) rfl rfl) oX12_isIn q_1242 q_1243 rfl (by omega) (by decide) rfl (Nat.le_of_ble_eq_true rfl) 15 rfl dX12_set_12 rfl ?_
  refine a_if_eq 40 18 rfl dX12_set_15 (by decide) (fun hc => absurd hc (f_i_T (by decide))) (fun _ => ?_)
  refine a_iload_n 3 19 rfl dX12_set_18 rfl rfl ?_
  refine a_i2l 20 rfl dX12_set_19 ?_
  refine a_lconst (x := 0) 21 rfl dX12_set_20 (by decide) ?_
  refine a_iload_n 2 22 rfl dX12_set_21 rfl rfl ?_
  refine a_if_ne 31 25 rfl dX12_set_22 (by decide) (fun hc => absurd (rfl) hc) (fun _ => ?_)
  refine a_ldc2 q_1277 28 rfl dX12_set_25 ?_
  refine a_goto 34 dX12_set_28 (by decide) ?_
  refine a_callS (as := [.long y3.toInt64, .long 0, .long 5]) (rest := []) (st2 := [.int (f_i (decide ((0 : Int32) ≤ y3 ∧ y3 ≤ 5)))]) (u1 := 0) (v1 := 0) (u2 := 0) (v2 := 0) (r_isInB (y := y3) (a := 0) (b := 5) rfl rfl) oX12_isIn q_1242 q_1243 rfl (by omega) (by decide) rfl (Nat.le_of_ble_eq_true rfl) 37 rfl dX12_set_34 rfl ?_
  refine a_if_ne 42 40 rfl dX12_set_37 (by decide) (fun hc => absurd (f_i_F (decide_eq_false hy)) hc) (fun _ => ?_)
  refine a_iconst (x := (-1)) 41 rfl dX12_set_40 (by decide) ?_
  exact a_ireturn .int rfl rfl (rfl) (rfl) dX12_set_41
theorem r_setM_same0 (hm : M.1 1 ≤ 8) (hj : j < M.1 1) (hy : (0 : Int32) ≤ y3 ∧ y3 ≤ 5) (he : M.2.2.2.1 0 j = y3) : g_Run G mX12_set 6 0 0 [.ref (g_ad G 38), .int (nI j), .int 0, .int y3] (g_hp G C (g_hm G M ++ ob)) (some (.int y3)) (g_hp G C (g_hm G M ++ ob)) := by
  refine g_Run.of (lv := [(0, .ref (g_ad G 38)), (1, .int (nI j)), (2, .int 0), (3, .int y3)]) (by decide) (Nat.le_of_ble_eq_true rfl) rfl ?_
  refine a_aload_n 0 1 rfl dX12_set_0 rfl rfl ?_
  refine a_iload_n 1 2 rfl dX12_set_1 rfl rfl ?_
  refine a_callV (as := [.int (nI j)]) (rest := []) (st2 := [.int 1]) (u1 := 0) (v1 := 0) (u2 := 0) (v2 := 0) (r_isFam_in hm hj) (⟨_, _, _, _, rfl, rfl⟩) oX12_isFamily q_1273 q_1275 q_87 rfl (by omega) (by decide) rfl (Nat.le_of_ble_eq_true rfl) 5 rfl dX12_set_2 rfl ?_
  refine a_if_eq 40 8 rfl dX12_set_5 (by decide) (fun hc => absurd hc ((by decide))) (fun _ => ?_)
  refine a_iload_n 2 9 rfl dX12_set_8 rfl rfl ?_
  refine a_i2l 10 rfl dX12_set_9 ?_
  refine a_lconst (x := 0) 11 rfl dX12_set_10 (by decide) ?_
  refine a_lconst (x := 1) 12 rfl dX12_set_11 (by decide) ?_
  refine a_callS (as := [.long ((0 : Int32).toInt64), .long 0, .long 1]) (rest := []) (st2 := [.int (f_i (decide ((0 : Int32) ≤ (0 : Int32) ∧ (0 : Int32) ≤ 1)))]) (u1 := 0) (v1 := 0) (u2 := 0) (v2 := 0) (r_isInB (y := (0 : Int32)) (a := 0) (b := 1) rfl rfl) oX12_isIn q_1242 q_1243 rfl (by omega) (by decide) rfl (Nat.le_of_ble_eq_true rfl) 15 rfl dX12_set_12 rfl ?_
  refine a_if_eq 40 18 rfl dX12_set_15 (by decide) (fun hc => absurd hc (f_i_T (by decide))) (fun _ => ?_)
  refine a_iload_n 3 19 rfl dX12_set_18 rfl rfl ?_
  refine a_i2l 20 rfl dX12_set_19 ?_
  refine a_lconst (x := 0) 21 rfl dX12_set_20 (by decide) ?_
  refine a_iload_n 2 22 rfl dX12_set_21 rfl rfl ?_
  refine a_if_ne 31 25 rfl dX12_set_22 (by decide) (fun hc => absurd (rfl) hc) (fun _ => ?_)
  refine a_ldc2 q_1277 28 rfl dX12_set_25 ?_
  refine a_goto 34 dX12_set_28 (by decide) ?_
  refine a_callS (as := [.long y3.toInt64, .long 0, .long 5]) (rest := []) (st2 := [.int (f_i (decide ((0 : Int32) ≤ y3 ∧ y3 ≤ 5)))]) (u1 := 0) (v1 := 0) (u2 := 0) (v2 := 0) (r_isInB (y := y3) (a := 0) (b := 5) rfl rfl) oX12_isIn q_1242 q_1243 rfl (by omega) (by decide) rfl (Nat.le_of_ble_eq_true rfl) 37 rfl dX12_set_34 rfl ?_
  refine a_if_ne 42 40 rfl dX12_set_37 (by decide) (fun _ => ?_) (fun hc => absurd hc (f_i_T (decide_eq_true hy)))
  refine a_iload_n 2 43 rfl dX12_set_42 rfl rfl ?_
  refine a_if_ne 55 46 rfl dX12_set_43 (by decide) (fun hc => absurd (rfl) hc) (fun _ => ?_)
  refine a_aload_n 0 47 rfl dX12_set_46 rfl rfl ?_
  refine a_get 4 cl_11 f_RX12_15_11 (by decide) (rfl) rfl 50 rfl dX12_set_47 ?_
  refine a_iload_n 1 51 rfl dX12_set_50 rfl rfl ?_
  refine a_iald (rfl) (vp_in_nI (n := j) (by omega) (by omega)) 52 rfl dX12_set_51 ?_
  refine a_eq (st2 := [.int ((M.2.2.2.1 0) j)]) rfl rfl (congrArg (fun z9 => Value.int z9 :: []) (congrArg (M.2.2.2.1 0) (g_cl (by omega)))) rfl ?_
  refine a_eq (st2 := [.int y3]) rfl rfl (congrArg (fun z9 => Value.int z9 :: []) (he)) rfl ?_
  refine a_goto 61 dX12_set_52 (by decide) ?_
  refine a_istore (lv' := [(4, .int y3), (0, .ref (g_ad G 38)), (1, .int (nI j)), (2, .int 0), (3, .int y3)]) 63 rfl dX12_set_61 (by decide) rfl ?_
  refine a_iload 0 65 rfl dX12_set_63 rfl ?_
  refine a_iload_n 4 66 rfl dX12_set_65 rfl rfl ?_
  refine a_icmp_ne 72 69 rfl dX12_set_66 (by decide) (fun hc => absurd (rfl) hc) (fun _ => ?_)
  refine a_iload 0 71 rfl dX12_set_69 rfl ?_
  exact a_ireturn .int rfl rfl (rfl) (rfl) dX12_set_71
theorem r_setA0 {h9 : Int32} (hj : j < 8) (hc : M.1 4 < 12) : g_A G mX12_set 6 0 0 123 [(4, .int h9), (0, .ref (g_ad G 38)), (1, .int (nI j)), (2, .int 0), (3, .int y3)] [] (g_hp G C (g_hm G M ++ ob)) (some (.int h9)) (g_hp G C (g_hm G (f_mI (f_mn (f_mn (f_mI M 4 (f_4R (M.2.2.2.1 4) (M.1 4) j 0 h9 y3)) 4 (M.1 4 + 1)) 5 0) 0 (upd (M.2.2.2.1 0) j y3)) ++ ob)) := by
  have c0 : (nI (4 * M.1 4)).toNatClampNeg = 4 * M.1 4 := g_cl (by omega)
  have c1 : (nI (4 * M.1 4 + 1)).toNatClampNeg = 4 * M.1 4 + 1 := g_cl (by omega)
  have c2 : (nI (4 * M.1 4 + 2)).toNatClampNeg = 4 * M.1 4 + 2 := g_cl (by omega)
  have c3 : (nI (4 * M.1 4 + 3)).toNatClampNeg = 4 * M.1 4 + 3 := g_cl (by omega)
  refine a_aload_n 1 124 rfl dX12_set_123 rfl rfl ?_
  refine a_get 11 cl_11 f_RX12_35_11 (by decide) (rfl) rfl 127 rfl dX12_set_124 ?_
  refine a_iconst (x := 4) 128 rfl dX12_set_127 (by decide) ?_
  refine a_aload_n 1 129 rfl dX12_set_128 rfl rfl ?_
  refine a_get 12 cl_11 f_RX12_104_11 (by decide) (rfl) rfl 132 rfl dX12_set_129 ?_
  refine a_imul 133 rfl dX12_set_132 ?_
  refine a_eq (st2 := [.int (nI (4 * (M.1 4))), .ref (g_ad G 45)]) rfl rfl (congrArg (fun z9 => Value.int z9 :: [.ref (g_ad G 45)]) (pk_mul 4 (M.1 4))) rfl ?_
  refine a_iload_n 2 134 rfl dX12_set_133 rfl rfl ?_
  refine a_iast (rfl) (vp_in_nI (n := (4 * (M.1 4))) (by omega) (by omega)) 135 rfl dX12_set_134 ?_
  refine a_eq (h2 := g_hp G C (g_hm G (f_mI M 4 (upd (M.2.2.2.1 4) (4 * M.1 4) (nI j))) ++ ob)) rfl rfl rfl (by show (((g_hp G C (g_hm G M ++ ob)).set 45 (c_I G 48 (upd (M.2.2.2.1 4) (nI (4 * (M.1 4))).toNatClampNeg (nI j)))) : List va_E) = _; rw [c0]; rfl) ?_
  refine a_aload_n 1 136 rfl dX12_set_135 rfl rfl ?_
  refine a_get 11 cl_11 f_RX12_35_11 (by decide) (rfl) rfl 139 rfl dX12_set_136 ?_
  refine a_iconst (x := 4) 140 rfl dX12_set_139 (by decide) ?_
  refine a_aload_n 1 141 rfl dX12_set_140 rfl rfl ?_
  refine a_get 12 cl_11 f_RX12_104_11 (by decide) (rfl) rfl 144 rfl dX12_set_141 ?_
  refine a_imul 145 rfl dX12_set_144 ?_
  refine a_eq (st2 := [.int (nI (4 * (M.1 4))), .ref (g_ad G 45)]) rfl rfl (congrArg (fun z9 => Value.int z9 :: [.ref (g_ad G 45)]) (pk_mul 4 (M.1 4))) rfl ?_
  refine a_iconst (x := 1) 146 rfl dX12_set_145 (by decide) ?_
  refine a_iadd 147 rfl dX12_set_146 ?_
  refine a_eq (st2 := [.int (nI ((4 * (M.1 4)) + 1)), .ref (g_ad G 45)]) rfl rfl (congrArg (fun z9 => Value.int z9 :: [.ref (g_ad G 45)]) (nI_add (4 * (M.1 4)) 1)) rfl ?_
  refine a_iload_n 3 148 rfl dX12_set_147 rfl rfl ?_
  refine a_iast (rfl) (vp_in_nI (n := ((4 * (M.1 4)) + 1)) (by omega) (by omega)) 149 rfl dX12_set_148 ?_
  refine a_eq (h2 := g_hp G C (g_hm G (f_mI M 4 (upd (upd (M.2.2.2.1 4) (4 * M.1 4) (nI j)) (4 * M.1 4 + 1) 0)) ++ ob)) rfl rfl rfl (by show (((g_hp G C (g_hm G (f_mI M 4 (upd (M.2.2.2.1 4) (4 * M.1 4) (nI j))) ++ ob)).set 45 (c_I G 48 (upd (upd (M.2.2.2.1 4) (4 * M.1 4) (nI j)) (nI ((4 * (M.1 4)) + 1)).toNatClampNeg 0))) : List va_E) = _; rw [c1]; rfl) ?_
  refine a_aload_n 1 150 rfl dX12_set_149 rfl rfl ?_
  refine a_get 11 cl_11 f_RX12_35_11 (by decide) (rfl) rfl 153 rfl dX12_set_150 ?_
  refine a_iconst (x := 4) 154 rfl dX12_set_153 (by decide) ?_
  refine a_aload_n 1 155 rfl dX12_set_154 rfl rfl ?_
  refine a_get 12 cl_11 f_RX12_104_11 (by decide) (rfl) rfl 158 rfl dX12_set_155 ?_
  refine a_imul 159 rfl dX12_set_158 ?_
  refine a_eq (st2 := [.int (nI (4 * (M.1 4))), .ref (g_ad G 45)]) rfl rfl (congrArg (fun z9 => Value.int z9 :: [.ref (g_ad G 45)]) (pk_mul 4 (M.1 4))) rfl ?_
  refine a_iconst (x := 2) 160 rfl dX12_set_159 (by decide) ?_
  refine a_iadd 161 rfl dX12_set_160 ?_
  refine a_eq (st2 := [.int (nI ((4 * (M.1 4)) + 2)), .ref (g_ad G 45)]) rfl rfl (congrArg (fun z9 => Value.int z9 :: [.ref (g_ad G 45)]) (nI_add (4 * (M.1 4)) 2)) rfl ?_
  refine a_iload 0 163 rfl dX12_set_161 rfl ?_
  refine a_iast (rfl) (vp_in_nI (n := ((4 * (M.1 4)) + 2)) (by omega) (by omega)) 164 rfl dX12_set_163 ?_
  refine a_eq (h2 := g_hp G C (g_hm G (f_mI M 4 (upd (upd (upd (M.2.2.2.1 4) (4 * M.1 4) (nI j)) (4 * M.1 4 + 1) 0) (4 * M.1 4 + 2) h9)) ++ ob)) rfl rfl rfl (by show (((g_hp G C (g_hm G (f_mI M 4 (upd (upd (M.2.2.2.1 4) (4 * M.1 4) (nI j)) (4 * M.1 4 + 1) 0)) ++ ob)).set 45 (c_I G 48 (upd (upd (upd (M.2.2.2.1 4) (4 * M.1 4) (nI j)) (4 * M.1 4 + 1) 0) (nI ((4 * (M.1 4)) + 2)).toNatClampNeg h9))) : List va_E) = _; rw [c2]; rfl) ?_
  refine a_aload_n 1 165 rfl dX12_set_164 rfl rfl ?_
  refine a_get 11 cl_11 f_RX12_35_11 (by decide) (rfl) rfl 168 rfl dX12_set_165 ?_
  refine a_iconst (x := 4) 169 rfl dX12_set_168 (by decide) ?_
  refine a_aload_n 1 170 rfl dX12_set_169 rfl rfl ?_
  refine a_get 12 cl_11 f_RX12_104_11 (by decide) (rfl) rfl 173 rfl dX12_set_170 ?_
  refine a_imul 174 rfl dX12_set_173 ?_
  refine a_eq (st2 := [.int (nI (4 * (M.1 4))), .ref (g_ad G 45)]) rfl rfl (congrArg (fun z9 => Value.int z9 :: [.ref (g_ad G 45)]) (pk_mul 4 (M.1 4))) rfl ?_
  refine a_iconst (x := 3) 175 rfl dX12_set_174 (by decide) ?_
  refine a_iadd 176 rfl dX12_set_175 ?_
  refine a_eq (st2 := [.int (nI ((4 * (M.1 4)) + 3)), .ref (g_ad G 45)]) rfl rfl (congrArg (fun z9 => Value.int z9 :: [.ref (g_ad G 45)]) (nI_add (4 * (M.1 4)) 3)) rfl ?_
  refine a_iload_n 4 177 rfl dX12_set_176 rfl rfl ?_
  refine a_iast (rfl) (vp_in_nI (n := ((4 * (M.1 4)) + 3)) (by omega) (by omega)) 178 rfl dX12_set_177 ?_
  refine a_eq (h2 := g_hp G C (g_hm G (f_mI M 4 (upd (upd (upd (upd (M.2.2.2.1 4) (4 * M.1 4) (nI j)) (4 * M.1 4 + 1) 0) (4 * M.1 4 + 2) h9) (4 * M.1 4 + 3) y3)) ++ ob)) rfl rfl rfl (by show (((g_hp G C (g_hm G (f_mI M 4 (upd (upd (upd (M.2.2.2.1 4) (4 * M.1 4) (nI j)) (4 * M.1 4 + 1) 0) (4 * M.1 4 + 2) h9)) ++ ob)).set 45 (c_I G 48 (upd (upd (upd (upd (M.2.2.2.1 4) (4 * M.1 4) (nI j)) (4 * M.1 4 + 1) 0) (4 * M.1 4 + 2) h9) (nI ((4 * (M.1 4)) + 3)).toNatClampNeg y3))) : List va_E) = _; rw [c3]; rfl) ?_
  refine a_aload_n 1 179 rfl dX12_set_178 rfl rfl ?_
  refine a_dup 180 rfl dX12_set_179 rfl ?_
  refine a_get 12 cl_11 f_RX12_104_11 (by decide) (rfl) rfl 183 rfl dX12_set_180 ?_
  refine a_iconst (x := 1) 184 rfl dX12_set_183 (by decide) ?_
  refine a_iadd 185 rfl dX12_set_184 ?_
  refine a_eq (st2 := [.int (nI ((M.1 4) + 1)), .ref (g_ad G 38)]) rfl rfl (congrArg (fun z9 => Value.int z9 :: [.ref (g_ad G 38)]) (nI_add (M.1 4) 1)) rfl ?_
  refine a_put (fs' := [.int (nI (M.1 0)), .int (nI (M.1 1)), .int (nI (M.1 2)), .int (nI (M.1 3)), .ref (g_ad G 39), .ref (g_ad G 40), .ref (g_ad G 41), .ref (g_ad G 42), .ref (g_ad G 43), .ref (g_ad G 44), .int (M.2.1 0), .ref (g_ad G 45), .int (nI ((M.1 4) + 1)), .int (nI (M.1 5)), .int (M.2.1 1), .int (M.2.1 2), .long (M.2.2.1 0), .ref (g_ad G 46), .ref (g_ad G 47), .ref (g_ad G 48), .int (nI (M.1 6)), .long (M.2.2.1 1), .int (nI (M.1 7)), .int (nI (M.1 8)), .ref (g_ad G 49), .ref (g_ad G 50), .int (nI (M.1 9)), .int (nI (M.1 10)), .int (nI (M.1 11)), .long (M.2.2.1 2), .ref (g_ad G 51), .ref (g_ad G 52), .ref (g_ad G 53), .ref (g_ad G 54), .ref (g_ad G 55), .ref (g_ad G 56), .ref (g_ad G 57), .ref (g_ad G 58), .ref (g_ad G 59), .ref (g_ad G 60), .ref (g_ad G 61), .ref (g_ad G 62), .int (nI (M.1 12))]) 12 cl_11 f_RX12_104_11 (by decide) (rfl) rfl rfl rfl (Nat.le_of_ble_eq_true rfl) rfl 188 rfl dX12_set_185 ?_
  refine a_eq (h2 := g_hp G C (g_hm G (f_mn (f_mI M 4 (upd (upd (upd (upd (M.2.2.2.1 4) (4 * M.1 4) (nI j)) (4 * M.1 4 + 1) 0) (4 * M.1 4 + 2) h9) (4 * M.1 4 + 3) y3)) 4 (M.1 4 + 1)) ++ ob)) rfl rfl rfl (rfl) ?_
  refine a_aload_n 1 189 rfl dX12_set_188 rfl rfl ?_
  refine a_iconst (x := 0) 190 rfl dX12_set_189 (by decide) ?_
  refine a_put (fs' := [.int (nI (M.1 0)), .int (nI (M.1 1)), .int (nI (M.1 2)), .int (nI (M.1 3)), .ref (g_ad G 39), .ref (g_ad G 40), .ref (g_ad G 41), .ref (g_ad G 42), .ref (g_ad G 43), .ref (g_ad G 44), .int (M.2.1 0), .ref (g_ad G 45), .int (nI (M.1 4 + 1)), .int 0, .int (M.2.1 1), .int (M.2.1 2), .long (M.2.2.1 0), .ref (g_ad G 46), .ref (g_ad G 47), .ref (g_ad G 48), .int (nI (M.1 6)), .long (M.2.2.1 1), .int (nI (M.1 7)), .int (nI (M.1 8)), .ref (g_ad G 49), .ref (g_ad G 50), .int (nI (M.1 9)), .int (nI (M.1 10)), .int (nI (M.1 11)), .long (M.2.2.1 2), .ref (g_ad G 51), .ref (g_ad G 52), .ref (g_ad G 53), .ref (g_ad G 54), .ref (g_ad G 55), .ref (g_ad G 56), .ref (g_ad G 57), .ref (g_ad G 58), .ref (g_ad G 59), .ref (g_ad G 60), .ref (g_ad G 61), .ref (g_ad G 62), .int (nI (M.1 12))]) 13 cl_11 f_RX12_107_11 (by decide) (rfl) rfl rfl rfl (Nat.le_of_ble_eq_true rfl) rfl 193 rfl dX12_set_190 ?_
  refine a_eq (h2 := g_hp G C (g_hm G (f_mn (f_mn (f_mI M 4 (upd (upd (upd (upd (M.2.2.2.1 4) (4 * M.1 4) (nI j)) (4 * M.1 4 + 1) 0) (4 * M.1 4 + 2) h9) (4 * M.1 4 + 3) y3)) 4 (M.1 4 + 1)) 5 0) ++ ob)) rfl rfl rfl (rfl) ?_
  refine a_aload_n 1 194 rfl dX12_set_193 rfl rfl ?_
  refine a_iload_n 2 195 rfl dX12_set_194 rfl rfl ?_
  refine a_iload_n 3 196 rfl dX12_set_195 rfl rfl ?_
  refine a_iload_n 4 197 rfl dX12_set_196 rfl rfl ?_
  refine a_callV (as := [.int (nI j), .int 0, .int y3]) (rest := []) (st2 := []) (u1 := 0) (v1 := 0) (u2 := 0) (v2 := 0) (r_laysM0 hj) (⟨_, _, _, _, rfl, rfl⟩) oX12_lays q_1279 q_1281 q_88 rfl (by omega) (by decide) rfl (Nat.le_of_ble_eq_true rfl) 200 rfl dX12_set_197 rfl ?_
  refine a_iload 0 202 rfl dX12_set_200 rfl ?_
  exact a_ireturn .int rfl rfl (rfl) (rfl) dX12_set_202
theorem r_setM0 (hm : M.1 1 ≤ 8) (hj : j < M.1 1) (hy : (0 : Int32) ≤ y3 ∧ y3 ≤ 5) (he : ¬ M.2.2.2.1 0 j = y3) (hc : M.1 4 < 12) : g_Run G mX12_set 6 0 0 [.ref (g_ad G 38), .int (nI j), .int 0, .int y3] (g_hp G C (g_hm G M ++ ob)) (some (.int (M.2.2.2.1 0 j))) (g_hp G C (g_hm G (f_stM M j 0 y3) ++ ob)) := by
  refine g_Run.of (lv := [(0, .ref (g_ad G 38)), (1, .int (nI j)), (2, .int 0), (3, .int y3)]) (by decide) (Nat.le_of_ble_eq_true rfl) rfl ?_
  refine a_aload_n 0 1 rfl dX12_set_0 rfl rfl ?_
  refine a_iload_n 1 2 rfl dX12_set_1 rfl rfl ?_
  refine a_callV (as := [.int (nI j)]) (rest := []) (st2 := [.int 1]) (u1 := 0) (v1 := 0) (u2 := 0) (v2 := 0) (r_isFam_in hm hj) (⟨_, _, _, _, rfl, rfl⟩) oX12_isFamily q_1273 q_1275 q_87 rfl (by omega) (by decide) rfl (Nat.le_of_ble_eq_true rfl) 5 rfl dX12_set_2 rfl ?_
  refine a_if_eq 40 8 rfl dX12_set_5 (by decide) (fun hc => absurd hc ((by decide))) (fun _ => ?_)
  refine a_iload_n 2 9 rfl dX12_set_8 rfl rfl ?_
  refine a_i2l 10 rfl dX12_set_9 ?_
  refine a_lconst (x := 0) 11 rfl dX12_set_10 (by decide) ?_
  refine a_lconst (x := 1) 12 rfl dX12_set_11 (by decide) ?_
  refine a_callS (as := [.long ((0 : Int32).toInt64), .long 0, .long 1]) (rest := []) (st2 := [.int (f_i (decide ((0 : Int32) ≤ (0 : Int32) ∧ (0 : Int32) ≤ 1)))]) (u1 := 0) (v1 := 0) (u2 := 0) (v2 := 0) (r_isInB (y := (0 : Int32)) (a := 0) (b := 1) rfl rfl) oX12_isIn q_1242 q_1243 rfl (by omega) (by decide) rfl (Nat.le_of_ble_eq_true rfl) 15 rfl dX12_set_12 rfl ?_
  refine a_if_eq 40 18 rfl dX12_set_15 (by decide) (fun hc => absurd hc (f_i_T (by decide))) (fun _ => ?_)
  refine a_iload_n 3 19 rfl dX12_set_18 rfl rfl ?_
  refine a_i2l 20 rfl dX12_set_19 ?_
  refine a_lconst (x := 0) 21 rfl dX12_set_20 (by decide) ?_
  refine a_iload_n 2 22 rfl dX12_set_21 rfl rfl ?_
  refine a_if_ne 31 25 rfl dX12_set_22 (by decide) (fun hc => absurd (rfl) hc) (fun _ => ?_)
  refine a_ldc2 q_1277 28 rfl dX12_set_25 ?_
  refine a_goto 34 dX12_set_28 (by decide) ?_
  refine a_callS (as := [.long y3.toInt64, .long 0, .long 5]) (rest := []) (st2 := [.int (f_i (decide ((0 : Int32) ≤ y3 ∧ y3 ≤ 5)))]) (u1 := 0) (v1 := 0) (u2 := 0) (v2 := 0) (r_isInB (y := y3) (a := 0) (b := 5) rfl rfl) oX12_isIn q_1242 q_1243 rfl (by omega) (by decide) rfl (Nat.le_of_ble_eq_true rfl) 37 rfl dX12_set_34 rfl ?_
  refine a_if_ne 42 40 rfl dX12_set_37 (by decide) (fun _ => ?_) (fun hc => absurd hc (f_i_T (decide_eq_true hy)))
  refine a_iload_n 2 43 rfl dX12_set_42 rfl rfl ?_
  refine a_if_ne 55 46 rfl dX12_set_43 (by decide) (fun hc => absurd (rfl) hc) (fun _ => ?_)
  refine a_aload_n 0 47 rfl dX12_set_46 rfl rfl ?_
  refine a_get 4 cl_11 f_RX12_15_11 (by decide) (rfl) rfl 50 rfl dX12_set_47 ?_
  refine a_iload_n 1 51 rfl dX12_set_50 rfl rfl ?_
  refine a_iald (rfl) (vp_in_nI (n := j) (by omega) (by omega)) 52 rfl dX12_set_51 ?_
  refine a_eq (st2 := [.int ((M.2.2.2.1 0) j)]) rfl rfl (congrArg (fun z9 => Value.int z9 :: []) (congrArg (M.2.2.2.1 0) (g_cl (by omega)))) rfl ?_
  refine a_goto 61 dX12_set_52 (by decide) ?_
  refine a_istore (lv' := [(4, .int ((M.2.2.2.1 0) j)), (0, .ref (g_ad G 38)), (1, .int (nI j)), (2, .int 0), (3, .int y3)]) 63 rfl dX12_set_61 (by decide) rfl ?_
  refine a_iload 0 65 rfl dX12_set_63 rfl ?_
  refine a_iload_n 4 66 rfl dX12_set_65 rfl rfl ?_
  refine a_icmp_ne 72 69 rfl dX12_set_66 (by decide) (fun _ => ?_) (fun hc => absurd hc (he))
  refine a_aload_n 1 73 rfl dX12_set_72 rfl rfl ?_
  refine a_get 12 cl_11 f_RX12_104_11 (by decide) (rfl) rfl 76 rfl dX12_set_73 ?_
  refine a_bipush (x := 12) 78 rfl dX12_set_76 (by decide) ?_
  refine a_icmp_ne 123 81 rfl dX12_set_78 (by decide) (fun _ => ?_) (fun hc => absurd hc (fun z9 => absurd (nI_inj9 (a := (M.1 4)) (b := 12) (by omega) (by omega) z9) (by omega)))
  refine a_sub (lv' := [(4, .int ((M.2.2.2.1 0) j)), (0, .ref (g_ad G 38)), (1, .int (nI j)), (2, .int 0), (3, .int y3)]) [0, 1, 2, 3, 4] rfl ?_
  exact r_setA0 (by omega) hc
theorem r_setM0_12 (hm : M.1 1 ≤ 8) (hj : j < M.1 1) (hy : (0 : Int32) ≤ y3 ∧ y3 ≤ 5) (he : ¬ M.2.2.2.1 0 j = y3) (hc : M.1 4 = 12) : g_Run G mX12_set 6 0 0 [.ref (g_ad G 38), .int (nI j), .int 0, .int y3] (g_hp G C (g_hm G M ++ ob)) (some (.int (M.2.2.2.1 0 j))) (g_hp G C (g_hm G (f_stM (f_shM12 M) j 0 y3) ++ ob)) := by
  refine g_Run.of (lv := [(0, .ref (g_ad G 38)), (1, .int (nI j)), (2, .int 0), (3, .int y3)]) (by decide) (Nat.le_of_ble_eq_true rfl) rfl ?_
  refine a_aload_n 0 1 rfl dX12_set_0 rfl rfl ?_
  refine a_iload_n 1 2 rfl dX12_set_1 rfl rfl ?_
  refine a_callV (as := [.int (nI j)]) (rest := []) (st2 := [.int 1]) (u1 := 0) (v1 := 0) (u2 := 0) (v2 := 0) (r_isFam_in hm hj) (⟨_, _, _, _, rfl, rfl⟩) oX12_isFamily q_1273 q_1275 q_87 rfl (by omega) (by decide) rfl (Nat.le_of_ble_eq_true rfl) 5 rfl dX12_set_2 rfl ?_
  refine a_if_eq 40 8 rfl dX12_set_5 (by decide) (fun hc => absurd hc ((by decide))) (fun _ => ?_)
  refine a_iload_n 2 9 rfl dX12_set_8 rfl rfl ?_
  refine a_i2l 10 rfl dX12_set_9 ?_
  refine a_lconst (x := 0) 11 rfl dX12_set_10 (by decide) ?_
  refine a_lconst (x := 1) 12 rfl dX12_set_11 (by decide) ?_
  refine a_callS (as := [.long ((0 : Int32).toInt64), .long 0, .long 1]) (rest := []) (st2 := [.int (f_i (decide ((0 : Int32) ≤ (0 : Int32) ∧ (0 : Int32) ≤ 1)))]) (u1 := 0) (v1 := 0) (u2 := 0) (v2 := 0) (r_isInB (y := (0 : Int32)) (a := 0) (b := 1) rfl rfl) oX12_isIn q_1242 q_1243 rfl (by omega) (by decide) rfl (Nat.le_of_ble_eq_true rfl) 15 rfl dX12_set_12 rfl ?_
  refine a_if_eq 40 18 rfl dX12_set_15 (by decide) (fun hc => absurd hc (f_i_T (by decide))) (fun _ => ?_)
  refine a_iload_n 3 19 rfl dX12_set_18 rfl rfl ?_
  refine a_i2l 20 rfl dX12_set_19 ?_
  refine a_lconst (x := 0) 21 rfl dX12_set_20 (by decide) ?_
  refine a_iload_n 2 22 rfl dX12_set_21 rfl rfl ?_
  refine a_if_ne 31 25 rfl dX12_set_22 (by decide) (fun hc => absurd (rfl) hc) (fun _ => ?_)
  refine a_ldc2 q_1277 28 rfl dX12_set_25 ?_
  refine a_goto 34 dX12_set_28 (by decide) ?_
  refine a_callS (as := [.long y3.toInt64, .long 0, .long 5]) (rest := []) (st2 := [.int (f_i (decide ((0 : Int32) ≤ y3 ∧ y3 ≤ 5)))]) (u1 := 0) (v1 := 0) (u2 := 0) (v2 := 0) (r_isInB (y := y3) (a := 0) (b := 5) rfl rfl) oX12_isIn q_1242 q_1243 rfl (by omega) (by decide) rfl (Nat.le_of_ble_eq_true rfl) 37 rfl dX12_set_34 rfl ?_
  refine a_if_ne 42 40 rfl dX12_set_37 (by decide) (fun _ => ?_) (fun hc => absurd hc (f_i_T (decide_eq_true hy)))
  refine a_iload_n 2 43 rfl dX12_set_42 rfl rfl ?_
  refine a_if_ne 55 46 rfl dX12_set_43 (by decide) (fun hc => absurd (rfl) hc) (fun _ => ?_)
  refine a_aload_n 0 47 rfl dX12_set_46 rfl rfl ?_
  refine a_get 4 cl_11 f_RX12_15_11 (by decide) (rfl) rfl 50 rfl dX12_set_47 ?_
  refine a_iload_n 1 51 rfl dX12_set_50 rfl rfl ?_
  refine a_iald (rfl) (vp_in_nI (n := j) (by omega) (by omega)) 52 rfl dX12_set_51 ?_
  refine a_eq (st2 := [.int ((M.2.2.2.1 0) j)]) rfl rfl (congrArg (fun z9 => Value.int z9 :: []) (congrArg (M.2.2.2.1 0) (g_cl (by omega)))) rfl ?_
  refine a_goto 61 dX12_set_52 (by decide) ?_
  refine a_istore (lv' := [(4, .int ((M.2.2.2.1 0) j)), (0, .ref (g_ad G 38)), (1, .int (nI j)), (2, .int 0), (3, .int y3)]) 63 rfl dX12_set_61 (by decide) rfl ?_
  refine a_iload 0 65 rfl dX12_set_63 rfl ?_
  refine a_iload_n 4 66 rfl dX12_set_65 rfl rfl ?_
  refine a_icmp_ne 72 69 rfl dX12_set_66 (by decide) (fun _ => ?_) (fun hc => absurd hc (he))
  refine a_aload_n 1 73 rfl dX12_set_72 rfl rfl ?_
  refine a_get 12 cl_11 f_RX12_104_11 (by decide) (rfl) rfl 76 rfl dX12_set_73 ?_
  refine a_bipush (x := 12) 78 rfl dX12_set_76 (by decide) ?_
  refine a_icmp_ne 123 81 rfl dX12_set_78 (by decide) (fun hc => absurd (congrArg nI (by omega)) hc) (fun _ => ?_)
  refine a_iconst (x := 4) 82 rfl dX12_set_81 (by decide) ?_
  refine a_istore (lv' := [(5, .int 4), (4, .int ((M.2.2.2.1 0) j)), (0, .ref (g_ad G 38)), (1, .int (nI j)), (2, .int 0), (3, .int y3)]) 84 rfl dX12_set_82 (by decide) rfl ?_
  refine a_eq (h2 := g_hp G C (g_hm G (f_mI M 4 (f_sC4 (M.2.2.2.1 4) 0)) ++ ob)) rfl rfl rfl (rfl) ?_
  refine a_sub (lv' := [(5, .int (nI (0 + 4))), (4, .int (M.2.2.2.1 0 j)), (0, .ref (g_ad G 38)), (1, .int (nI j)), (2, .int 0), (3, .int y3)]) [0, 1, 2, 3, 4, 5] rfl ?_
  refine g_for (P := fun t9 => True) 44 (fun t9 => [(5, .int (nI (t9 + 4))), (4, .int (M.2.2.2.1 0 j)), (0, .ref (g_ad G 38)), (1, .int (nI j)), (2, .int 0), (3, .int y3)]) (fun t9 => g_hp G C (g_hm G (f_mI M 4 (f_sC4 (M.2.2.2.1 4) t9)) ++ ob)) (trivial) (fun t9 h_t9 p_t9 k_t9 => ?_) (fun p_t9 => ?_)
  · have c0 : (nI (t9 + 4 - 4)).toNatClampNeg = t9 := g_cl (by omega)
    refine a_iload 0 86 rfl dX12_set_84 rfl ?_
    refine a_bipush (x := 48) 88 rfl dX12_set_86 (by decide) ?_
    refine a_icmp_ge 113 91 rfl dX12_set_88 (by decide) (fun hc => absurd hc (nI_ge (a := (t9 + 4)) (b := 48) (by omega) (by omega))) (fun _ => ?_)
    refine a_aload_n 2 92 rfl dX12_set_91 rfl rfl ?_
    refine a_get 11 cl_11 f_RX12_35_11 (by decide) (rfl) rfl 95 rfl dX12_set_92 ?_
    refine a_iload 0 97 rfl dX12_set_95 rfl ?_
    refine a_iconst (x := 4) 98 rfl dX12_set_97 (by decide) ?_
    refine a_isub 99 rfl dX12_set_98 ?_
    refine a_eq (st2 := [.int (nI ((t9 + 4) - 4)), .ref (g_ad G 45)]) rfl rfl (congrArg (fun z9 => Value.int z9 :: [.ref (g_ad G 45)]) (pk_sub (a := (t9 + 4)) (b := 4) (by omega))) rfl ?_
    refine a_aload_n 2 100 rfl dX12_set_99 rfl rfl ?_
    refine a_get 11 cl_11 f_RX12_35_11 (by decide) (rfl) rfl 103 rfl dX12_set_100 ?_
    refine a_iload 0 105 rfl dX12_set_103 rfl ?_
    refine a_iald (rfl) (vp_in_nI (n := (t9 + 4)) (by omega) (by omega)) 106 rfl dX12_set_105 ?_
    refine a_eq (st2 := [.int ((f_sC4 (M.2.2.2.1 4) t9) (t9 + 4)), .int (nI ((t9 + 4) - 4)), .ref (g_ad G 45)]) rfl rfl (congrArg (fun z9 => Value.int z9 :: [.int (nI ((t9 + 4) - 4)), .ref (g_ad G 45)]) (congrArg (f_sC4 (M.2.2.2.1 4) t9) (g_cl (by omega)))) rfl ?_
    refine a_iast (rfl) (vp_in_nI (n := ((t9 + 4) - 4)) (by omega) (by omega)) 107 rfl dX12_set_106 ?_
    refine a_eq (h2 := g_hp G C (g_hm G (f_mI M 4 (f_sC4 (M.2.2.2.1 4) (t9 + 1))) ++ ob)) rfl rfl rfl (by show (((g_hp G C (g_hm G (f_mI M 4 (f_sC4 (M.2.2.2.1 4) t9)) ++ ob)).set 45 (c_I G 48 (upd (f_sC4 (M.2.2.2.1 4) t9) (nI ((t9 + 4) - 4)).toNatClampNeg ((f_sC4 (M.2.2.2.1 4) t9) (t9 + 4))))) : List va_E) = _; rw [c0]; rfl) ?_
    refine a_iinc (y := nI ((t9 + 4) + 1)) (lv' := [(5, .int (nI ((t9 + 4) + 1))), (4, .int (M.2.2.2.1 0 j)), (0, .ref (g_ad G 38)), (1, .int (nI j)), (2, .int 0), (3, .int y3)]) 0 110 rfl dX12_set_107 rfl (nI_1 (t9 + 4)) (by decide) rfl ?_
    refine a_goto 84 dX12_set_110 (by decide) ?_
    refine a_eq (lv2 := [(5, .int (nI (t9 + 1 + 4))), (4, .int (M.2.2.2.1 0 j)), (0, .ref (g_ad G 38)), (1, .int (nI j)), (2, .int 0), (3, .int y3)]) rfl (congrArg (fun z9 => ([(5, .int z9), (4, .int (M.2.2.2.1 0 j)), (0, .ref (g_ad G 38)), (1, .int (nI j)), (2, .int 0), (3, .int y3)] : List (Nat × Value))) (by rw [show t9 + 4 + 1 = t9 + 1 + 4 by omega])) rfl rfl ?_
    refine a_sub (lv' := [(5, .int (nI ((t9 + 1) + 4))), (4, .int (M.2.2.2.1 0 j)), (0, .ref (g_ad G 38)), (1, .int (nI j)), (2, .int 0), (3, .int y3)]) [0, 1, 2, 3, 4, 5] rfl ?_
    exact k_t9 trivial
  · skip
    refine a_iload 0 86 rfl dX12_set_84 rfl ?_
    refine a_bipush (x := 48) 88 rfl dX12_set_86 (by decide) ?_
    refine a_icmp_ge 113 91 rfl dX12_set_88 (by decide) (fun _ => ?_) (fun hc => absurd (nI_le (a := 48) (b := (44 + 4)) (by omega) (by omega)) hc)
    refine a_aload_n 2 114 rfl dX12_set_113 rfl rfl ?_
    refine a_dup 115 rfl dX12_set_114 rfl ?_
    refine a_get 12 cl_11 f_RX12_104_11 (by decide) (rfl) rfl 118 rfl dX12_set_115 ?_
    refine a_iconst (x := 1) 119 rfl dX12_set_118 (by decide) ?_
    refine a_isub 120 rfl dX12_set_119 ?_
    refine a_eq (st2 := [.int (nI ((M.1 4) - 1)), .ref (g_ad G 38)]) rfl rfl (congrArg (fun z9 => Value.int z9 :: [.ref (g_ad G 38)]) (pk_sub (a := (M.1 4)) (b := 1) (by omega))) rfl ?_
    refine a_put (fs' := [.int (nI (M.1 0)), .int (nI (M.1 1)), .int (nI (M.1 2)), .int (nI (M.1 3)), .ref (g_ad G 39), .ref (g_ad G 40), .ref (g_ad G 41), .ref (g_ad G 42), .ref (g_ad G 43), .ref (g_ad G 44), .int (M.2.1 0), .ref (g_ad G 45), .int (nI ((M.1 4) - 1)), .int (nI (M.1 5)), .int (M.2.1 1), .int (M.2.1 2), .long (M.2.2.1 0), .ref (g_ad G 46), .ref (g_ad G 47), .ref (g_ad G 48), .int (nI (M.1 6)), .long (M.2.2.1 1), .int (nI (M.1 7)), .int (nI (M.1 8)), .ref (g_ad G 49), .ref (g_ad G 50), .int (nI (M.1 9)), .int (nI (M.1 10)), .int (nI (M.1 11)), .long (M.2.2.1 2), .ref (g_ad G 51), .ref (g_ad G 52), .ref (g_ad G 53), .ref (g_ad G 54), .ref (g_ad G 55), .ref (g_ad G 56), .ref (g_ad G 57), .ref (g_ad G 58), .ref (g_ad G 59), .ref (g_ad G 60), .ref (g_ad G 61), .ref (g_ad G 62), .int (nI (M.1 12))]) 12 cl_11 f_RX12_104_11 (by decide) (rfl) rfl rfl rfl (Nat.le_of_ble_eq_true rfl) rfl 123 rfl dX12_set_120 ?_
    refine a_eq (h2 := g_hp G C (g_hm G (f_mn (f_mI M 4 (f_sC4 (M.2.2.2.1 4) 44)) 4 11) ++ ob)) rfl rfl rfl (by show (((g_hp G C (g_hm G (f_mI M 4 (f_sC4 (M.2.2.2.1 4) 44)) ++ ob)).set 38 (c_O 11 [.int (nI (M.1 0)), .int (nI (M.1 1)), .int (nI (M.1 2)), .int (nI (M.1 3)), .ref (g_ad G 39), .ref (g_ad G 40), .ref (g_ad G 41), .ref (g_ad G 42), .ref (g_ad G 43), .ref (g_ad G 44), .int (M.2.1 0), .ref (g_ad G 45), .int (nI ((M.1 4) - 1)), .int (nI (M.1 5)), .int (M.2.1 1), .int (M.2.1 2), .long (M.2.2.1 0), .ref (g_ad G 46), .ref (g_ad G 47), .ref (g_ad G 48), .int (nI (M.1 6)), .long (M.2.2.1 1), .int (nI (M.1 7)), .int (nI (M.1 8)), .ref (g_ad G 49), .ref (g_ad G 50), .int (nI (M.1 9)), .int (nI (M.1 10)), .int (nI (M.1 11)), .long (M.2.2.1 2), .ref (g_ad G 51), .ref (g_ad G 52), .ref (g_ad G 53), .ref (g_ad G 54), .ref (g_ad G 55), .ref (g_ad G 56), .ref (g_ad G 57), .ref (g_ad G 58), .ref (g_ad G 59), .ref (g_ad G 60), .ref (g_ad G 61), .ref (g_ad G 62), .int (nI (M.1 12))])) : List va_E) = _; rw [hc]; rfl) ?_
    refine a_sub (lv' := [(4, .int (M.2.2.2.1 0 j)), (0, .ref (g_ad G 38)), (1, .int (nI j)), (2, .int 0), (3, .int y3)]) [1, 2, 3, 4, 5] rfl ?_
    exact r_setA0 (M := f_mn (f_mI M 4 (f_sC4 (M.2.2.2.1 4) 44)) 4 11) (h9 := M.2.2.2.1 0 j) (by omega) (show (11 : Nat) < 12 by decide)

theorem r_setM_b2_1 (hm : M.1 1 ≤ 8) (hj : j < M.1 1) (hy : ¬ ((0 : Int32) ≤ y3 ∧ y3 ≤ 9)) : g_Run G mX12_set 6 0 0 [.ref (g_ad G 38), .int (nI j), .int 1, .int y3] (g_hp G C (g_hm G M ++ ob)) (some (.int (-1))) (g_hp G C (g_hm G M ++ ob)) := by
  refine g_Run.of (lv := [(0, .ref (g_ad G 38)), (1, .int (nI j)), (2, .int 1), (3, .int y3)]) (by decide) (Nat.le_of_ble_eq_true rfl) rfl ?_
  refine a_aload_n 0 1 rfl dX12_set_0 rfl rfl ?_
  refine a_iload_n 1 2 rfl dX12_set_1 rfl rfl ?_
  refine a_callV (as := [.int (nI j)]) (rest := []) (st2 := [.int 1]) (u1 := 0) (v1 := 0) (u2 := 0) (v2 := 0) (r_isFam_in hm hj) (⟨_, _, _, _, rfl, rfl⟩) oX12_isFamily q_1273 q_1275 q_87 rfl (by omega) (by decide) rfl (Nat.le_of_ble_eq_true rfl) 5 rfl dX12_set_2 rfl ?_
  refine a_if_eq 40 8 rfl dX12_set_5 (by decide) (fun hc => absurd hc ((by decide))) (fun _ => ?_)
  refine a_iload_n 2 9 rfl dX12_set_8 rfl rfl ?_
  refine a_i2l 10 rfl dX12_set_9 ?_
  refine a_lconst (x := 0) 11 rfl dX12_set_10 (by decide) ?_
  refine a_lconst (x := 1) 12 rfl dX12_set_11 (by decide) ?_
  refine a_callS (as := [.long ((1 : Int32).toInt64), .long 0, .long 1]) (rest := []) (st2 := [.int (f_i (decide ((0 : Int32) ≤ (1 : Int32) ∧ (1 : Int32) ≤ 1)))]) (u1 := 0) (v1 := 0) (u2 := 0) (v2 := 0) (r_isInB (y := (1 : Int32)) (a := 0) (b := 1) rfl rfl) oX12_isIn q_1242 q_1243 rfl (by omega) (by decide) rfl (Nat.le_of_ble_eq_true rfl) 15 rfl dX12_set_12 rfl ?_
  refine a_if_eq 40 18 rfl dX12_set_15 (by decide) (fun hc => absurd hc (f_i_T (by decide))) (fun _ => ?_)
  refine a_iload_n 3 19 rfl dX12_set_18 rfl rfl ?_
  refine a_i2l 20 rfl dX12_set_19 ?_
  refine a_lconst (x := 0) 21 rfl dX12_set_20 (by decide) ?_
  refine a_iload_n 2 22 rfl dX12_set_21 rfl rfl ?_
  refine a_if_ne 31 25 rfl dX12_set_22 (by decide) (fun _ => ?_) (fun hc => absurd hc ((by decide)))
  refine a_ldc2 q_1278 34 rfl dX12_set_31 ?_
  refine a_callS (as := [.long y3.toInt64, .long 0, .long 9]) (rest := []) (st2 := [.int (f_i (decide ((0 : Int32) ≤ y3 ∧ y3 ≤ 9)))]) (u1 := 0) (v1 := 0) (u2 := 0) (v2 := 0) (r_isInB (y := y3) (a := 0) (b := 9) rfl rfl) oX12_isIn q_1242 q_1243 rfl (by omega) (by decide) rfl (Nat.le_of_ble_eq_true rfl) 37 rfl dX12_set_34 rfl ?_
  refine a_if_ne 42 40 rfl dX12_set_37 (by decide) (fun hc => absurd (f_i_F (decide_eq_false hy)) hc) (fun _ => ?_)
  refine a_iconst (x := (-1)) 41 rfl dX12_set_40 (by decide) ?_
  exact a_ireturn .int rfl rfl (rfl) (rfl) dX12_set_41
theorem r_setM_same1 (hm : M.1 1 ≤ 8) (hj : j < M.1 1) (hy : (0 : Int32) ≤ y3 ∧ y3 ≤ 9) (he : M.2.2.2.1 1 j = y3) : g_Run G mX12_set 6 0 0 [.ref (g_ad G 38), .int (nI j), .int 1, .int y3] (g_hp G C (g_hm G M ++ ob)) (some (.int y3)) (g_hp G C (g_hm G M ++ ob)) := by
  refine g_Run.of (lv := [(0, .ref (g_ad G 38)), (1, .int (nI j)), (2, .int 1), (3, .int y3)]) (by decide) (Nat.le_of_ble_eq_true rfl) rfl ?_
  refine a_aload_n 0 1 rfl dX12_set_0 rfl rfl ?_
  refine a_iload_n 1 2 rfl dX12_set_1 rfl rfl ?_
  refine a_callV (as := [.int (nI j)]) (rest := []) (st2 := [.int 1]) (u1 := 0) (v1 := 0) (u2 := 0) (v2 := 0) (r_isFam_in hm hj) (⟨_, _, _, _, rfl, rfl⟩) oX12_isFamily q_1273 q_1275 q_87 rfl (by omega) (by decide) rfl (Nat.le_of_ble_eq_true rfl) 5 rfl dX12_set_2 rfl ?_
  refine a_if_eq 40 8 rfl dX12_set_5 (by decide) (fun hc => absurd hc ((by decide))) (fun _ => ?_)
  refine a_iload_n 2 9 rfl dX12_set_8 rfl rfl ?_
  refine a_i2l 10 rfl dX12_set_9 ?_
  refine a_lconst (x := 0) 11 rfl dX12_set_10 (by decide) ?_
  refine a_lconst (x := 1) 12 rfl dX12_set_11 (by decide) ?_
  refine a_callS (as := [.long ((1 : Int32).toInt64), .long 0, .long 1]) (rest := []) (st2 := [.int (f_i (decide ((0 : Int32) ≤ (1 : Int32) ∧ (1 : Int32) ≤ 1)))]) (u1 := 0) (v1 := 0) (u2 := 0) (v2 := 0) (r_isInB (y := (1 : Int32)) (a := 0) (b := 1) rfl rfl) oX12_isIn q_1242 q_1243 rfl (by omega) (by decide) rfl (Nat.le_of_ble_eq_true rfl) 15 rfl dX12_set_12 rfl ?_
  refine a_if_eq 40 18 rfl dX12_set_15 (by decide) (fun hc => absurd hc (f_i_T (by decide))) (fun _ => ?_)
  refine a_iload_n 3 19 rfl dX12_set_18 rfl rfl ?_
  refine a_i2l 20 rfl dX12_set_19 ?_
  refine a_lconst (x := 0) 21 rfl dX12_set_20 (by decide) ?_
  refine a_iload_n 2 22 rfl dX12_set_21 rfl rfl ?_
  refine a_if_ne 31 25 rfl dX12_set_22 (by decide) (fun _ => ?_) (fun hc => absurd hc ((by decide)))
  refine a_ldc2 q_1278 34 rfl dX12_set_31 ?_
  refine a_callS (as := [.long y3.toInt64, .long 0, .long 9]) (rest := []) (st2 := [.int (f_i (decide ((0 : Int32) ≤ y3 ∧ y3 ≤ 9)))]) (u1 := 0) (v1 := 0) (u2 := 0) (v2 := 0) (r_isInB (y := y3) (a := 0) (b := 9) rfl rfl) oX12_isIn q_1242 q_1243 rfl (by omega) (by decide) rfl (Nat.le_of_ble_eq_true rfl) 37 rfl dX12_set_34 rfl ?_
  refine a_if_ne 42 40 rfl dX12_set_37 (by decide) (fun _ => ?_) (fun hc => absurd hc (f_i_T (decide_eq_true hy)))
  refine a_iload_n 2 43 rfl dX12_set_42 rfl rfl ?_
  refine a_if_ne 55 46 rfl dX12_set_43 (by decide) (fun _ => ?_) (fun hc => absurd hc ((by decide)))
  refine a_aload_n 0 56 rfl dX12_set_55 rfl rfl ?_
  refine a_get 5 cl_11 f_RX12_19_11 (by decide) (rfl) rfl 59 rfl dX12_set_56 ?_
  refine a_iload_n 1 60 rfl dX12_set_59 rfl rfl ?_
  refine a_iald (rfl) (vp_in_nI (n := j) (by omega) (by omega)) 61 rfl dX12_set_60 ?_
  refine a_eq (st2 := [.int ((M.2.2.2.1 1) j)]) rfl rfl (congrArg (fun z9 => Value.int z9 :: []) (congrArg (M.2.2.2.1 1) (g_cl (by omega)))) rfl ?_
  refine a_eq (st2 := [.int y3]) rfl rfl (congrArg (fun z9 => Value.int z9 :: []) (he)) rfl ?_
  refine a_istore (lv' := [(4, .int y3), (0, .ref (g_ad G 38)), (1, .int (nI j)), (2, .int 1), (3, .int y3)]) 63 rfl dX12_set_61 (by decide) rfl ?_
  refine a_iload 0 65 rfl dX12_set_63 rfl ?_
  refine a_iload_n 4 66 rfl dX12_set_65 rfl rfl ?_
  refine a_icmp_ne 72 69 rfl dX12_set_66 (by decide) (fun hc => absurd (rfl) hc) (fun _ => ?_)
  refine a_iload 0 71 rfl dX12_set_69 rfl ?_
  exact a_ireturn .int rfl rfl (rfl) (rfl) dX12_set_71
theorem r_setA1 {h9 : Int32} (hj : j < 8) (hc : M.1 4 < 12) : g_A G mX12_set 6 0 0 123 [(4, .int h9), (0, .ref (g_ad G 38)), (1, .int (nI j)), (2, .int 1), (3, .int y3)] [] (g_hp G C (g_hm G M ++ ob)) (some (.int h9)) (g_hp G C (g_hm G (f_mI (f_mn (f_mn (f_mI M 4 (f_4R (M.2.2.2.1 4) (M.1 4) j 1 h9 y3)) 4 (M.1 4 + 1)) 5 0) 1 (upd (M.2.2.2.1 1) j y3)) ++ ob)) := by
  have c0 : (nI (4 * M.1 4)).toNatClampNeg = 4 * M.1 4 := g_cl (by omega)
  have c1 : (nI (4 * M.1 4 + 1)).toNatClampNeg = 4 * M.1 4 + 1 := g_cl (by omega)
  have c2 : (nI (4 * M.1 4 + 2)).toNatClampNeg = 4 * M.1 4 + 2 := g_cl (by omega)
  have c3 : (nI (4 * M.1 4 + 3)).toNatClampNeg = 4 * M.1 4 + 3 := g_cl (by omega)
  refine a_aload_n 1 124 rfl dX12_set_123 rfl rfl ?_
  refine a_get 11 cl_11 f_RX12_35_11 (by decide) (rfl) rfl 127 rfl dX12_set_124 ?_
  refine a_iconst (x := 4) 128 rfl dX12_set_127 (by decide) ?_
  refine a_aload_n 1 129 rfl dX12_set_128 rfl rfl ?_
  refine a_get 12 cl_11 f_RX12_104_11 (by decide) (rfl) rfl 132 rfl dX12_set_129 ?_
  refine a_imul 133 rfl dX12_set_132 ?_
  refine a_eq (st2 := [.int (nI (4 * (M.1 4))), .ref (g_ad G 45)]) rfl rfl (congrArg (fun z9 => Value.int z9 :: [.ref (g_ad G 45)]) (pk_mul 4 (M.1 4))) rfl ?_
  refine a_iload_n 2 134 rfl dX12_set_133 rfl rfl ?_
  refine a_iast (rfl) (vp_in_nI (n := (4 * (M.1 4))) (by omega) (by omega)) 135 rfl dX12_set_134 ?_
  refine a_eq (h2 := g_hp G C (g_hm G (f_mI M 4 (upd (M.2.2.2.1 4) (4 * M.1 4) (nI j))) ++ ob)) rfl rfl rfl (by show (((g_hp G C (g_hm G M ++ ob)).set 45 (c_I G 48 (upd (M.2.2.2.1 4) (nI (4 * (M.1 4))).toNatClampNeg (nI j)))) : List va_E) = _; rw [c0]; rfl) ?_
  refine a_aload_n 1 136 rfl dX12_set_135 rfl rfl ?_
  refine a_get 11 cl_11 f_RX12_35_11 (by decide) (rfl) rfl 139 rfl dX12_set_136 ?_
  refine a_iconst (x := 4) 140 rfl dX12_set_139 (by decide) ?_
  refine a_aload_n 1 141 rfl dX12_set_140 rfl rfl ?_
  refine a_get 12 cl_11 f_RX12_104_11 (by decide) (rfl) rfl 144 rfl dX12_set_141 ?_
  refine a_imul 145 rfl dX12_set_144 ?_
  refine a_eq (st2 := [.int (nI (4 * (M.1 4))), .ref (g_ad G 45)]) rfl rfl (congrArg (fun z9 => Value.int z9 :: [.ref (g_ad G 45)]) (pk_mul 4 (M.1 4))) rfl ?_
  refine a_iconst (x := 1) 146 rfl dX12_set_145 (by decide) ?_
  refine a_iadd 147 rfl dX12_set_146 ?_
  refine a_eq (st2 := [.int (nI ((4 * (M.1 4)) + 1)), .ref (g_ad G 45)]) rfl rfl (congrArg (fun z9 => Value.int z9 :: [.ref (g_ad G 45)]) (nI_add (4 * (M.1 4)) 1)) rfl ?_
  refine a_iload_n 3 148 rfl dX12_set_147 rfl rfl ?_
  refine a_iast (rfl) (vp_in_nI (n := ((4 * (M.1 4)) + 1)) (by omega) (by omega)) 149 rfl dX12_set_148 ?_
  refine a_eq (h2 := g_hp G C (g_hm G (f_mI M 4 (upd (upd (M.2.2.2.1 4) (4 * M.1 4) (nI j)) (4 * M.1 4 + 1) 1)) ++ ob)) rfl rfl rfl (by show (((g_hp G C (g_hm G (f_mI M 4 (upd (M.2.2.2.1 4) (4 * M.1 4) (nI j))) ++ ob)).set 45 (c_I G 48 (upd (upd (M.2.2.2.1 4) (4 * M.1 4) (nI j)) (nI ((4 * (M.1 4)) + 1)).toNatClampNeg 1))) : List va_E) = _; rw [c1]; rfl) ?_
  refine a_aload_n 1 150 rfl dX12_set_149 rfl rfl ?_
  refine a_get 11 cl_11 f_RX12_35_11 (by decide) (rfl) rfl 153 rfl dX12_set_150 ?_
  refine a_iconst (x := 4) 154 rfl dX12_set_153 (by decide) ?_
  refine a_aload_n 1 155 rfl dX12_set_154 rfl rfl ?_
  refine a_get 12 cl_11 f_RX12_104_11 (by decide) (rfl) rfl 158 rfl dX12_set_155 ?_
  refine a_imul 159 rfl dX12_set_158 ?_
  refine a_eq (st2 := [.int (nI (4 * (M.1 4))), .ref (g_ad G 45)]) rfl rfl (congrArg (fun z9 => Value.int z9 :: [.ref (g_ad G 45)]) (pk_mul 4 (M.1 4))) rfl ?_
  refine a_iconst (x := 2) 160 rfl dX12_set_159 (by decide) ?_
  refine a_iadd 161 rfl dX12_set_160 ?_
  refine a_eq (st2 := [.int (nI ((4 * (M.1 4)) + 2)), .ref (g_ad G 45)]) rfl rfl (congrArg (fun z9 => Value.int z9 :: [.ref (g_ad G 45)]) (nI_add (4 * (M.1 4)) 2)) rfl ?_
  refine a_iload 0 163 rfl dX12_set_161 rfl ?_
  refine a_iast (rfl) (vp_in_nI (n := ((4 * (M.1 4)) + 2)) (by omega) (by omega)) 164 rfl dX12_set_163 ?_
  refine a_eq (h2 := g_hp G C (g_hm G (f_mI M 4 (upd (upd (upd (M.2.2.2.1 4) (4 * M.1 4) (nI j)) (4 * M.1 4 + 1) 1) (4 * M.1 4 + 2) h9)) ++ ob)) rfl rfl rfl (by show (((g_hp G C (g_hm G (f_mI M 4 (upd (upd (M.2.2.2.1 4) (4 * M.1 4) (nI j)) (4 * M.1 4 + 1) 1)) ++ ob)).set 45 (c_I G 48 (upd (upd (upd (M.2.2.2.1 4) (4 * M.1 4) (nI j)) (4 * M.1 4 + 1) 1) (nI ((4 * (M.1 4)) + 2)).toNatClampNeg h9))) : List va_E) = _; rw [c2]; rfl) ?_
  refine a_aload_n 1 165 rfl dX12_set_164 rfl rfl ?_
  refine a_get 11 cl_11 f_RX12_35_11 (by decide) (rfl) rfl 168 rfl dX12_set_165 ?_
  refine a_iconst (x := 4) 169 rfl dX12_set_168 (by decide) ?_
  refine a_aload_n 1 170 rfl dX12_set_169 rfl rfl ?_
  refine a_get 12 cl_11 f_RX12_104_11 (by decide) (rfl) rfl 173 rfl dX12_set_170 ?_
  refine a_imul 174 rfl dX12_set_173 ?_
  refine a_eq (st2 := [.int (nI (4 * (M.1 4))), .ref (g_ad G 45)]) rfl rfl (congrArg (fun z9 => Value.int z9 :: [.ref (g_ad G 45)]) (pk_mul 4 (M.1 4))) rfl ?_
  refine a_iconst (x := 3) 175 rfl dX12_set_174 (by decide) ?_
  refine a_iadd 176 rfl dX12_set_175 ?_
  refine a_eq (st2 := [.int (nI ((4 * (M.1 4)) + 3)), .ref (g_ad G 45)]) rfl rfl (congrArg (fun z9 => Value.int z9 :: [.ref (g_ad G 45)]) (nI_add (4 * (M.1 4)) 3)) rfl ?_
  refine a_iload_n 4 177 rfl dX12_set_176 rfl rfl ?_
  refine a_iast (rfl) (vp_in_nI (n := ((4 * (M.1 4)) + 3)) (by omega) (by omega)) 178 rfl dX12_set_177 ?_
  refine a_eq (h2 := g_hp G C (g_hm G (f_mI M 4 (upd (upd (upd (upd (M.2.2.2.1 4) (4 * M.1 4) (nI j)) (4 * M.1 4 + 1) 1) (4 * M.1 4 + 2) h9) (4 * M.1 4 + 3) y3)) ++ ob)) rfl rfl rfl (by show (((g_hp G C (g_hm G (f_mI M 4 (upd (upd (upd (M.2.2.2.1 4) (4 * M.1 4) (nI j)) (4 * M.1 4 + 1) 1) (4 * M.1 4 + 2) h9)) ++ ob)).set 45 (c_I G 48 (upd (upd (upd (upd (M.2.2.2.1 4) (4 * M.1 4) (nI j)) (4 * M.1 4 + 1) 1) (4 * M.1 4 + 2) h9) (nI ((4 * (M.1 4)) + 3)).toNatClampNeg y3))) : List va_E) = _; rw [c3]; rfl) ?_
  refine a_aload_n 1 179 rfl dX12_set_178 rfl rfl ?_
  refine a_dup 180 rfl dX12_set_179 rfl ?_
  refine a_get 12 cl_11 f_RX12_104_11 (by decide) (rfl) rfl 183 rfl dX12_set_180 ?_
  refine a_iconst (x := 1) 184 rfl dX12_set_183 (by decide) ?_
  refine a_iadd 185 rfl dX12_set_184 ?_
  refine a_eq (st2 := [.int (nI ((M.1 4) + 1)), .ref (g_ad G 38)]) rfl rfl (congrArg (fun z9 => Value.int z9 :: [.ref (g_ad G 38)]) (nI_add (M.1 4) 1)) rfl ?_
  refine a_put (fs' := [.int (nI (M.1 0)), .int (nI (M.1 1)), .int (nI (M.1 2)), .int (nI (M.1 3)), .ref (g_ad G 39), .ref (g_ad G 40), .ref (g_ad G 41), .ref (g_ad G 42), .ref (g_ad G 43), .ref (g_ad G 44), .int (M.2.1 0), .ref (g_ad G 45), .int (nI ((M.1 4) + 1)), .int (nI (M.1 5)), .int (M.2.1 1), .int (M.2.1 2), .long (M.2.2.1 0), .ref (g_ad G 46), .ref (g_ad G 47), .ref (g_ad G 48), .int (nI (M.1 6)), .long (M.2.2.1 1), .int (nI (M.1 7)), .int (nI (M.1 8)), .ref (g_ad G 49), .ref (g_ad G 50), .int (nI (M.1 9)), .int (nI (M.1 10)), .int (nI (M.1 11)), .long (M.2.2.1 2), .ref (g_ad G 51), .ref (g_ad G 52), .ref (g_ad G 53), .ref (g_ad G 54), .ref (g_ad G 55), .ref (g_ad G 56), .ref (g_ad G 57), .ref (g_ad G 58), .ref (g_ad G 59), .ref (g_ad G 60), .ref (g_ad G 61), .ref (g_ad G 62), .int (nI (M.1 12))]) 12 cl_11 f_RX12_104_11 (by decide) (rfl) rfl rfl rfl (Nat.le_of_ble_eq_true rfl) rfl 188 rfl dX12_set_185 ?_
  refine a_eq (h2 := g_hp G C (g_hm G (f_mn (f_mI M 4 (upd (upd (upd (upd (M.2.2.2.1 4) (4 * M.1 4) (nI j)) (4 * M.1 4 + 1) 1) (4 * M.1 4 + 2) h9) (4 * M.1 4 + 3) y3)) 4 (M.1 4 + 1)) ++ ob)) rfl rfl rfl (rfl) ?_
  refine a_aload_n 1 189 rfl dX12_set_188 rfl rfl ?_
  refine a_iconst (x := 0) 190 rfl dX12_set_189 (by decide) ?_
  refine a_put (fs' := [.int (nI (M.1 0)), .int (nI (M.1 1)), .int (nI (M.1 2)), .int (nI (M.1 3)), .ref (g_ad G 39), .ref (g_ad G 40), .ref (g_ad G 41), .ref (g_ad G 42), .ref (g_ad G 43), .ref (g_ad G 44), .int (M.2.1 0), .ref (g_ad G 45), .int (nI (M.1 4 + 1)), .int 0, .int (M.2.1 1), .int (M.2.1 2), .long (M.2.2.1 0), .ref (g_ad G 46), .ref (g_ad G 47), .ref (g_ad G 48), .int (nI (M.1 6)), .long (M.2.2.1 1), .int (nI (M.1 7)), .int (nI (M.1 8)), .ref (g_ad G 49), .ref (g_ad G 50), .int (nI (M.1 9)), .int (nI (M.1 10)), .int (nI (M.1 11)), .long (M.2.2.1 2), .ref (g_ad G 51), .ref (g_ad G 52), .ref (g_ad G 53), .ref (g_ad G 54), .ref (g_ad G 55), .ref (g_ad G 56), .ref (g_ad G 57), .ref (g_ad G 58), .ref (g_ad G 59), .ref (g_ad G 60), .ref (g_ad G 61), .ref (g_ad G 62), .int (nI (M.1 12))]) 13 cl_11 f_RX12_107_11 (by decide) (rfl) rfl rfl rfl (Nat.le_of_ble_eq_true rfl) rfl 193 rfl dX12_set_190 ?_
  refine a_eq (h2 := g_hp G C (g_hm G (f_mn (f_mn (f_mI M 4 (upd (upd (upd (upd (M.2.2.2.1 4) (4 * M.1 4) (nI j)) (4 * M.1 4 + 1) 1) (4 * M.1 4 + 2) h9) (4 * M.1 4 + 3) y3)) 4 (M.1 4 + 1)) 5 0) ++ ob)) rfl rfl rfl (rfl) ?_
  refine a_aload_n 1 194 rfl dX12_set_193 rfl rfl ?_
  refine a_iload_n 2 195 rfl dX12_set_194 rfl rfl ?_
  refine a_iload_n 3 196 rfl dX12_set_195 rfl rfl ?_
  refine a_iload_n 4 197 rfl dX12_set_196 rfl rfl ?_
  refine a_callV (as := [.int (nI j), .int 1, .int y3]) (rest := []) (st2 := []) (u1 := 0) (v1 := 0) (u2 := 0) (v2 := 0) (r_laysM1 hj) (⟨_, _, _, _, rfl, rfl⟩) oX12_lays q_1279 q_1281 q_88 rfl (by omega) (by decide) rfl (Nat.le_of_ble_eq_true rfl) 200 rfl dX12_set_197 rfl ?_
  refine a_iload 0 202 rfl dX12_set_200 rfl ?_
  exact a_ireturn .int rfl rfl (rfl) (rfl) dX12_set_202
theorem r_setM1 (hm : M.1 1 ≤ 8) (hj : j < M.1 1) (hy : (0 : Int32) ≤ y3 ∧ y3 ≤ 9) (he : ¬ M.2.2.2.1 1 j = y3) (hc : M.1 4 < 12) : g_Run G mX12_set 6 0 0 [.ref (g_ad G 38), .int (nI j), .int 1, .int y3] (g_hp G C (g_hm G M ++ ob)) (some (.int (M.2.2.2.1 1 j))) (g_hp G C (g_hm G (f_stM M j 1 y3) ++ ob)) := by
  refine g_Run.of (lv := [(0, .ref (g_ad G 38)), (1, .int (nI j)), (2, .int 1), (3, .int y3)]) (by decide) (Nat.le_of_ble_eq_true rfl) rfl ?_
  refine a_aload_n 0 1 rfl dX12_set_0 rfl rfl ?_
  refine a_iload_n 1 2 rfl dX12_set_1 rfl rfl ?_
  refine a_callV (as := [.int (nI j)]) (rest := []) (st2 := [.int 1]) (u1 := 0) (v1 := 0) (u2 := 0) (v2 := 0) (r_isFam_in hm hj) (⟨_, _, _, _, rfl, rfl⟩) oX12_isFamily q_1273 q_1275 q_87 rfl (by omega) (by decide) rfl (Nat.le_of_ble_eq_true rfl) 5 rfl dX12_set_2 rfl ?_
  refine a_if_eq 40 8 rfl dX12_set_5 (by decide) (fun hc => absurd hc ((by decide))) (fun _ => ?_)
  refine a_iload_n 2 9 rfl dX12_set_8 rfl rfl ?_
  refine a_i2l 10 rfl dX12_set_9 ?_
  refine a_lconst (x := 0) 11 rfl dX12_set_10 (by decide) ?_
  refine a_lconst (x := 1) 12 rfl dX12_set_11 (by decide) ?_
  refine a_callS (as := [.long ((1 : Int32).toInt64), .long 0, .long 1]) (rest := []) (st2 := [.int (f_i (decide ((0 : Int32) ≤ (1 : Int32) ∧ (1 : Int32) ≤ 1)))]) (u1 := 0) (v1 := 0) (u2 := 0) (v2 := 0) (r_isInB (y := (1 : Int32)) (a := 0) (b := 1) rfl rfl) oX12_isIn q_1242 q_1243 rfl (by omega) (by decide) rfl (Nat.le_of_ble_eq_true rfl) 15 rfl dX12_set_12 rfl ?_
  refine a_if_eq 40 18 rfl dX12_set_15 (by decide) (fun hc => absurd hc (f_i_T (by decide))) (fun _ => ?_)
  refine a_iload_n 3 19 rfl dX12_set_18 rfl rfl ?_
  refine a_i2l 20 rfl dX12_set_19 ?_
  refine a_lconst (x := 0) 21 rfl dX12_set_20 (by decide) ?_
  refine a_iload_n 2 22 rfl dX12_set_21 rfl rfl ?_
  refine a_if_ne 31 25 rfl dX12_set_22 (by decide) (fun _ => ?_) (fun hc => absurd hc ((by decide)))
  refine a_ldc2 q_1278 34 rfl dX12_set_31 ?_
  refine a_callS (as := [.long y3.toInt64, .long 0, .long 9]) (rest := []) (st2 := [.int (f_i (decide ((0 : Int32) ≤ y3 ∧ y3 ≤ 9)))]) (u1 := 0) (v1 := 0) (u2 := 0) (v2 := 0) (r_isInB (y := y3) (a := 0) (b := 9) rfl rfl) oX12_isIn q_1242 q_1243 rfl (by omega) (by decide) rfl (Nat.le_of_ble_eq_true rfl) 37 rfl dX12_set_34 rfl ?_
  refine a_if_ne 42 40 rfl dX12_set_37 (by decide) (fun _ => ?_) (fun hc => absurd hc (f_i_T (decide_eq_true hy)))
  refine a_iload_n 2 43 rfl dX12_set_42 rfl rfl ?_
  refine a_if_ne 55 46 rfl dX12_set_43 (by decide) (fun _ => ?_) (fun hc => absurd hc ((by decide)))
  refine a_aload_n 0 56 rfl dX12_set_55 rfl rfl ?_
  refine a_get 5 cl_11 f_RX12_19_11 (by decide) (rfl) rfl 59 rfl dX12_set_56 ?_
  refine a_iload_n 1 60 rfl dX12_set_59 rfl rfl ?_
  refine a_iald (rfl) (vp_in_nI (n := j) (by omega) (by omega)) 61 rfl dX12_set_60 ?_
  refine a_eq (st2 := [.int ((M.2.2.2.1 1) j)]) rfl rfl (congrArg (fun z9 => Value.int z9 :: []) (congrArg (M.2.2.2.1 1) (g_cl (by omega)))) rfl ?_
  refine a_istore (lv' := [(4, .int ((M.2.2.2.1 1) j)), (0, .ref (g_ad G 38)), (1, .int (nI j)), (2, .int 1), (3, .int y3)]) 63 rfl dX12_set_61 (by decide) rfl ?_
  refine a_iload 0 65 rfl dX12_set_63 rfl ?_
  refine a_iload_n 4 66 rfl dX12_set_65 rfl rfl ?_
  refine a_icmp_ne 72 69 rfl dX12_set_66 (by decide) (fun _ => ?_) (fun hc => absurd hc (he))
  refine a_aload_n 1 73 rfl dX12_set_72 rfl rfl ?_
  refine a_get 12 cl_11 f_RX12_104_11 (by decide) (rfl) rfl 76 rfl dX12_set_73 ?_
  refine a_bipush (x := 12) 78 rfl dX12_set_76 (by decide) ?_
  refine a_icmp_ne 123 81 rfl dX12_set_78 (by decide) (fun _ => ?_) (fun hc => absurd hc (fun z9 => absurd (nI_inj9 (a := (M.1 4)) (b := 12) (by omega) (by omega) z9) (by omega)))
  refine a_sub (lv' := [(4, .int ((M.2.2.2.1 1) j)), (0, .ref (g_ad G 38)), (1, .int (nI j)), (2, .int 1), (3, .int y3)]) [0, 1, 2, 3, 4] rfl ?_
  exact r_setA1 (by omega) hc
theorem r_setM1_12 (hm : M.1 1 ≤ 8) (hj : j < M.1 1) (hy : (0 : Int32) ≤ y3 ∧ y3 ≤ 9) (he : ¬ M.2.2.2.1 1 j = y3) (hc : M.1 4 = 12) : g_Run G mX12_set 6 0 0 [.ref (g_ad G 38), .int (nI j), .int 1, .int y3] (g_hp G C (g_hm G M ++ ob)) (some (.int (M.2.2.2.1 1 j))) (g_hp G C (g_hm G (f_stM (f_shM12 M) j 1 y3) ++ ob)) := by
  refine g_Run.of (lv := [(0, .ref (g_ad G 38)), (1, .int (nI j)), (2, .int 1), (3, .int y3)]) (by decide) (Nat.le_of_ble_eq_true rfl) rfl ?_
  refine a_aload_n 0 1 rfl dX12_set_0 rfl rfl ?_
  refine a_iload_n 1 2 rfl dX12_set_1 rfl rfl ?_
  refine a_callV (as := [.int (nI j)]) (rest := []) (st2 := [.int 1]) (u1 := 0) (v1 := 0) (u2 := 0) (v2 := 0) (r_isFam_in hm hj) (⟨_, _, _, _, rfl, rfl⟩) oX12_isFamily q_1273 q_1275 q_87 rfl (by omega) (by decide) rfl (Nat.le_of_ble_eq_true rfl) 5 rfl dX12_set_2 rfl ?_
  refine a_if_eq 40 8 rfl dX12_set_5 (by decide) (fun hc => absurd hc ((by decide))) (fun _ => ?_)
  refine a_iload_n 2 9 rfl dX12_set_8 rfl rfl ?_
  refine a_i2l 10 rfl dX12_set_9 ?_
  refine a_lconst (x := 0) 11 rfl dX12_set_10 (by decide) ?_
  refine a_lconst (x := 1) 12 rfl dX12_set_11 (by decide) ?_
  refine a_callS (as := [.long ((1 : Int32).toInt64), .long 0, .long 1]) (rest := []) (st2 := [.int (f_i (decide ((0 : Int32) ≤ (1 : Int32) ∧ (1 : Int32) ≤ 1)))]) (u1 := 0) (v1 := 0) (u2 := 0) (v2 := 0) (r_isInB (y := (1 : Int32)) (a := 0) (b := 1) rfl rfl) oX12_isIn q_1242 q_1243 rfl (by omega) (by decide) rfl (Nat.le_of_ble_eq_true rfl) 15 rfl dX12_set_12 rfl ?_
  refine a_if_eq 40 18 rfl dX12_set_15 (by decide) (fun hc => absurd hc (f_i_T (by decide))) (fun _ => ?_)
  refine a_iload_n 3 19 rfl dX12_set_18 rfl rfl ?_
  refine a_i2l 20 rfl dX12_set_19 ?_
  refine a_lconst (x := 0) 21 rfl dX12_set_20 (by decide) ?_
  refine a_iload_n 2 22 rfl dX12_set_21 rfl rfl ?_
  refine a_if_ne 31 25 rfl dX12_set_22 (by decide) (fun _ => ?_) (fun hc => absurd hc ((by decide)))
  refine a_ldc2 q_1278 34 rfl dX12_set_31 ?_
  refine a_callS (as := [.long y3.toInt64, .long 0, .long 9]) (rest := []) (st2 := [.int (f_i (decide ((0 : Int32) ≤ y3 ∧ y3 ≤ 9)))]) (u1 := 0) (v1 := 0) (u2 := 0) (v2 := 0) (r_isInB (y := y3) (a := 0) (b := 9) rfl rfl) oX12_isIn q_1242 q_1243 rfl (by omega) (by decide) rfl (Nat.le_of_ble_eq_true rfl) 37 rfl dX12_set_34 rfl ?_
  refine a_if_ne 42 40 rfl dX12_set_37 (by decide) (fun _ => ?_) (fun hc => absurd hc (f_i_T (decide_eq_true hy)))
  refine a_iload_n 2 43 rfl dX12_set_42 rfl rfl ?_
  refine a_if_ne 55 46 rfl dX12_set_43 (by decide) (fun _ => ?_) (fun hc => absurd hc ((by decide)))
  refine a_aload_n 0 56 rfl dX12_set_55 rfl rfl ?_
  refine a_get 5 cl_11 f_RX12_19_11 (by decide) (rfl) rfl 59 rfl dX12_set_56 ?_
  refine a_iload_n 1 60 rfl dX12_set_59 rfl rfl ?_
  refine a_iald (rfl) (vp_in_nI (n := j) (by omega) (by omega)) 61 rfl dX12_set_60 ?_
  refine a_eq (st2 := [.int ((M.2.2.2.1 1) j)]) rfl rfl (congrArg (fun z9 => Value.int z9 :: []) (congrArg (M.2.2.2.1 1) (g_cl (by omega)))) rfl ?_
  refine a_istore (lv' := [(4, .int ((M.2.2.2.1 1) j)), (0, .ref (g_ad G 38)), (1, .int (nI j)), (2, .int 1), (3, .int y3)]) 63 rfl dX12_set_61 (by decide) rfl ?_
  refine a_iload 0 65 rfl dX12_set_63 rfl ?_
  refine a_iload_n 4 66 rfl dX12_set_65 rfl rfl ?_
  refine a_icmp_ne 72 69 rfl dX12_set_66 (by decide) (fun _ => ?_) (fun hc => absurd hc (he))
  refine a_aload_n 1 73 rfl dX12_set_72 rfl rfl ?_
  refine a_get 12 cl_11 f_RX12_104_11 (by decide) (rfl) rfl 76 rfl dX12_set_73 ?_
  refine a_bipush (x := 12) 78 rfl dX12_set_76 (by decide) ?_
  refine a_icmp_ne 123 81 rfl dX12_set_78 (by decide) (fun hc => absurd (congrArg nI (by omega)) hc) (fun _ => ?_)
  refine a_iconst (x := 4) 82 rfl dX12_set_81 (by decide) ?_
  refine a_istore (lv' := [(5, .int 4), (4, .int ((M.2.2.2.1 1) j)), (0, .ref (g_ad G 38)), (1, .int (nI j)), (2, .int 1), (3, .int y3)]) 84 rfl dX12_set_82 (by decide) rfl ?_
  refine a_eq (h2 := g_hp G C (g_hm G (f_mI M 4 (f_sC4 (M.2.2.2.1 4) 0)) ++ ob)) rfl rfl rfl (rfl) ?_
  refine a_sub (lv' := [(5, .int (nI (0 + 4))), (4, .int (M.2.2.2.1 1 j)), (0, .ref (g_ad G 38)), (1, .int (nI j)), (2, .int 1), (3, .int y3)]) [0, 1, 2, 3, 4, 5] rfl ?_
  refine g_for (P := fun t9 => True) 44 (fun t9 => [(5, .int (nI (t9 + 4))), (4, .int (M.2.2.2.1 1 j)), (0, .ref (g_ad G 38)), (1, .int (nI j)), (2, .int 1), (3, .int y3)]) (fun t9 => g_hp G C (g_hm G (f_mI M 4 (f_sC4 (M.2.2.2.1 4) t9)) ++ ob)) (trivial) (fun t9 h_t9 p_t9 k_t9 => ?_) (fun p_t9 => ?_)
  · have c0 : (nI (t9 + 4 - 4)).toNatClampNeg = t9 := g_cl (by omega)
    refine a_iload 0 86 rfl dX12_set_84 rfl ?_
    refine a_bipush (x := 48) 88 rfl dX12_set_86 (by decide) ?_
    refine a_icmp_ge 113 91 rfl dX12_set_88 (by decide) (fun hc => absurd hc (nI_ge (a := (t9 + 4)) (b := 48) (by omega) (by omega))) (fun _ => ?_)
    refine a_aload_n 2 92 rfl dX12_set_91 rfl rfl ?_
    refine a_get 11 cl_11 f_RX12_35_11 (by decide) (rfl) rfl 95 rfl dX12_set_92 ?_
    refine a_iload 0 97 rfl dX12_set_95 rfl ?_
    refine a_iconst (x := 4) 98 rfl dX12_set_97 (by decide) ?_
    refine a_isub 99 rfl dX12_set_98 ?_
    refine a_eq (st2 := [.int (nI ((t9 + 4) - 4)), .ref (g_ad G 45)]) rfl rfl (congrArg (fun z9 => Value.int z9 :: [.ref (g_ad G 45)]) (pk_sub (a := (t9 + 4)) (b := 4) (by omega))) rfl ?_
    refine a_aload_n 2 100 rfl dX12_set_99 rfl rfl ?_
    refine a_get 11 cl_11 f_RX12_35_11 (by decide) (rfl) rfl 103 rfl dX12_set_100 ?_
    refine a_iload 0 105 rfl dX12_set_103 rfl ?_
    refine a_iald (rfl) (vp_in_nI (n := (t9 + 4)) (by omega) (by omega)) 106 rfl dX12_set_105 ?_
    refine a_eq (st2 := [.int ((f_sC4 (M.2.2.2.1 4) t9) (t9 + 4)), .int (nI ((t9 + 4) - 4)), .ref (g_ad G 45)]) rfl rfl (congrArg (fun z9 => Value.int z9 :: [.int (nI ((t9 + 4) - 4)), .ref (g_ad G 45)]) (congrArg (f_sC4 (M.2.2.2.1 4) t9) (g_cl (by omega)))) rfl ?_
    refine a_iast (rfl) (vp_in_nI (n := ((t9 + 4) - 4)) (by omega) (by omega)) 107 rfl dX12_set_106 ?_
    refine a_eq (h2 := g_hp G C (g_hm G (f_mI M 4 (f_sC4 (M.2.2.2.1 4) (t9 + 1))) ++ ob)) rfl rfl rfl (by show (((g_hp G C (g_hm G (f_mI M 4 (f_sC4 (M.2.2.2.1 4) t9)) ++ ob)).set 45 (c_I G 48 (upd (f_sC4 (M.2.2.2.1 4) t9) (nI ((t9 + 4) - 4)).toNatClampNeg ((f_sC4 (M.2.2.2.1 4) t9) (t9 + 4))))) : List va_E) = _; rw [c0]; rfl) ?_
    refine a_iinc (y := nI ((t9 + 4) + 1)) (lv' := [(5, .int (nI ((t9 + 4) + 1))), (4, .int (M.2.2.2.1 1 j)), (0, .ref (g_ad G 38)), (1, .int (nI j)), (2, .int 1), (3, .int y3)]) 0 110 rfl dX12_set_107 rfl (nI_1 (t9 + 4)) (by decide) rfl ?_
    refine a_goto 84 dX12_set_110 (by decide) ?_
    refine a_eq (lv2 := [(5, .int (nI (t9 + 1 + 4))), (4, .int (M.2.2.2.1 1 j)), (0, .ref (g_ad G 38)), (1, .int (nI j)), (2, .int 1), (3, .int y3)]) rfl (congrArg (fun z9 => ([(5, .int z9), (4, .int (M.2.2.2.1 1 j)), (0, .ref (g_ad G 38)), (1, .int (nI j)), (2, .int 1), (3, .int y3)] : List (Nat × Value))) (by rw [show t9 + 4 + 1 = t9 + 1 + 4 by omega])) rfl rfl ?_
    refine a_sub (lv' := [(5, .int (nI ((t9 + 1) + 4))), (4, .int (M.2.2.2.1 1 j)), (0, .ref (g_ad G 38)), (1, .int (nI j)), (2, .int 1), (3, .int y3)]) [0, 1, 2, 3, 4, 5] rfl ?_
    exact k_t9 trivial
  · skip
    refine a_iload 0 86 rfl dX12_set_84 rfl ?_
    refine a_bipush (x := 48) 88 rfl dX12_set_86 (by decide) ?_
    refine a_icmp_ge 113 91 rfl dX12_set_88 (by decide) (fun _ => ?_) (fun hc => absurd (nI_le (a := 48) (b := (44 + 4)) (by omega) (by omega)) hc)
    refine a_aload_n 2 114 rfl dX12_set_113 rfl rfl ?_
    refine a_dup 115 rfl dX12_set_114 rfl ?_
    refine a_get 12 cl_11 f_RX12_104_11 (by decide) (rfl) rfl 118 rfl dX12_set_115 ?_
    refine a_iconst (x := 1) 119 rfl dX12_set_118 (by decide) ?_
    refine a_isub 120 rfl dX12_set_119 ?_
    refine a_eq (st2 := [.int (nI ((M.1 4) - 1)), .ref (g_ad G 38)]) rfl rfl (congrArg (fun z9 => Value.int z9 :: [.ref (g_ad G 38)]) (pk_sub (a := (M.1 4)) (b := 1) (by omega))) rfl ?_
    refine a_put (fs' := [.int (nI (M.1 0)), .int (nI (M.1 1)), .int (nI (M.1 2)), .int (nI (M.1 3)), .ref (g_ad G 39), .ref (g_ad G 40), .ref (g_ad G 41), .ref (g_ad G 42), .ref (g_ad G 43), .ref (g_ad G 44), .int (M.2.1 0), .ref (g_ad G 45), .int (nI ((M.1 4) - 1)), .int (nI (M.1 5)), .int (M.2.1 1), .int (M.2.1 2), .long (M.2.2.1 0), .ref (g_ad G 46), .ref (g_ad G 47), .ref (g_ad G 48), .int (nI (M.1 6)), .long (M.2.2.1 1), .int (nI (M.1 7)), .int (nI (M.1 8)), .ref (g_ad G 49), .ref (g_ad G 50), .int (nI (M.1 9)), .int (nI (M.1 10)), .int (nI (M.1 11)), .long (M.2.2.1 2), .ref (g_ad G 51), .ref (g_ad G 52), .ref (g_ad G 53), .ref (g_ad G 54), .ref (g_ad G 55), .ref (g_ad G 56), .ref (g_ad G 57), .ref (g_ad G 58), .ref (g_ad G 59), .ref (g_ad G 60), .ref (g_ad G 61), .ref (g_ad G 62), .int (nI (M.1 12))]) 12 cl_11 f_RX12_104_11 (by decide) (rfl) rfl rfl rfl (Nat.le_of_ble_eq_true rfl) rfl 123 rfl dX12_set_120 ?_
    refine a_eq (h2 := g_hp G C (g_hm G (f_mn (f_mI M 4 (f_sC4 (M.2.2.2.1 4) 44)) 4 11) ++ ob)) rfl rfl rfl (by show (((g_hp G C (g_hm G (f_mI M 4 (f_sC4 (M.2.2.2.1 4) 44)) ++ ob)).set 38 (c_O 11 [.int (nI (M.1 0)), .int (nI (M.1 1)), .int (nI (M.1 2)), .int (nI (M.1 3)), .ref (g_ad G 39), .ref (g_ad G 40), .ref (g_ad G 41), .ref (g_ad G 42), .ref (g_ad G 43), .ref (g_ad G 44), .int (M.2.1 0), .ref (g_ad G 45), .int (nI ((M.1 4) - 1)), .int (nI (M.1 5)), .int (M.2.1 1), .int (M.2.1 2), .long (M.2.2.1 0), .ref (g_ad G 46), .ref (g_ad G 47), .ref (g_ad G 48), .int (nI (M.1 6)), .long (M.2.2.1 1), .int (nI (M.1 7)), .int (nI (M.1 8)), .ref (g_ad G 49), .ref (g_ad G 50), .int (nI (M.1 9)), .int (nI (M.1 10)), .int (nI (M.1 11)), .long (M.2.2.1 2), .ref (g_ad G 51), .ref (g_ad G 52), .ref (g_ad G 53), .ref (g_ad G 54), .ref (g_ad G 55), .ref (g_ad G 56), .ref (g_ad G 57), .ref (g_ad G 58), .ref (g_ad G 59), .ref (g_ad G 60), .ref (g_ad G 61), .ref (g_ad G 62), .int (nI (M.1 12))])) : List va_E) = _; rw [hc]; rfl) ?_
    refine a_sub (lv' := [(4, .int (M.2.2.2.1 1 j)), (0, .ref (g_ad G 38)), (1, .int (nI j)), (2, .int 1), (3, .int y3)]) [1, 2, 3, 4, 5] rfl ?_
    exact r_setA1 (M := f_mn (f_mI M 4 (f_sC4 (M.2.2.2.1 4) 44)) 4 11) (h9 := M.2.2.2.1 1 j) (by omega) (show (11 : Nat) < 12 by decide)

theorem r_undoM0 (hz : M.1 4 = 0) : g_Run G mX12_undo 4 0 0 [.ref (g_ad G 38)] (g_hp G C (g_hm G M ++ ob)) (some (.int (-5))) (g_hp G C (g_hm G M ++ ob)) := by
  refine g_Run.of (lv := [(0, .ref (g_ad G 38))]) (by decide) (Nat.le_of_ble_eq_true rfl) rfl ?_
  refine a_aload_n 0 1 rfl dX12_undo_0 rfl rfl ?_
  refine a_get 12 cl_11 f_RX12_104_11 (by decide) (rfl) rfl 4 rfl dX12_undo_1 ?_
  refine a_if_ne 10 7 rfl dX12_undo_4 (by decide) (fun hc => absurd ((by rw [hz]; rfl)) hc) (fun _ => ?_)
  refine a_bipush (x := (-5)) 9 rfl dX12_undo_7 (by decide) ?_
  exact a_ireturn .int rfl rfl (rfl) (rfl) dX12_undo_9
theorem r_undoM0' (hz : 0 < M.1 4) (hc2 : M.1 4 ≤ 12) (hj : j < 8) (ej : M.2.2.2.1 4 (4 * (M.1 4 - 1)) = nI j) (ew : M.2.2.2.1 4 (4 * (M.1 4 - 1) + 1) = nI 0) : g_Run G mX12_undo 4 0 0 [.ref (g_ad G 38)] (g_hp G C (g_hm G M ++ ob)) (some (.int (nI (M.1 4 - 1)))) (g_hp G C (g_hm G (f_mI (f_mn (f_mn M 4 (M.1 4 - 1)) 5 (M.1 5 + 1)) 0 (upd (M.2.2.2.1 0) j (M.2.2.2.1 4 (4 * (M.1 4 - 1) + 2)))) ++ ob)) := by
  refine g_Run.of (lv := [(0, .ref (g_ad G 38))]) (by decide) (Nat.le_of_ble_eq_true rfl) rfl ?_
  refine a_aload_n 0 1 rfl dX12_undo_0 rfl rfl ?_
  refine a_get 12 cl_11 f_RX12_104_11 (by decide) (rfl) rfl 4 rfl dX12_undo_1 ?_
  refine a_if_ne 10 7 rfl dX12_undo_4 (by decide) (fun _ => ?_) (fun hc => absurd hc ((nI_ne0 hz (by omega))))
  refine a_aload_n 0 11 rfl dX12_undo_10 rfl rfl ?_
  refine a_dup 12 rfl dX12_undo_11 rfl ?_
  refine a_get 12 cl_11 f_RX12_104_11 (by decide) (rfl) rfl 15 rfl dX12_undo_12 ?_
  refine a_iconst (x := 1) 16 rfl dX12_undo_15 (by decide) ?_
  refine a_isub 17 rfl dX12_undo_16 ?_
  refine a_eq (st2 := [.int (nI ((M.1 4) - 1)), .ref (g_ad G 38)]) rfl rfl (congrArg (fun z9 => Value.int z9 :: [.ref (g_ad G 38)]) (pk_sub (a := (M.1 4)) (b := 1) (by omega))) rfl ?_
  refine a_put (fs' := [.int (nI (M.1 0)), .int (nI (M.1 1)), .int (nI (M.1 2)), .int (nI (M.1 3)), .ref (g_ad G 39), .ref (g_ad G 40), .ref (g_ad G 41), .ref (g_ad G 42), .ref (g_ad G 43), .ref (g_ad G 44), .int (M.2.1 0), .ref (g_ad G 45), .int (nI ((M.1 4) - 1)), .int (nI (M.1 5)), .int (M.2.1 1), .int (M.2.1 2), .long (M.2.2.1 0), .ref (g_ad G 46), .ref (g_ad G 47), .ref (g_ad G 48), .int (nI (M.1 6)), .long (M.2.2.1 1), .int (nI (M.1 7)), .int (nI (M.1 8)), .ref (g_ad G 49), .ref (g_ad G 50), .int (nI (M.1 9)), .int (nI (M.1 10)), .int (nI (M.1 11)), .long (M.2.2.1 2), .ref (g_ad G 51), .ref (g_ad G 52), .ref (g_ad G 53), .ref (g_ad G 54), .ref (g_ad G 55), .ref (g_ad G 56), .ref (g_ad G 57), .ref (g_ad G 58), .ref (g_ad G 59), .ref (g_ad G 60), .ref (g_ad G 61), .ref (g_ad G 62), .int (nI (M.1 12))]) 12 cl_11 f_RX12_104_11 (by decide) (rfl) rfl rfl rfl (Nat.le_of_ble_eq_true rfl) rfl 20 rfl dX12_undo_17 ?_
  refine a_eq (h2 := g_hp G C (g_hm G (f_mn M 4 (M.1 4 - 1)) ++ ob)) rfl rfl rfl (rfl) ?_
  refine a_aload_n 0 21 rfl dX12_undo_20 rfl rfl ?_
  refine a_dup 22 rfl dX12_undo_21 rfl ?_
  refine a_get 13 cl_11 f_RX12_107_11 (by decide) (rfl) rfl 25 rfl dX12_undo_22 ?_
  refine a_iconst (x := 1) 26 rfl dX12_undo_25 (by decide) ?_
  refine a_iadd 27 rfl dX12_undo_26 ?_
  refine a_eq (st2 := [.int (nI ((M.1 5) + 1)), .ref (g_ad G 38)]) rfl rfl (congrArg (fun z9 => Value.int z9 :: [.ref (g_ad G 38)]) (nI_add (M.1 5) 1)) rfl ?_
  refine a_put (fs' := [.int (nI (M.1 0)), .int (nI (M.1 1)), .int (nI (M.1 2)), .int (nI (M.1 3)), .ref (g_ad G 39), .ref (g_ad G 40), .ref (g_ad G 41), .ref (g_ad G 42), .ref (g_ad G 43), .ref (g_ad G 44), .int (M.2.1 0), .ref (g_ad G 45), .int (nI (M.1 4 - 1)), .int (nI ((M.1 5) + 1)), .int (M.2.1 1), .int (M.2.1 2), .long (M.2.2.1 0), .ref (g_ad G 46), .ref (g_ad G 47), .ref (g_ad G 48), .int (nI (M.1 6)), .long (M.2.2.1 1), .int (nI (M.1 7)), .int (nI (M.1 8)), .ref (g_ad G 49), .ref (g_ad G 50), .int (nI (M.1 9)), .int (nI (M.1 10)), .int (nI (M.1 11)), .long (M.2.2.1 2), .ref (g_ad G 51), .ref (g_ad G 52), .ref (g_ad G 53), .ref (g_ad G 54), .ref (g_ad G 55), .ref (g_ad G 56), .ref (g_ad G 57), .ref (g_ad G 58), .ref (g_ad G 59), .ref (g_ad G 60), .ref (g_ad G 61), .ref (g_ad G 62), .int (nI (M.1 12))]) 13 cl_11 f_RX12_107_11 (by decide) (rfl) rfl rfl rfl (Nat.le_of_ble_eq_true rfl) rfl 30 rfl dX12_undo_27 ?_
  refine a_eq (h2 := g_hp G C (g_hm G (f_mn (f_mn M 4 (M.1 4 - 1)) 5 (M.1 5 + 1)) ++ ob)) rfl rfl rfl (rfl) ?_
  refine a_aload_n 0 31 rfl dX12_undo_30 rfl rfl ?_
  refine a_aload_n 0 32 rfl dX12_undo_31 rfl rfl ?_
  refine a_get 11 cl_11 f_RX12_35_11 (by decide) (rfl) rfl 35 rfl dX12_undo_32 ?_
  refine a_iconst (x := 4) 36 rfl dX12_undo_35 (by decide) ?_
  refine a_aload_n 0 37 rfl dX12_undo_36 rfl rfl ?_
  refine a_get 12 cl_11 f_RX12_104_11 (by decide) (rfl) rfl 40 rfl dX12_undo_37 ?_
  refine a_imul 41 rfl dX12_undo_40 ?_
  refine a_eq (st2 := [.int (nI (4 * (M.1 4 - 1))), .ref (g_ad G 45), .ref (g_ad G 38)]) rfl rfl (congrArg (fun z9 => Value.int z9 :: [.ref (g_ad G 45), .ref (g_ad G 38)]) (pk_mul 4 (M.1 4 - 1))) rfl ?_
  refine a_iald (rfl) (vp_in_nI (n := (4 * (M.1 4 - 1))) (by omega) (by omega)) 42 rfl dX12_undo_41 ?_
  refine a_eq (st2 := [.int ((M.2.2.2.1 4) (4 * (M.1 4 - 1))), .ref (g_ad G 38)]) rfl rfl (congrArg (fun z9 => Value.int z9 :: [.ref (g_ad G 38)]) (congrArg (M.2.2.2.1 4) (g_cl (by omega)))) rfl ?_
  refine a_eq (st2 := [.int (nI j), .ref (g_ad G 38)]) rfl rfl (congrArg (fun z9 => Value.int z9 :: [.ref (g_ad G 38)]) (ej)) rfl ?_
  refine a_aload_n 0 43 rfl dX12_undo_42 rfl rfl ?_
  refine a_get 11 cl_11 f_RX12_35_11 (by decide) (rfl) rfl 46 rfl dX12_undo_43 ?_
  refine a_iconst (x := 4) 47 rfl dX12_undo_46 (by decide) ?_
  refine a_aload_n 0 48 rfl dX12_undo_47 rfl rfl ?_
  refine a_get 12 cl_11 f_RX12_104_11 (by decide) (rfl) rfl 51 rfl dX12_undo_48 ?_
  refine a_imul 52 rfl dX12_undo_51 ?_
  refine a_eq (st2 := [.int (nI (4 * (M.1 4 - 1))), .ref (g_ad G 45), .int (nI j), .ref (g_ad G 38)]) rfl rfl (congrArg (fun z9 => Value.int z9 :: [.ref (g_ad G 45), .int (nI j), .ref (g_ad G 38)]) (pk_mul 4 (M.1 4 - 1))) rfl ?_
  refine a_iconst (x := 1) 53 rfl dX12_undo_52 (by decide) ?_
  refine a_iadd 54 rfl dX12_undo_53 ?_
  refine a_eq (st2 := [.int (nI ((4 * (M.1 4 - 1)) + 1)), .ref (g_ad G 45), .int (nI j), .ref (g_ad G 38)]) rfl rfl (congrArg (fun z9 => Value.int z9 :: [.ref (g_ad G 45), .int (nI j), .ref (g_ad G 38)]) (nI_add (4 * (M.1 4 - 1)) 1)) rfl ?_
  refine a_iald (rfl) (vp_in_nI (n := ((4 * (M.1 4 - 1)) + 1)) (by omega) (by omega)) 55 rfl dX12_undo_54 ?_
  refine a_eq (st2 := [.int ((M.2.2.2.1 4) ((4 * (M.1 4 - 1)) + 1)), .int (nI j), .ref (g_ad G 38)]) rfl rfl (congrArg (fun z9 => Value.int z9 :: [.int (nI j), .ref (g_ad G 38)]) (congrArg (M.2.2.2.1 4) (g_cl (by omega)))) rfl ?_
  refine a_eq (st2 := [.int 0, .int (nI j), .ref (g_ad G 38)]) rfl rfl (congrArg (fun z9 => Value.int z9 :: [.int (nI j), .ref (g_ad G 38)]) (ew)) rfl ?_
  refine a_aload_n 0 56 rfl dX12_undo_55 rfl rfl ?_
  refine a_get 11 cl_11 f_RX12_35_11 (by decide) (rfl) rfl 59 rfl dX12_undo_56 ?_
  refine a_iconst (x := 4) 60 rfl dX12_undo_59 (by decide) ?_
  refine a_aload_n 0 61 rfl dX12_undo_60 rfl rfl ?_
  refine a_get 12 cl_11 f_RX12_104_11 (by decide) (rfl) rfl 64 rfl dX12_undo_61 ?_
  refine a_imul 65 rfl dX12_undo_64 ?_
  refine a_eq (st2 := [.int (nI (4 * (M.1 4 - 1))), .ref (g_ad G 45), .int 0, .int (nI j), .ref (g_ad G 38)]) rfl rfl (congrArg (fun z9 => Value.int z9 :: [.ref (g_ad G 45), .int 0, .int (nI j), .ref (g_ad G 38)]) (pk_mul 4 (M.1 4 - 1))) rfl ?_
  refine a_iconst (x := 2) 66 rfl dX12_undo_65 (by decide) ?_
  refine a_iadd 67 rfl dX12_undo_66 ?_
  refine a_eq (st2 := [.int (nI ((4 * (M.1 4 - 1)) + 2)), .ref (g_ad G 45), .int 0, .int (nI j), .ref (g_ad G 38)]) rfl rfl (congrArg (fun z9 => Value.int z9 :: [.ref (g_ad G 45), .int 0, .int (nI j), .ref (g_ad G 38)]) (nI_add (4 * (M.1 4 - 1)) 2)) rfl ?_
  refine a_iald (rfl) (vp_in_nI (n := ((4 * (M.1 4 - 1)) + 2)) (by omega) (by omega)) 68 rfl dX12_undo_67 ?_
  refine a_eq (st2 := [.int ((M.2.2.2.1 4) ((4 * (M.1 4 - 1)) + 2)), .int 0, .int (nI j), .ref (g_ad G 38)]) rfl rfl (congrArg (fun z9 => Value.int z9 :: [.int 0, .int (nI j), .ref (g_ad G 38)]) (congrArg (M.2.2.2.1 4) (g_cl (by omega)))) rfl ?_
  refine a_callV (as := [.int (nI j), .int 0, .int ((M.2.2.2.1 4) ((4 * (M.1 4 - 1)) + 2))]) (rest := []) (st2 := []) (u1 := 0) (v1 := 0) (u2 := 0) (v2 := 0) (r_laysM0 (M := f_mn (f_mn M 4 (M.1 4 - 1)) 5 (M.1 5 + 1)) hj) (⟨_, _, _, _, rfl, rfl⟩) oX12_lays q_1279 q_1281 q_88 rfl (by omega) (by decide) rfl (Nat.le_of_ble_eq_true rfl) 71 rfl dX12_undo_68 rfl ?_
  refine a_aload_n 0 72 rfl dX12_undo_71 rfl rfl ?_
  refine a_get 12 cl_11 f_RX12_104_11 (by decide) (rfl) rfl 75 rfl dX12_undo_72 ?_
  exact a_ireturn .int rfl rfl (rfl) (rfl) dX12_undo_75

theorem r_undoM1' (hz : 0 < M.1 4) (hc2 : M.1 4 ≤ 12) (hj : j < 8) (ej : M.2.2.2.1 4 (4 * (M.1 4 - 1)) = nI j) (ew : M.2.2.2.1 4 (4 * (M.1 4 - 1) + 1) = nI 1) : g_Run G mX12_undo 4 0 0 [.ref (g_ad G 38)] (g_hp G C (g_hm G M ++ ob)) (some (.int (nI (M.1 4 - 1)))) (g_hp G C (g_hm G (f_mI (f_mn (f_mn M 4 (M.1 4 - 1)) 5 (M.1 5 + 1)) 1 (upd (M.2.2.2.1 1) j (M.2.2.2.1 4 (4 * (M.1 4 - 1) + 2)))) ++ ob)) := by
  refine g_Run.of (lv := [(0, .ref (g_ad G 38))]) (by decide) (Nat.le_of_ble_eq_true rfl) rfl ?_
  refine a_aload_n 0 1 rfl dX12_undo_0 rfl rfl ?_
  refine a_get 12 cl_11 f_RX12_104_11 (by decide) (rfl) rfl 4 rfl dX12_undo_1 ?_
  refine a_if_ne 10 7 rfl dX12_undo_4 (by decide) (fun _ => ?_) (fun hc => absurd hc ((nI_ne0 hz (by omega))))
  refine a_aload_n 0 11 rfl dX12_undo_10 rfl rfl ?_
  refine a_dup 12 rfl dX12_undo_11 rfl ?_
  refine a_get 12 cl_11 f_RX12_104_11 (by decide) (rfl) rfl 15 rfl dX12_undo_12 ?_
  refine a_iconst (x := 1) 16 rfl dX12_undo_15 (by decide) ?_
  refine a_isub 17 rfl dX12_undo_16 ?_
  refine a_eq (st2 := [.int (nI ((M.1 4) - 1)), .ref (g_ad G 38)]) rfl rfl (congrArg (fun z9 => Value.int z9 :: [.ref (g_ad G 38)]) (pk_sub (a := (M.1 4)) (b := 1) (by omega))) rfl ?_
  refine a_put (fs' := [.int (nI (M.1 0)), .int (nI (M.1 1)), .int (nI (M.1 2)), .int (nI (M.1 3)), .ref (g_ad G 39), .ref (g_ad G 40), .ref (g_ad G 41), .ref (g_ad G 42), .ref (g_ad G 43), .ref (g_ad G 44), .int (M.2.1 0), .ref (g_ad G 45), .int (nI ((M.1 4) - 1)), .int (nI (M.1 5)), .int (M.2.1 1), .int (M.2.1 2), .long (M.2.2.1 0), .ref (g_ad G 46), .ref (g_ad G 47), .ref (g_ad G 48), .int (nI (M.1 6)), .long (M.2.2.1 1), .int (nI (M.1 7)), .int (nI (M.1 8)), .ref (g_ad G 49), .ref (g_ad G 50), .int (nI (M.1 9)), .int (nI (M.1 10)), .int (nI (M.1 11)), .long (M.2.2.1 2), .ref (g_ad G 51), .ref (g_ad G 52), .ref (g_ad G 53), .ref (g_ad G 54), .ref (g_ad G 55), .ref (g_ad G 56), .ref (g_ad G 57), .ref (g_ad G 58), .ref (g_ad G 59), .ref (g_ad G 60), .ref (g_ad G 61), .ref (g_ad G 62), .int (nI (M.1 12))]) 12 cl_11 f_RX12_104_11 (by decide) (rfl) rfl rfl rfl (Nat.le_of_ble_eq_true rfl) rfl 20 rfl dX12_undo_17 ?_
  refine a_eq (h2 := g_hp G C (g_hm G (f_mn M 4 (M.1 4 - 1)) ++ ob)) rfl rfl rfl (rfl) ?_
  refine a_aload_n 0 21 rfl dX12_undo_20 rfl rfl ?_
  refine a_dup 22 rfl dX12_undo_21 rfl ?_
  refine a_get 13 cl_11 f_RX12_107_11 (by decide) (rfl) rfl 25 rfl dX12_undo_22 ?_
  refine a_iconst (x := 1) 26 rfl dX12_undo_25 (by decide) ?_
  refine a_iadd 27 rfl dX12_undo_26 ?_
  refine a_eq (st2 := [.int (nI ((M.1 5) + 1)), .ref (g_ad G 38)]) rfl rfl (congrArg (fun z9 => Value.int z9 :: [.ref (g_ad G 38)]) (nI_add (M.1 5) 1)) rfl ?_
  refine a_put (fs' := [.int (nI (M.1 0)), .int (nI (M.1 1)), .int (nI (M.1 2)), .int (nI (M.1 3)), .ref (g_ad G 39), .ref (g_ad G 40), .ref (g_ad G 41), .ref (g_ad G 42), .ref (g_ad G 43), .ref (g_ad G 44), .int (M.2.1 0), .ref (g_ad G 45), .int (nI (M.1 4 - 1)), .int (nI ((M.1 5) + 1)), .int (M.2.1 1), .int (M.2.1 2), .long (M.2.2.1 0), .ref (g_ad G 46), .ref (g_ad G 47), .ref (g_ad G 48), .int (nI (M.1 6)), .long (M.2.2.1 1), .int (nI (M.1 7)), .int (nI (M.1 8)), .ref (g_ad G 49), .ref (g_ad G 50), .int (nI (M.1 9)), .int (nI (M.1 10)), .int (nI (M.1 11)), .long (M.2.2.1 2), .ref (g_ad G 51), .ref (g_ad G 52), .ref (g_ad G 53), .ref (g_ad G 54), .ref (g_ad G 55), .ref (g_ad G 56), .ref (g_ad G 57), .ref (g_ad G 58), .ref (g_ad G 59), .ref (g_ad G 60), .ref (g_ad G 61), .ref (g_ad G 62), .int (nI (M.1 12))]) 13 cl_11 f_RX12_107_11 (by decide) (rfl) rfl rfl rfl (Nat.le_of_ble_eq_true rfl) rfl 30 rfl dX12_undo_27 ?_
  refine a_eq (h2 := g_hp G C (g_hm G (f_mn (f_mn M 4 (M.1 4 - 1)) 5 (M.1 5 + 1)) ++ ob)) rfl rfl rfl (rfl) ?_
  refine a_aload_n 0 31 rfl dX12_undo_30 rfl rfl ?_
  refine a_aload_n 0 32 rfl dX12_undo_31 rfl rfl ?_
  refine a_get 11 cl_11 f_RX12_35_11 (by decide) (rfl) rfl 35 rfl dX12_undo_32 ?_
  refine a_iconst (x := 4) 36 rfl dX12_undo_35 (by decide) ?_
  refine a_aload_n 0 37 rfl dX12_undo_36 rfl rfl ?_
  refine a_get 12 cl_11 f_RX12_104_11 (by decide) (rfl) rfl 40 rfl dX12_undo_37 ?_
  refine a_imul 41 rfl dX12_undo_40 ?_
  refine a_eq (st2 := [.int (nI (4 * (M.1 4 - 1))), .ref (g_ad G 45), .ref (g_ad G 38)]) rfl rfl (congrArg (fun z9 => Value.int z9 :: [.ref (g_ad G 45), .ref (g_ad G 38)]) (pk_mul 4 (M.1 4 - 1))) rfl ?_
  refine a_iald (rfl) (vp_in_nI (n := (4 * (M.1 4 - 1))) (by omega) (by omega)) 42 rfl dX12_undo_41 ?_
  refine a_eq (st2 := [.int ((M.2.2.2.1 4) (4 * (M.1 4 - 1))), .ref (g_ad G 38)]) rfl rfl (congrArg (fun z9 => Value.int z9 :: [.ref (g_ad G 38)]) (congrArg (M.2.2.2.1 4) (g_cl (by omega)))) rfl ?_
  refine a_eq (st2 := [.int (nI j), .ref (g_ad G 38)]) rfl rfl (congrArg (fun z9 => Value.int z9 :: [.ref (g_ad G 38)]) (ej)) rfl ?_
  refine a_aload_n 0 43 rfl dX12_undo_42 rfl rfl ?_
  refine a_get 11 cl_11 f_RX12_35_11 (by decide) (rfl) rfl 46 rfl dX12_undo_43 ?_
  refine a_iconst (x := 4) 47 rfl dX12_undo_46 (by decide) ?_
  refine a_aload_n 0 48 rfl dX12_undo_47 rfl rfl ?_
  refine a_get 12 cl_11 f_RX12_104_11 (by decide) (rfl) rfl 51 rfl dX12_undo_48 ?_
  refine a_imul 52 rfl dX12_undo_51 ?_
  refine a_eq (st2 := [.int (nI (4 * (M.1 4 - 1))), .ref (g_ad G 45), .int (nI j), .ref (g_ad G 38)]) rfl rfl (congrArg (fun z9 => Value.int z9 :: [.ref (g_ad G 45), .int (nI j), .ref (g_ad G 38)]) (pk_mul 4 (M.1 4 - 1))) rfl ?_
  refine a_iconst (x := 1) 53 rfl dX12_undo_52 (by decide) ?_
  refine a_iadd 54 rfl dX12_undo_53 ?_
  refine a_eq (st2 := [.int (nI ((4 * (M.1 4 - 1)) + 1)), .ref (g_ad G 45), .int (nI j), .ref (g_ad G 38)]) rfl rfl (congrArg (fun z9 => Value.int z9 :: [.ref (g_ad G 45), .int (nI j), .ref (g_ad G 38)]) (nI_add (4 * (M.1 4 - 1)) 1)) rfl ?_
  refine a_iald (rfl) (vp_in_nI (n := ((4 * (M.1 4 - 1)) + 1)) (by omega) (by omega)) 55 rfl dX12_undo_54 ?_
  refine a_eq (st2 := [.int ((M.2.2.2.1 4) ((4 * (M.1 4 - 1)) + 1)), .int (nI j), .ref (g_ad G 38)]) rfl rfl (congrArg (fun z9 => Value.int z9 :: [.int (nI j), .ref (g_ad G 38)]) (congrArg (M.2.2.2.1 4) (g_cl (by omega)))) rfl ?_
  refine a_eq (st2 := [.int 1, .int (nI j), .ref (g_ad G 38)]) rfl rfl (congrArg (fun z9 => Value.int z9 :: [.int (nI j), .ref (g_ad G 38)]) (ew)) rfl ?_
  refine a_aload_n 0 56 rfl dX12_undo_55 rfl rfl ?_
  refine a_get 11 cl_11 f_RX12_35_11 (by decide) (rfl) rfl 59 rfl dX12_undo_56 ?_
  refine a_iconst (x := 4) 60 rfl dX12_undo_59 (by decide) ?_
  refine a_aload_n 0 61 rfl dX12_undo_60 rfl rfl ?_
  refine a_get 12 cl_11 f_RX12_104_11 (by decide) (rfl) rfl 64 rfl dX12_undo_61 ?_
  refine a_imul 65 rfl dX12_undo_64 ?_
  refine a_eq (st2 := [.int (nI (4 * (M.1 4 - 1))), .ref (g_ad G 45), .int 1, .int (nI j), .ref (g_ad G 38)]) rfl rfl (congrArg (fun z9 => Value.int z9 :: [.ref (g_ad G 45), .int 1, .int (nI j), .ref (g_ad G 38)]) (pk_mul 4 (M.1 4 - 1))) rfl ?_
  refine a_iconst (x := 2) 66 rfl dX12_undo_65 (by decide) ?_
  refine a_iadd 67 rfl dX12_undo_66 ?_
  refine a_eq (st2 := [.int (nI ((4 * (M.1 4 - 1)) + 2)), .ref (g_ad G 45), .int 1, .int (nI j), .ref (g_ad G 38)]) rfl rfl (congrArg (fun z9 => Value.int z9 :: [.ref (g_ad G 45), .int 1, .int (nI j), .ref (g_ad G 38)]) (nI_add (4 * (M.1 4 - 1)) 2)) rfl ?_
  refine a_iald (rfl) (vp_in_nI (n := ((4 * (M.1 4 - 1)) + 2)) (by omega) (by omega)) 68 rfl dX12_undo_67 ?_
  refine a_eq (st2 := [.int ((M.2.2.2.1 4) ((4 * (M.1 4 - 1)) + 2)), .int 1, .int (nI j), .ref (g_ad G 38)]) rfl rfl (congrArg (fun z9 => Value.int z9 :: [.int 1, .int (nI j), .ref (g_ad G 38)]) (congrArg (M.2.2.2.1 4) (g_cl (by omega)))) rfl ?_
  refine a_callV (as := [.int (nI j), .int 1, .int ((M.2.2.2.1 4) ((4 * (M.1 4 - 1)) + 2))]) (rest := []) (st2 := []) (u1 := 0) (v1 := 0) (u2 := 0) (v2 := 0) (r_laysM1 (M := f_mn (f_mn M 4 (M.1 4 - 1)) 5 (M.1 5 + 1)) hj) (⟨_, _, _, _, rfl, rfl⟩) oX12_lays q_1279 q_1281 q_88 rfl (by omega) (by decide) rfl (Nat.le_of_ble_eq_true rfl) 71 rfl dX12_undo_68 rfl ?_
  refine a_aload_n 0 72 rfl dX12_undo_71 rfl rfl ?_
  refine a_get 12 cl_11 f_RX12_104_11 (by decide) (rfl) rfl 75 rfl dX12_undo_72 ?_
  exact a_ireturn .int rfl rfl (rfl) (rfl) dX12_undo_75

theorem r_undoM (hz : 0 < M.1 4) (hc2 : M.1 4 ≤ 12) (hj : j < 8) (hw : w < 2) (ej : M.2.2.2.1 4 (4 * (M.1 4 - 1)) = nI j) (ew : M.2.2.2.1 4 (4 * (M.1 4 - 1) + 1) = nI w) : g_Run G mX12_undo 4 0 0 [.ref (g_ad G 38)] (g_hp G C (g_hm G M ++ ob)) (some (.int (nI (M.1 4 - 1)))) (g_hp G C (g_hm G (f_mI (f_mn (f_mn M 4 (M.1 4 - 1)) 5 (M.1 5 + 1)) w (upd (M.2.2.2.1 w) j (M.2.2.2.1 4 (4 * (M.1 4 - 1) + 2)))) ++ ob)) := by
  match w, hw with
  | 0, _ => exact r_undoM0' hz hc2 hj ej ew
  | 1, _ => exact r_undoM1' hz hc2 hj ej ew
theorem r_redoM0 (hz : M.1 5 = 0) : g_Run G mX12_redo 4 0 0 [.ref (g_ad G 38)] (g_hp G C (g_hm G M ++ ob)) (some (.int (-5))) (g_hp G C (g_hm G M ++ ob)) := by
  refine g_Run.of (lv := [(0, .ref (g_ad G 38))]) (by decide) (Nat.le_of_ble_eq_true rfl) rfl ?_
  refine a_aload_n 0 1 rfl dX12_redo_0 rfl rfl ?_
  refine a_get 13 cl_11 f_RX12_107_11 (by decide) (rfl) rfl 4 rfl dX12_redo_1 ?_
  refine a_if_ne 10 7 rfl dX12_redo_4 (by decide) (fun hc => absurd ((by rw [hz]; rfl)) hc) (fun _ => ?_)
  refine a_bipush (x := (-5)) 9 rfl dX12_redo_7 (by decide) ?_
  exact a_ireturn .int rfl rfl (rfl) (rfl) dX12_redo_9
theorem r_redoM0' (hz : 0 < M.1 5) (hc2 : M.1 4 + M.1 5 ≤ 12) (hj : j < 8) (ej : M.2.2.2.1 4 (4 * M.1 4) = nI j) (ew : M.2.2.2.1 4 (4 * M.1 4 + 1) = nI 0) : g_Run G mX12_redo 4 0 0 [.ref (g_ad G 38)] (g_hp G C (g_hm G M ++ ob)) (some (.int (nI (M.1 5 - 1)))) (g_hp G C (g_hm G (f_mn (f_mn (f_mI M 0 (upd (M.2.2.2.1 0) j (M.2.2.2.1 4 (4 * M.1 4 + 3)))) 4 (M.1 4 + 1)) 5 (M.1 5 - 1)) ++ ob)) := by
  refine g_Run.of (lv := [(0, .ref (g_ad G 38))]) (by decide) (Nat.le_of_ble_eq_true rfl) rfl ?_
  refine a_aload_n 0 1 rfl dX12_redo_0 rfl rfl ?_
  refine a_get 13 cl_11 f_RX12_107_11 (by decide) (rfl) rfl 4 rfl dX12_redo_1 ?_
  refine a_if_ne 10 7 rfl dX12_redo_4 (by decide) (fun _ => ?_) (fun hc => absurd hc ((nI_ne0 hz (by omega))))
  refine a_aload_n 0 11 rfl dX12_redo_10 rfl rfl ?_
  refine a_aload_n 0 12 rfl dX12_redo_11 rfl rfl ?_
  refine a_get 11 cl_11 f_RX12_35_11 (by decide) (rfl) rfl 15 rfl dX12_redo_12 ?_
  refine a_iconst (x := 4) 16 rfl dX12_redo_15 (by decide) ?_
  refine a_aload_n 0 17 rfl dX12_redo_16 rfl rfl ?_
  refine a_get 12 cl_11 f_RX12_104_11 (by decide) (rfl) rfl 20 rfl dX12_redo_17 ?_
  refine a_imul 21 rfl dX12_redo_20 ?_
  refine a_eq (st2 := [.int (nI (4 * (M.1 4))), .ref (g_ad G 45), .ref (g_ad G 38)]) rfl rfl (congrArg (fun z9 => Value.int z9 :: [.ref (g_ad G 45), .ref (g_ad G 38)]) (pk_mul 4 (M.1 4))) rfl ?_
  refine a_iald (rfl) (vp_in_nI (n := (4 * (M.1 4))) (by omega) (by omega)) 22 rfl dX12_redo_21 ?_
  refine a_eq (st2 := [.int ((M.2.2.2.1 4) (4 * (M.1 4))), .ref (g_ad G 38)]) rfl rfl (congrArg (fun z9 => Value.int z9 :: [.ref (g_ad G 38)]) (congrArg (M.2.2.2.1 4) (g_cl (by omega)))) rfl ?_
  refine a_eq (st2 := [.int (nI j), .ref (g_ad G 38)]) rfl rfl (congrArg (fun z9 => Value.int z9 :: [.ref (g_ad G 38)]) (ej)) rfl ?_
  refine a_aload_n 0 23 rfl dX12_redo_22 rfl rfl ?_
  refine a_get 11 cl_11 f_RX12_35_11 (by decide) (rfl) rfl 26 rfl dX12_redo_23 ?_
  refine a_iconst (x := 4) 27 rfl dX12_redo_26 (by decide) ?_
  refine a_aload_n 0 28 rfl dX12_redo_27 rfl rfl ?_
  refine a_get 12 cl_11 f_RX12_104_11 (by decide) (rfl) rfl 31 rfl dX12_redo_28 ?_
  refine a_imul 32 rfl dX12_redo_31 ?_
  refine a_eq (st2 := [.int (nI (4 * (M.1 4))), .ref (g_ad G 45), .int (nI j), .ref (g_ad G 38)]) rfl rfl (congrArg (fun z9 => Value.int z9 :: [.ref (g_ad G 45), .int (nI j), .ref (g_ad G 38)]) (pk_mul 4 (M.1 4))) rfl ?_
  refine a_iconst (x := 1) 33 rfl dX12_redo_32 (by decide) ?_
  refine a_iadd 34 rfl dX12_redo_33 ?_
  refine a_eq (st2 := [.int (nI ((4 * (M.1 4)) + 1)), .ref (g_ad G 45), .int (nI j), .ref (g_ad G 38)]) rfl rfl (congrArg (fun z9 => Value.int z9 :: [.ref (g_ad G 45), .int (nI j), .ref (g_ad G 38)]) (nI_add (4 * (M.1 4)) 1)) rfl ?_
  refine a_iald (rfl) (vp_in_nI (n := ((4 * (M.1 4)) + 1)) (by omega) (by omega)) 35 rfl dX12_redo_34 ?_
  refine a_eq (st2 := [.int ((M.2.2.2.1 4) ((4 * (M.1 4)) + 1)), .int (nI j), .ref (g_ad G 38)]) rfl rfl (congrArg (fun z9 => Value.int z9 :: [.int (nI j), .ref (g_ad G 38)]) (congrArg (M.2.2.2.1 4) (g_cl (by omega)))) rfl ?_
  refine a_eq (st2 := [.int 0, .int (nI j), .ref (g_ad G 38)]) rfl rfl (congrArg (fun z9 => Value.int z9 :: [.int (nI j), .ref (g_ad G 38)]) (ew)) rfl ?_
  refine a_aload_n 0 36 rfl dX12_redo_35 rfl rfl ?_
  refine a_get 11 cl_11 f_RX12_35_11 (by decide) (rfl) rfl 39 rfl dX12_redo_36 ?_
  refine a_iconst (x := 4) 40 rfl dX12_redo_39 (by decide) ?_
  refine a_aload_n 0 41 rfl dX12_redo_40 rfl rfl ?_
  refine a_get 12 cl_11 f_RX12_104_11 (by decide) (rfl) rfl 44 rfl dX12_redo_41 ?_
  refine a_imul 45 rfl dX12_redo_44 ?_
  refine a_eq (st2 := [.int (nI (4 * (M.1 4))), .ref (g_ad G 45), .int 0, .int (nI j), .ref (g_ad G 38)]) rfl rfl (congrArg (fun z9 => Value.int z9 :: [.ref (g_ad G 45), .int 0, .int (nI j), .ref (g_ad G 38)]) (pk_mul 4 (M.1 4))) rfl ?_
  refine a_iconst (x := 3) 46 rfl dX12_redo_45 (by decide) ?_
  refine a_iadd 47 rfl dX12_redo_46 ?_
  refine a_eq (st2 := [.int (nI ((4 * (M.1 4)) + 3)), .ref (g_ad G 45), .int 0, .int (nI j), .ref (g_ad G 38)]) rfl rfl (congrArg (fun z9 => Value.int z9 :: [.ref (g_ad G 45), .int 0, .int (nI j), .ref (g_ad G 38)]) (nI_add (4 * (M.1 4)) 3)) rfl ?_
  refine a_iald (rfl) (vp_in_nI (n := ((4 * (M.1 4)) + 3)) (by omega) (by omega)) 48 rfl dX12_redo_47 ?_
  refine a_eq (st2 := [.int ((M.2.2.2.1 4) ((4 * (M.1 4)) + 3)), .int 0, .int (nI j), .ref (g_ad G 38)]) rfl rfl (congrArg (fun z9 => Value.int z9 :: [.int 0, .int (nI j), .ref (g_ad G 38)]) (congrArg (M.2.2.2.1 4) (g_cl (by omega)))) rfl ?_
  refine a_callV (as := [.int (nI j), .int 0, .int ((M.2.2.2.1 4) ((4 * (M.1 4)) + 3))]) (rest := []) (st2 := []) (u1 := 0) (v1 := 0) (u2 := 0) (v2 := 0) (r_laysM0 hj) (⟨_, _, _, _, rfl, rfl⟩) oX12_lays q_1279 q_1281 q_88 rfl (by omega) (by decide) rfl (Nat.le_of_ble_eq_true rfl) 51 rfl dX12_redo_48 rfl ?_
  refine a_aload_n 0 52 rfl dX12_redo_51 rfl rfl ?_
  refine a_dup 53 rfl dX12_redo_52 rfl ?_
  refine a_get 12 cl_11 f_RX12_104_11 (by decide) (rfl) rfl 56 rfl dX12_redo_53 ?_
  refine a_iconst (x := 1) 57 rfl dX12_redo_56 (by decide) ?_
  refine a_iadd 58 rfl dX12_redo_57 ?_
  refine a_eq (st2 := [.int (nI ((M.1 4) + 1)), .ref (g_ad G 38)]) rfl rfl (congrArg (fun z9 => Value.int z9 :: [.ref (g_ad G 38)]) (nI_add (M.1 4) 1)) rfl ?_
  refine a_put (fs' := [.int (nI (M.1 0)), .int (nI (M.1 1)), .int (nI (M.1 2)), .int (nI (M.1 3)), .ref (g_ad G 39), .ref (g_ad G 40), .ref (g_ad G 41), .ref (g_ad G 42), .ref (g_ad G 43), .ref (g_ad G 44), .int (M.2.1 0), .ref (g_ad G 45), .int (nI ((M.1 4) + 1)), .int (nI (M.1 5)), .int (M.2.1 1), .int (M.2.1 2), .long (M.2.2.1 0), .ref (g_ad G 46), .ref (g_ad G 47), .ref (g_ad G 48), .int (nI (M.1 6)), .long (M.2.2.1 1), .int (nI (M.1 7)), .int (nI (M.1 8)), .ref (g_ad G 49), .ref (g_ad G 50), .int (nI (M.1 9)), .int (nI (M.1 10)), .int (nI (M.1 11)), .long (M.2.2.1 2), .ref (g_ad G 51), .ref (g_ad G 52), .ref (g_ad G 53), .ref (g_ad G 54), .ref (g_ad G 55), .ref (g_ad G 56), .ref (g_ad G 57), .ref (g_ad G 58), .ref (g_ad G 59), .ref (g_ad G 60), .ref (g_ad G 61), .ref (g_ad G 62), .int (nI (M.1 12))]) 12 cl_11 f_RX12_104_11 (by decide) (rfl) rfl rfl rfl (Nat.le_of_ble_eq_true rfl) rfl 61 rfl dX12_redo_58 ?_
  refine a_eq (h2 := g_hp G C (g_hm G (f_mn (f_mI M 0 (upd (M.2.2.2.1 0) j (M.2.2.2.1 4 (4 * M.1 4 + 3)))) 4 (M.1 4 + 1)) ++ ob)) rfl rfl rfl (rfl) ?_
  refine a_aload_n 0 62 rfl dX12_redo_61 rfl rfl ?_
  refine a_dup 63 rfl dX12_redo_62 rfl ?_
  refine a_get 13 cl_11 f_RX12_107_11 (by decide) (rfl) rfl 66 rfl dX12_redo_63 ?_
  refine a_iconst (x := 1) 67 rfl dX12_redo_66 (by decide) ?_
  refine a_isub 68 rfl dX12_redo_67 ?_
  refine a_eq (st2 := [.int (nI ((M.1 5) - 1)), .ref (g_ad G 38)]) rfl rfl (congrArg (fun z9 => Value.int z9 :: [.ref (g_ad G 38)]) (pk_sub (a := (M.1 5)) (b := 1) (by omega))) rfl ?_
  refine a_put (fs' := [.int (nI (M.1 0)), .int (nI (M.1 1)), .int (nI (M.1 2)), .int (nI (M.1 3)), .ref (g_ad G 39), .ref (g_ad G 40), .ref (g_ad G 41), .ref (g_ad G 42), .ref (g_ad G 43), .ref (g_ad G 44), .int (M.2.1 0), .ref (g_ad G 45), .int (nI (M.1 4 + 1)), .int (nI ((M.1 5) - 1)), .int (M.2.1 1), .int (M.2.1 2), .long (M.2.2.1 0), .ref (g_ad G 46), .ref (g_ad G 47), .ref (g_ad G 48), .int (nI (M.1 6)), .long (M.2.2.1 1), .int (nI (M.1 7)), .int (nI (M.1 8)), .ref (g_ad G 49), .ref (g_ad G 50), .int (nI (M.1 9)), .int (nI (M.1 10)), .int (nI (M.1 11)), .long (M.2.2.1 2), .ref (g_ad G 51), .ref (g_ad G 52), .ref (g_ad G 53), .ref (g_ad G 54), .ref (g_ad G 55), .ref (g_ad G 56), .ref (g_ad G 57), .ref (g_ad G 58), .ref (g_ad G 59), .ref (g_ad G 60), .ref (g_ad G 61), .ref (g_ad G 62), .int (nI (M.1 12))]) 13 cl_11 f_RX12_107_11 (by decide) (rfl) rfl rfl rfl (Nat.le_of_ble_eq_true rfl) rfl 71 rfl dX12_redo_68 ?_
  refine a_eq (h2 := g_hp G C (g_hm G (f_mn (f_mn (f_mI M 0 (upd (M.2.2.2.1 0) j (M.2.2.2.1 4 (4 * M.1 4 + 3)))) 4 (M.1 4 + 1)) 5 (M.1 5 - 1)) ++ ob)) rfl rfl rfl (rfl) ?_
  refine a_aload_n 0 72 rfl dX12_redo_71 rfl rfl ?_
  refine a_get 13 cl_11 f_RX12_107_11 (by decide) (rfl) rfl 75 rfl dX12_redo_72 ?_
  exact a_ireturn .int rfl rfl (rfl) (rfl) dX12_redo_75

theorem r_redoM1' (hz : 0 < M.1 5) (hc2 : M.1 4 + M.1 5 ≤ 12) (hj : j < 8) (ej : M.2.2.2.1 4 (4 * M.1 4) = nI j) (ew : M.2.2.2.1 4 (4 * M.1 4 + 1) = nI 1) : g_Run G mX12_redo 4 0 0 [.ref (g_ad G 38)] (g_hp G C (g_hm G M ++ ob)) (some (.int (nI (M.1 5 - 1)))) (g_hp G C (g_hm G (f_mn (f_mn (f_mI M 1 (upd (M.2.2.2.1 1) j (M.2.2.2.1 4 (4 * M.1 4 + 3)))) 4 (M.1 4 + 1)) 5 (M.1 5 - 1)) ++ ob)) := by
  refine g_Run.of (lv := [(0, .ref (g_ad G 38))]) (by decide) (Nat.le_of_ble_eq_true rfl) rfl ?_
  refine a_aload_n 0 1 rfl dX12_redo_0 rfl rfl ?_
  refine a_get 13 cl_11 f_RX12_107_11 (by decide) (rfl) rfl 4 rfl dX12_redo_1 ?_
  refine a_if_ne 10 7 rfl dX12_redo_4 (by decide) (fun _ => ?_) (fun hc => absurd hc ((nI_ne0 hz (by omega))))
  refine a_aload_n 0 11 rfl dX12_redo_10 rfl rfl ?_
  refine a_aload_n 0 12 rfl dX12_redo_11 rfl rfl ?_
  refine a_get 11 cl_11 f_RX12_35_11 (by decide) (rfl) rfl 15 rfl dX12_redo_12 ?_
  refine a_iconst (x := 4) 16 rfl dX12_redo_15 (by decide) ?_
  refine a_aload_n 0 17 rfl dX12_redo_16 rfl rfl ?_
  refine a_get 12 cl_11 f_RX12_104_11 (by decide) (rfl) rfl 20 rfl dX12_redo_17 ?_
  refine a_imul 21 rfl dX12_redo_20 ?_
  refine a_eq (st2 := [.int (nI (4 * (M.1 4))), .ref (g_ad G 45), .ref (g_ad G 38)]) rfl rfl (congrArg (fun z9 => Value.int z9 :: [.ref (g_ad G 45), .ref (g_ad G 38)]) (pk_mul 4 (M.1 4))) rfl ?_
  refine a_iald (rfl) (vp_in_nI (n := (4 * (M.1 4))) (by omega) (by omega)) 22 rfl dX12_redo_21 ?_
  refine a_eq (st2 := [.int ((M.2.2.2.1 4) (4 * (M.1 4))), .ref (g_ad G 38)]) rfl rfl (congrArg (fun z9 => Value.int z9 :: [.ref (g_ad G 38)]) (congrArg (M.2.2.2.1 4) (g_cl (by omega)))) rfl ?_
  refine a_eq (st2 := [.int (nI j), .ref (g_ad G 38)]) rfl rfl (congrArg (fun z9 => Value.int z9 :: [.ref (g_ad G 38)]) (ej)) rfl ?_
  refine a_aload_n 0 23 rfl dX12_redo_22 rfl rfl ?_
  refine a_get 11 cl_11 f_RX12_35_11 (by decide) (rfl) rfl 26 rfl dX12_redo_23 ?_
  refine a_iconst (x := 4) 27 rfl dX12_redo_26 (by decide) ?_
  refine a_aload_n 0 28 rfl dX12_redo_27 rfl rfl ?_
  refine a_get 12 cl_11 f_RX12_104_11 (by decide) (rfl) rfl 31 rfl dX12_redo_28 ?_
  refine a_imul 32 rfl dX12_redo_31 ?_
  refine a_eq (st2 := [.int (nI (4 * (M.1 4))), .ref (g_ad G 45), .int (nI j), .ref (g_ad G 38)]) rfl rfl (congrArg (fun z9 => Value.int z9 :: [.ref (g_ad G 45), .int (nI j), .ref (g_ad G 38)]) (pk_mul 4 (M.1 4))) rfl ?_
  refine a_iconst (x := 1) 33 rfl dX12_redo_32 (by decide) ?_
  refine a_iadd 34 rfl dX12_redo_33 ?_
  refine a_eq (st2 := [.int (nI ((4 * (M.1 4)) + 1)), .ref (g_ad G 45), .int (nI j), .ref (g_ad G 38)]) rfl rfl (congrArg (fun z9 => Value.int z9 :: [.ref (g_ad G 45), .int (nI j), .ref (g_ad G 38)]) (nI_add (4 * (M.1 4)) 1)) rfl ?_
  refine a_iald (rfl) (vp_in_nI (n := ((4 * (M.1 4)) + 1)) (by omega) (by omega)) 35 rfl dX12_redo_34 ?_
  refine a_eq (st2 := [.int ((M.2.2.2.1 4) ((4 * (M.1 4)) + 1)), .int (nI j), .ref (g_ad G 38)]) rfl rfl (congrArg (fun z9 => Value.int z9 :: [.int (nI j), .ref (g_ad G 38)]) (congrArg (M.2.2.2.1 4) (g_cl (by omega)))) rfl ?_
  refine a_eq (st2 := [.int 1, .int (nI j), .ref (g_ad G 38)]) rfl rfl (congrArg (fun z9 => Value.int z9 :: [.int (nI j), .ref (g_ad G 38)]) (ew)) rfl ?_
  refine a_aload_n 0 36 rfl dX12_redo_35 rfl rfl ?_
  refine a_get 11 cl_11 f_RX12_35_11 (by decide) (rfl) rfl 39 rfl dX12_redo_36 ?_
  refine a_iconst (x := 4) 40 rfl dX12_redo_39 (by decide) ?_
  refine a_aload_n 0 41 rfl dX12_redo_40 rfl rfl ?_
  refine a_get 12 cl_11 f_RX12_104_11 (by decide) (rfl) rfl 44 rfl dX12_redo_41 ?_
  refine a_imul 45 rfl dX12_redo_44 ?_
  refine a_eq (st2 := [.int (nI (4 * (M.1 4))), .ref (g_ad G 45), .int 1, .int (nI j), .ref (g_ad G 38)]) rfl rfl (congrArg (fun z9 => Value.int z9 :: [.ref (g_ad G 45), .int 1, .int (nI j), .ref (g_ad G 38)]) (pk_mul 4 (M.1 4))) rfl ?_
  refine a_iconst (x := 3) 46 rfl dX12_redo_45 (by decide) ?_
  refine a_iadd 47 rfl dX12_redo_46 ?_
  refine a_eq (st2 := [.int (nI ((4 * (M.1 4)) + 3)), .ref (g_ad G 45), .int 1, .int (nI j), .ref (g_ad G 38)]) rfl rfl (congrArg (fun z9 => Value.int z9 :: [.ref (g_ad G 45), .int 1, .int (nI j), .ref (g_ad G 38)]) (nI_add (4 * (M.1 4)) 3)) rfl ?_
  refine a_iald (rfl) (vp_in_nI (n := ((4 * (M.1 4)) + 3)) (by omega) (by omega)) 48 rfl dX12_redo_47 ?_
  refine a_eq (st2 := [.int ((M.2.2.2.1 4) ((4 * (M.1 4)) + 3)), .int 1, .int (nI j), .ref (g_ad G 38)]) rfl rfl (congrArg (fun z9 => Value.int z9 :: [.int 1, .int (nI j), .ref (g_ad G 38)]) (congrArg (M.2.2.2.1 4) (g_cl (by omega)))) rfl ?_
  refine a_callV (as := [.int (nI j), .int 1, .int ((M.2.2.2.1 4) ((4 * (M.1 4)) + 3))]) (rest := []) (st2 := []) (u1 := 0) (v1 := 0) (u2 := 0) (v2 := 0) (r_laysM1 hj) (⟨_, _, _, _, rfl, rfl⟩) oX12_lays q_1279 q_1281 q_88 rfl (by omega) (by decide) rfl (Nat.le_of_ble_eq_true rfl) 51 rfl dX12_redo_48 rfl ?_
  refine a_aload_n 0 52 rfl dX12_redo_51 rfl rfl ?_
  refine a_dup 53 rfl dX12_redo_52 rfl ?_
  refine a_get 12 cl_11 f_RX12_104_11 (by decide) (rfl) rfl 56 rfl dX12_redo_53 ?_
  refine a_iconst (x := 1) 57 rfl dX12_redo_56 (by decide) ?_
  refine a_iadd 58 rfl dX12_redo_57 ?_
  refine a_eq (st2 := [.int (nI ((M.1 4) + 1)), .ref (g_ad G 38)]) rfl rfl (congrArg (fun z9 => Value.int z9 :: [.ref (g_ad G 38)]) (nI_add (M.1 4) 1)) rfl ?_
  refine a_put (fs' := [.int (nI (M.1 0)), .int (nI (M.1 1)), .int (nI (M.1 2)), .int (nI (M.1 3)), .ref (g_ad G 39), .ref (g_ad G 40), .ref (g_ad G 41), .ref (g_ad G 42), .ref (g_ad G 43), .ref (g_ad G 44), .int (M.2.1 0), .ref (g_ad G 45), .int (nI ((M.1 4) + 1)), .int (nI (M.1 5)), .int (M.2.1 1), .int (M.2.1 2), .long (M.2.2.1 0), .ref (g_ad G 46), .ref (g_ad G 47), .ref (g_ad G 48), .int (nI (M.1 6)), .long (M.2.2.1 1), .int (nI (M.1 7)), .int (nI (M.1 8)), .ref (g_ad G 49), .ref (g_ad G 50), .int (nI (M.1 9)), .int (nI (M.1 10)), .int (nI (M.1 11)), .long (M.2.2.1 2), .ref (g_ad G 51), .ref (g_ad G 52), .ref (g_ad G 53), .ref (g_ad G 54), .ref (g_ad G 55), .ref (g_ad G 56), .ref (g_ad G 57), .ref (g_ad G 58), .ref (g_ad G 59), .ref (g_ad G 60), .ref (g_ad G 61), .ref (g_ad G 62), .int (nI (M.1 12))]) 12 cl_11 f_RX12_104_11 (by decide) (rfl) rfl rfl rfl (Nat.le_of_ble_eq_true rfl) rfl 61 rfl dX12_redo_58 ?_
  refine a_eq (h2 := g_hp G C (g_hm G (f_mn (f_mI M 1 (upd (M.2.2.2.1 1) j (M.2.2.2.1 4 (4 * M.1 4 + 3)))) 4 (M.1 4 + 1)) ++ ob)) rfl rfl rfl (rfl) ?_
  refine a_aload_n 0 62 rfl dX12_redo_61 rfl rfl ?_
  refine a_dup 63 rfl dX12_redo_62 rfl ?_
  refine a_get 13 cl_11 f_RX12_107_11 (by decide) (rfl) rfl 66 rfl dX12_redo_63 ?_
  refine a_iconst (x := 1) 67 rfl dX12_redo_66 (by decide) ?_
  refine a_isub 68 rfl dX12_redo_67 ?_
  refine a_eq (st2 := [.int (nI ((M.1 5) - 1)), .ref (g_ad G 38)]) rfl rfl (congrArg (fun z9 => Value.int z9 :: [.ref (g_ad G 38)]) (pk_sub (a := (M.1 5)) (b := 1) (by omega))) rfl ?_
  refine a_put (fs' := [.int (nI (M.1 0)), .int (nI (M.1 1)), .int (nI (M.1 2)), .int (nI (M.1 3)), .ref (g_ad G 39), .ref (g_ad G 40), .ref (g_ad G 41), .ref (g_ad G 42), .ref (g_ad G 43), .ref (g_ad G 44), .int (M.2.1 0), .ref (g_ad G 45), .int (nI (M.1 4 + 1)), .int (nI ((M.1 5) - 1)), .int (M.2.1 1), .int (M.2.1 2), .long (M.2.2.1 0), .ref (g_ad G 46), .ref (g_ad G 47), .ref (g_ad G 48), .int (nI (M.1 6)), .long (M.2.2.1 1), .int (nI (M.1 7)), .int (nI (M.1 8)), .ref (g_ad G 49), .ref (g_ad G 50), .int (nI (M.1 9)), .int (nI (M.1 10)), .int (nI (M.1 11)), .long (M.2.2.1 2), .ref (g_ad G 51), .ref (g_ad G 52), .ref (g_ad G 53), .ref (g_ad G 54), .ref (g_ad G 55), .ref (g_ad G 56), .ref (g_ad G 57), .ref (g_ad G 58), .ref (g_ad G 59), .ref (g_ad G 60), .ref (g_ad G 61), .ref (g_ad G 62), .int (nI (M.1 12))]) 13 cl_11 f_RX12_107_11 (by decide) (rfl) rfl rfl rfl (Nat.le_of_ble_eq_true rfl) rfl 71 rfl dX12_redo_68 ?_
  refine a_eq (h2 := g_hp G C (g_hm G (f_mn (f_mn (f_mI M 1 (upd (M.2.2.2.1 1) j (M.2.2.2.1 4 (4 * M.1 4 + 3)))) 4 (M.1 4 + 1)) 5 (M.1 5 - 1)) ++ ob)) rfl rfl rfl (rfl) ?_
  refine a_aload_n 0 72 rfl dX12_redo_71 rfl rfl ?_
  refine a_get 13 cl_11 f_RX12_107_11 (by decide) (rfl) rfl 75 rfl dX12_redo_72 ?_
  exact a_ireturn .int rfl rfl (rfl) (rfl) dX12_redo_75

theorem r_redoM (hz : 0 < M.1 5) (hc2 : M.1 4 + M.1 5 ≤ 12) (hj : j < 8) (hw : w < 2) (ej : M.2.2.2.1 4 (4 * M.1 4) = nI j) (ew : M.2.2.2.1 4 (4 * M.1 4 + 1) = nI w) : g_Run G mX12_redo 4 0 0 [.ref (g_ad G 38)] (g_hp G C (g_hm G M ++ ob)) (some (.int (nI (M.1 5 - 1)))) (g_hp G C (g_hm G (f_mn (f_mn (f_mI M w (upd (M.2.2.2.1 w) j (M.2.2.2.1 4 (4 * M.1 4 + 3)))) 4 (M.1 4 + 1)) 5 (M.1 5 - 1)) ++ ob)) := by
  match w, hw with
  | 0, _ => exact r_redoM0' hz hc2 hj ej ew
  | 1, _ => exact r_redoM1' hz hc2 hj ej ew
theorem r_imM (hm : M.1 1 ≤ 8) : g_Run G mX12_image 4 0 0 [.ref (g_ad G 38)] (g_hp G C (g_hm G M ++ ob)) (some (.int (nI (M.1 1)))) (g_hp G C (g_hm G (f_imM M) ++ ob)) := by
  refine g_Run.of (lv := [(0, .ref (g_ad G 38))]) (by decide) (Nat.le_of_ble_eq_true rfl) rfl ?_
  refine a_aload_n 0 1 rfl dX12_image_0 rfl rfl ?_
  refine a_aload_n 0 2 rfl dX12_image_1 rfl rfl ?_
  refine a_get 0 cl_11 f_RX12_9_11 (by decide) (rfl) rfl 5 rfl dX12_image_2 ?_
  refine a_put (fs' := [.int (nI (M.1 0)), .int (nI (M.1 1)), .int (nI (M.1 0)), .int (nI (M.1 3)), .ref (g_ad G 39), .ref (g_ad G 40), .ref (g_ad G 41), .ref (g_ad G 42), .ref (g_ad G 43), .ref (g_ad G 44), .int (M.2.1 0), .ref (g_ad G 45), .int (nI (M.1 4)), .int (nI (M.1 5)), .int (M.2.1 1), .int (M.2.1 2), .long (M.2.2.1 0), .ref (g_ad G 46), .ref (g_ad G 47), .ref (g_ad G 48), .int (nI (M.1 6)), .long (M.2.2.1 1), .int (nI (M.1 7)), .int (nI (M.1 8)), .ref (g_ad G 49), .ref (g_ad G 50), .int (nI (M.1 9)), .int (nI (M.1 10)), .int (nI (M.1 11)), .long (M.2.2.1 2), .ref (g_ad G 51), .ref (g_ad G 52), .ref (g_ad G 53), .ref (g_ad G 54), .ref (g_ad G 55), .ref (g_ad G 56), .ref (g_ad G 57), .ref (g_ad G 58), .ref (g_ad G 59), .ref (g_ad G 60), .ref (g_ad G 61), .ref (g_ad G 62), .int (nI (M.1 12))]) 2 cl_11 f_RX12_359_11 (by decide) (rfl) rfl rfl rfl (Nat.le_of_ble_eq_true rfl) rfl 8 rfl dX12_image_5 ?_
  refine a_eq (h2 := g_hp G C (g_hm G (f_mn M 2 (M.1 0)) ++ ob)) rfl rfl rfl (rfl) ?_
  refine a_aload_n 0 9 rfl dX12_image_8 rfl rfl ?_
  refine a_aload_n 0 10 rfl dX12_image_9 rfl rfl ?_
  refine a_get 1 cl_11 f_RX12_97_11 (by decide) (rfl) rfl 13 rfl dX12_image_10 ?_
  refine a_put (fs' := [.int (nI (M.1 0)), .int (nI (M.1 1)), .int (nI (M.1 0)), .int (nI (M.1 1)), .ref (g_ad G 39), .ref (g_ad G 40), .ref (g_ad G 41), .ref (g_ad G 42), .ref (g_ad G 43), .ref (g_ad G 44), .int (M.2.1 0), .ref (g_ad G 45), .int (nI (M.1 4)), .int (nI (M.1 5)), .int (M.2.1 1), .int (M.2.1 2), .long (M.2.2.1 0), .ref (g_ad G 46), .ref (g_ad G 47), .ref (g_ad G 48), .int (nI (M.1 6)), .long (M.2.2.1 1), .int (nI (M.1 7)), .int (nI (M.1 8)), .ref (g_ad G 49), .ref (g_ad G 50), .int (nI (M.1 9)), .int (nI (M.1 10)), .int (nI (M.1 11)), .long (M.2.2.1 2), .ref (g_ad G 51), .ref (g_ad G 52), .ref (g_ad G 53), .ref (g_ad G 54), .ref (g_ad G 55), .ref (g_ad G 56), .ref (g_ad G 57), .ref (g_ad G 58), .ref (g_ad G 59), .ref (g_ad G 60), .ref (g_ad G 61), .ref (g_ad G 62), .int (nI (M.1 12))]) 3 cl_11 f_RX12_362_11 (by decide) (rfl) rfl rfl rfl (Nat.le_of_ble_eq_true rfl) rfl 16 rfl dX12_image_13 ?_
  refine a_eq (h2 := g_hp G C (g_hm G (f_mn (f_mn M 2 (M.1 0)) 3 (M.1 1)) ++ ob)) rfl rfl rfl (rfl) ?_
  refine a_iconst (x := 0) 17 rfl dX12_image_16 (by decide) ?_
  refine a_istore_n (lv' := [(1, .int 0), (0, .ref (g_ad G 38))]) 18 rfl dX12_image_17 rfl (by decide) rfl ?_
  refine a_eq (h2 := g_hp G C (g_hm G (f_mL (f_mI (f_mI (f_mn (f_mn M 2 (M.1 0)) 3 (M.1 1)) 2 (f_cpI (M.2.2.2.1 2) (M.2.2.2.1 0) 0)) 3 (f_cpI (M.2.2.2.1 3) (M.2.2.2.1 1) 0)) 1 (f_cpL (M.2.2.2.2 1) (M.2.2.2.2 0) 0)) ++ ob)) rfl rfl rfl (rfl) ?_
  refine a_sub (lv' := [(1, .int (nI 0)), (0, .ref (g_ad G 38))]) [0, 1] rfl ?_
  refine g_for (P := fun t9 => True) (M.1 1) (fun t9 => [(1, .int (nI t9)), (0, .ref (g_ad G 38))]) (fun t9 => g_hp G C (g_hm G (f_mL (f_mI (f_mI (f_mn (f_mn M 2 (M.1 0)) 3 (M.1 1)) 2 (f_cpI (M.2.2.2.1 2) (M.2.2.2.1 0) t9)) 3 (f_cpI (M.2.2.2.1 3) (M.2.2.2.1 1) t9)) 1 (f_cpL (M.2.2.2.2 1) (M.2.2.2.2 0) t9)) ++ ob)) (trivial) (fun t9 h_t9 p_t9 k_t9 => ?_) (fun p_t9 => ?_)
  · have c0 : (nI t9).toNatClampNeg = t9 := g_cl (by omega)
    refine a_iload_n 0 19 rfl dX12_image_18 rfl rfl ?_
    refine a_aload_n 1 20 rfl dX12_image_19 rfl rfl ?_
    refine a_get 1 cl_11 f_RX12_97_11 (by decide) (rfl) rfl 23 rfl dX12_image_20 ?_
    refine a_icmp_ge 68 26 rfl dX12_image_23 (by decide) (fun hc => absurd hc (nI_ge (a := t9) (b := (M.1 1)) (by omega) (by omega))) (fun _ => ?_)
    refine a_aload_n 1 27 rfl dX12_image_26 rfl rfl ?_
    refine a_get 6 cl_11 f_RX12_22_11 (by decide) (rfl) rfl 30 rfl dX12_image_27 ?_
    refine a_iload_n 0 31 rfl dX12_image_30 rfl rfl ?_
    refine a_aload_n 1 32 rfl dX12_image_31 rfl rfl ?_
    refine a_get 4 cl_11 f_RX12_15_11 (by decide) (rfl) rfl 35 rfl dX12_image_32 ?_
    refine a_iload_n 0 36 rfl dX12_image_35 rfl rfl ?_
    refine a_iald (rfl) (vp_in_nI (n := t9) (by omega) (by omega)) 37 rfl dX12_image_36 ?_
    refine a_eq (st2 := [.int ((M.2.2.2.1 0) t9), .int (nI t9), .ref (g_ad G 41)]) rfl rfl (congrArg (fun z9 => Value.int z9 :: [.int (nI t9), .ref (g_ad G 41)]) (congrArg (M.2.2.2.1 0) (g_cl (by omega)))) rfl ?_
    refine a_iast (rfl) (vp_in_nI (n := t9) (by omega) (by omega)) 38 rfl dX12_image_37 ?_
    refine a_eq (h2 := g_hp G C (g_hm G (f_mI (f_mL (f_mI (f_mn (f_mn M 2 (M.1 0)) 3 (M.1 1)) 3 (f_cpI (M.2.2.2.1 3) (M.2.2.2.1 1) t9)) 1 (f_cpL (M.2.2.2.2 1) (M.2.2.2.2 0) t9)) 2 (f_cpI (M.2.2.2.1 2) (M.2.2.2.1 0) (t9 + 1))) ++ ob)) rfl rfl rfl (by show (((g_hp G C (g_hm G (f_mL (f_mI (f_mI (f_mn (f_mn M 2 (M.1 0)) 3 (M.1 1)) 2 (f_cpI (M.2.2.2.1 2) (M.2.2.2.1 0) t9)) 3 (f_cpI (M.2.2.2.1 3) (M.2.2.2.1 1) t9)) 1 (f_cpL (M.2.2.2.2 1) (M.2.2.2.2 0) t9)) ++ ob)).set 41 (c_I G 8 (upd (f_cpI (M.2.2.2.1 2) (M.2.2.2.1 0) t9) (nI t9).toNatClampNeg ((M.2.2.2.1 0) t9)))) : List va_E) = _; rw [c0]; rfl) ?_
    refine a_aload_n 1 39 rfl dX12_image_38 rfl rfl ?_
    refine a_get 7 cl_11 f_RX12_25_11 (by decide) (rfl) rfl 42 rfl dX12_image_39 ?_
    refine a_iload_n 0 43 rfl dX12_image_42 rfl rfl ?_
    refine a_aload_n 1 44 rfl dX12_image_43 rfl rfl ?_
    refine a_get 5 cl_11 f_RX12_19_11 (by decide) (rfl) rfl 47 rfl dX12_image_44 ?_
    refine a_iload_n 0 48 rfl dX12_image_47 rfl rfl ?_
    refine a_iald (rfl) (vp_in_nI (n := t9) (by omega) (by omega)) 49 rfl dX12_image_48 ?_
    refine a_eq (st2 := [.int ((M.2.2.2.1 1) t9), .int (nI t9), .ref (g_ad G 42)]) rfl rfl (congrArg (fun z9 => Value.int z9 :: [.int (nI t9), .ref (g_ad G 42)]) (congrArg (M.2.2.2.1 1) (g_cl (by omega)))) rfl ?_
    refine a_iast (rfl) (vp_in_nI (n := t9) (by omega) (by omega)) 50 rfl dX12_image_49 ?_
    refine a_eq (h2 := g_hp G C (g_hm G (f_mI (f_mI (f_mL (f_mn (f_mn M 2 (M.1 0)) 3 (M.1 1)) 1 (f_cpL (M.2.2.2.2 1) (M.2.2.2.2 0) t9)) 2 (f_cpI (M.2.2.2.1 2) (M.2.2.2.1 0) (t9 + 1))) 3 (f_cpI (M.2.2.2.1 3) (M.2.2.2.1 1) (t9 + 1))) ++ ob)) rfl rfl rfl (by show (((g_hp G C (g_hm G (f_mI (f_mL (f_mI (f_mn (f_mn M 2 (M.1 0)) 3 (M.1 1)) 3 (f_cpI (M.2.2.2.1 3) (M.2.2.2.1 1) t9)) 1 (f_cpL (M.2.2.2.2 1) (M.2.2.2.2 0) t9)) 2 (f_cpI (M.2.2.2.1 2) (M.2.2.2.1 0) (t9 + 1))) ++ ob)).set 42 (c_I G 8 (upd (f_cpI (M.2.2.2.1 3) (M.2.2.2.1 1) t9) (nI t9).toNatClampNeg ((M.2.2.2.1 1) t9)))) : List va_E) = _; rw [c0]; rfl) ?_
    refine a_aload_n 1 51 rfl dX12_image_50 rfl rfl ?_
    refine a_get 9 cl_11 f_RX12_32_11 (by decide) (rfl) rfl 54 rfl dX12_image_51 ?_
    refine a_iload_n 0 55 rfl dX12_image_54 rfl rfl ?_
    refine a_aload_n 1 56 rfl dX12_image_55 rfl rfl ?_
    refine a_get 8 cl_11 f_RX12_28_11 (by decide) (rfl) rfl 59 rfl dX12_image_56 ?_
    refine a_iload_n 0 60 rfl dX12_image_59 rfl rfl ?_
    refine a_lald (rfl) (vp_in_nI (n := t9) (by omega) (by omega)) 61 rfl dX12_image_60 ?_
    refine a_eq (st2 := [.long ((M.2.2.2.2 0) t9), .int (nI t9), .ref (g_ad G 44)]) rfl rfl (congrArg (fun z9 => Value.long z9 :: [.int (nI t9), .ref (g_ad G 44)]) (congrArg (M.2.2.2.2 0) (g_cl (by omega)))) rfl ?_
    refine a_last (rfl) (vp_in_nI (n := t9) (by omega) (by omega)) 62 rfl dX12_image_61 ?_
    refine a_eq (h2 := g_hp G C (g_hm G (f_mL (f_mI (f_mI (f_mn (f_mn M 2 (M.1 0)) 3 (M.1 1)) 2 (f_cpI (M.2.2.2.1 2) (M.2.2.2.1 0) (t9 + 1))) 3 (f_cpI (M.2.2.2.1 3) (M.2.2.2.1 1) (t9 + 1))) 1 (f_cpL (M.2.2.2.2 1) (M.2.2.2.2 0) (t9 + 1))) ++ ob)) rfl rfl rfl (by show (((g_hp G C (g_hm G (f_mI (f_mI (f_mL (f_mn (f_mn M 2 (M.1 0)) 3 (M.1 1)) 1 (f_cpL (M.2.2.2.2 1) (M.2.2.2.2 0) t9)) 2 (f_cpI (M.2.2.2.1 2) (M.2.2.2.1 0) (t9 + 1))) 3 (f_cpI (M.2.2.2.1 3) (M.2.2.2.1 1) (t9 + 1))) ++ ob)).set 44 (c_L G 8 (vp_updL (f_cpL (M.2.2.2.2 1) (M.2.2.2.2 0) t9) (nI t9).toNatClampNeg ((M.2.2.2.2 0) t9)))) : List va_E) = _; rw [c0]; rfl) ?_
    refine a_iinc (y := nI (t9 + 1)) (lv' := [(1, .int (nI (t9 + 1))), (0, .ref (g_ad G 38))]) 0 65 rfl dX12_image_62 rfl (nI_1 t9) (by decide) rfl ?_
    refine a_goto 18 dX12_image_65 (by decide) ?_
    refine a_sub (lv' := [(1, .int (nI (t9 + 1))), (0, .ref (g_ad G 38))]) [0, 1] rfl ?_
    exact k_t9 trivial
  · skip
    refine a_iload_n 0 19 rfl dX12_image_18 rfl rfl ?_
    refine a_aload_n 1 20 rfl dX12_image_19 rfl rfl ?_
    refine a_get 1 cl_11 f_RX12_97_11 (by decide) (rfl) rfl 23 rfl dX12_image_20 ?_
    refine a_icmp_ge 68 26 rfl dX12_image_23 (by decide) (fun _ => ?_) (fun hc => absurd (nI_le (a := (M.1 1)) (b := (M.1 1)) (by omega) (by omega)) hc)
    refine a_aload_n 1 69 rfl dX12_image_68 rfl rfl ?_
    refine a_iconst (x := 1) 70 rfl dX12_image_69 (by decide) ?_
    refine a_put (fs' := [.int (nI (M.1 0)), .int (nI (M.1 1)), .int (nI (M.1 0)), .int (nI (M.1 1)), .ref (g_ad G 39), .ref (g_ad G 40), .ref (g_ad G 41), .ref (g_ad G 42), .ref (g_ad G 43), .ref (g_ad G 44), .int 1, .ref (g_ad G 45), .int (nI (M.1 4)), .int (nI (M.1 5)), .int (M.2.1 1), .int (M.2.1 2), .long (M.2.2.1 0), .ref (g_ad G 46), .ref (g_ad G 47), .ref (g_ad G 48), .int (nI (M.1 6)), .long (M.2.2.1 1), .int (nI (M.1 7)), .int (nI (M.1 8)), .ref (g_ad G 49), .ref (g_ad G 50), .int (nI (M.1 9)), .int (nI (M.1 10)), .int (nI (M.1 11)), .long (M.2.2.1 2), .ref (g_ad G 51), .ref (g_ad G 52), .ref (g_ad G 53), .ref (g_ad G 54), .ref (g_ad G 55), .ref (g_ad G 56), .ref (g_ad G 57), .ref (g_ad G 58), .ref (g_ad G 59), .ref (g_ad G 60), .ref (g_ad G 61), .ref (g_ad G 62), .int (nI (M.1 12))]) 10 cl_11 f_RX12_365_11 (by decide) (rfl) rfl rfl rfl (Nat.le_of_ble_eq_true rfl) rfl 73 rfl dX12_image_70 ?_
    refine a_eq (h2 := g_hp G C (g_hm G (f_mi (f_mL (f_mI (f_mI (f_mn (f_mn M 2 (M.1 0)) 3 (M.1 1)) 2 (f_cpI (M.2.2.2.1 2) (M.2.2.2.1 0) (M.1 1))) 3 (f_cpI (M.2.2.2.1 3) (M.2.2.2.1 1) (M.1 1))) 1 (f_cpL (M.2.2.2.2 1) (M.2.2.2.2 0) (M.1 1))) 0 1) ++ ob)) rfl rfl rfl (rfl) ?_
    refine a_aload_n 1 74 rfl dX12_image_73 rfl rfl ?_
    refine a_get 1 cl_11 f_RX12_97_11 (by decide) (rfl) rfl 77 rfl dX12_image_74 ?_
    exact a_ireturn .int rfl rfl (rfl) (rfl) dX12_image_77
theorem r_baM0 (hk : M.2.1 0 = 0) : g_Run G mX12_back 4 0 0 [.ref (g_ad G 38)] (g_hp G C (g_hm G M ++ ob)) (some (.int (-5))) (g_hp G C (g_hm G M ++ ob)) := by
  refine g_Run.of (lv := [(0, .ref (g_ad G 38))]) (by decide) (Nat.le_of_ble_eq_true rfl) rfl ?_
  refine a_aload_n 0 1 rfl dX12_back_0 rfl rfl ?_
  refine a_get 10 cl_11 f_RX12_365_11 (by decide) (rfl) rfl 4 rfl dX12_back_1 ?_
  refine a_if_ne 10 7 rfl dX12_back_4 (by decide) (fun hc => absurd (hk) hc) (fun _ => ?_)
  refine a_bipush (x := (-5)) 9 rfl dX12_back_7 (by decide) ?_
  exact a_ireturn .int rfl rfl (rfl) (rfl) dX12_back_9
theorem r_baM (hk : ¬ M.2.1 0 = 0) (hm : M.1 3 ≤ 8) : g_Run G mX12_back 4 0 0 [.ref (g_ad G 38)] (g_hp G C (g_hm G M ++ ob)) (some (.int (nI (M.1 3)))) (g_hp G C (g_hm G (f_baM M) ++ ob)) := by
  refine g_Run.of (lv := [(0, .ref (g_ad G 38))]) (by decide) (Nat.le_of_ble_eq_true rfl) rfl ?_
  refine a_aload_n 0 1 rfl dX12_back_0 rfl rfl ?_
  refine a_get 10 cl_11 f_RX12_365_11 (by decide) (rfl) rfl 4 rfl dX12_back_1 ?_
  refine a_if_ne 10 7 rfl dX12_back_4 (by decide) (fun _ => ?_) (fun hc => absurd hc (hk))
  refine a_aload_n 0 11 rfl dX12_back_10 rfl rfl ?_
  refine a_aload_n 0 12 rfl dX12_back_11 rfl rfl ?_
  refine a_get 2 cl_11 f_RX12_359_11 (by decide) (rfl) rfl 15 rfl dX12_back_12 ?_
  refine a_put (fs' := [.int (nI (M.1 2)), .int (nI (M.1 1)), .int (nI (M.1 2)), .int (nI (M.1 3)), .ref (g_ad G 39), .ref (g_ad G 40), .ref (g_ad G 41), .ref (g_ad G 42), .ref (g_ad G 43), .ref (g_ad G 44), .int (M.2.1 0), .ref (g_ad G 45), .int (nI (M.1 4)), .int (nI (M.1 5)), .int (M.2.1 1), .int (M.2.1 2), .long (M.2.2.1 0), .ref (g_ad G 46), .ref (g_ad G 47), .ref (g_ad G 48), .int (nI (M.1 6)), .long (M.2.2.1 1), .int (nI (M.1 7)), .int (nI (M.1 8)), .ref (g_ad G 49), .ref (g_ad G 50), .int (nI (M.1 9)), .int (nI (M.1 10)), .int (nI (M.1 11)), .long (M.2.2.1 2), .ref (g_ad G 51), .ref (g_ad G 52), .ref (g_ad G 53), .ref (g_ad G 54), .ref (g_ad G 55), .ref (g_ad G 56), .ref (g_ad G 57), .ref (g_ad G 58), .ref (g_ad G 59), .ref (g_ad G 60), .ref (g_ad G 61), .ref (g_ad G 62), .int (nI (M.1 12))]) 0 cl_11 f_RX12_9_11 (by decide) (rfl) rfl rfl rfl (Nat.le_of_ble_eq_true rfl) rfl 18 rfl dX12_back_15 ?_
  refine a_eq (h2 := g_hp G C (g_hm G (f_mn M 0 (M.1 2)) ++ ob)) rfl rfl rfl (rfl) ?_
  refine a_aload_n 0 19 rfl dX12_back_18 rfl rfl ?_
  refine a_aload_n 0 20 rfl dX12_back_19 rfl rfl ?_
  refine a_get 3 cl_11 f_RX12_362_11 (by decide) (rfl) rfl 23 rfl dX12_back_20 ?_
  refine a_put (fs' := [.int (nI (M.1 2)), .int (nI (M.1 3)), .int (nI (M.1 2)), .int (nI (M.1 3)), .ref (g_ad G 39), .ref (g_ad G 40), .ref (g_ad G 41), .ref (g_ad G 42), .ref (g_ad G 43), .ref (g_ad G 44), .int (M.2.1 0), .ref (g_ad G 45), .int (nI (M.1 4)), .int (nI (M.1 5)), .int (M.2.1 1), .int (M.2.1 2), .long (M.2.2.1 0), .ref (g_ad G 46), .ref (g_ad G 47), .ref (g_ad G 48), .int (nI (M.1 6)), .long (M.2.2.1 1), .int (nI (M.1 7)), .int (nI (M.1 8)), .ref (g_ad G 49), .ref (g_ad G 50), .int (nI (M.1 9)), .int (nI (M.1 10)), .int (nI (M.1 11)), .long (M.2.2.1 2), .ref (g_ad G 51), .ref (g_ad G 52), .ref (g_ad G 53), .ref (g_ad G 54), .ref (g_ad G 55), .ref (g_ad G 56), .ref (g_ad G 57), .ref (g_ad G 58), .ref (g_ad G 59), .ref (g_ad G 60), .ref (g_ad G 61), .ref (g_ad G 62), .int (nI (M.1 12))]) 1 cl_11 f_RX12_97_11 (by decide) (rfl) rfl rfl rfl (Nat.le_of_ble_eq_true rfl) rfl 26 rfl dX12_back_23 ?_
  refine a_eq (h2 := g_hp G C (g_hm G (f_mn (f_mn M 0 (M.1 2)) 1 (M.1 3)) ++ ob)) rfl rfl rfl (rfl) ?_
  refine a_iconst (x := 0) 27 rfl dX12_back_26 (by decide) ?_
  refine a_istore_n (lv' := [(1, .int 0), (0, .ref (g_ad G 38))]) 28 rfl dX12_back_27 rfl (by decide) rfl ?_
  refine a_eq (h2 := g_hp G C (g_hm G (f_mL (f_mI (f_mI (f_mn (f_mn M 0 (M.1 2)) 1 (M.1 3)) 0 (f_cpI (M.2.2.2.1 0) (M.2.2.2.1 2) 0)) 1 (f_cpI (M.2.2.2.1 1) (M.2.2.2.1 3) 0)) 0 (f_cpL (M.2.2.2.2 0) (M.2.2.2.2 1) 0)) ++ ob)) rfl rfl rfl (rfl) ?_
  refine a_sub (lv' := [(1, .int (nI 0)), (0, .ref (g_ad G 38))]) [0, 1] rfl ?_
  refine g_for (P := fun t9 => True) (M.1 3) (fun t9 => [(1, .int (nI t9)), (0, .ref (g_ad G 38))]) (fun t9 => g_hp G C (g_hm G (f_mL (f_mI (f_mI (f_mn (f_mn M 0 (M.1 2)) 1 (M.1 3)) 0 (f_cpI (M.2.2.2.1 0) (M.2.2.2.1 2) t9)) 1 (f_cpI (M.2.2.2.1 1) (M.2.2.2.1 3) t9)) 0 (f_cpL (M.2.2.2.2 0) (M.2.2.2.2 1) t9)) ++ ob)) (trivial) (fun t9 h_t9 p_t9 k_t9 => ?_) (fun p_t9 => ?_)
  · have c0 : (nI t9).toNatClampNeg = t9 := g_cl (by omega)
    refine a_iload_n 0 29 rfl dX12_back_28 rfl rfl ?_
    refine a_aload_n 1 30 rfl dX12_back_29 rfl rfl ?_
    refine a_get 1 cl_11 f_RX12_97_11 (by decide) (rfl) rfl 33 rfl dX12_back_30 ?_
    refine a_icmp_ge 78 36 rfl dX12_back_33 (by decide) (fun hc => absurd hc (nI_ge (a := t9) (b := (M.1 3)) (by omega) (by omega))) (fun _ => ?_)
    refine a_aload_n 1 37 rfl dX12_back_36 rfl rfl ?_
    refine a_get 4 cl_11 f_RX12_15_11 (by decide) (rfl) rfl 40 rfl dX12_back_37 ?_
    refine a_iload_n 0 41 rfl dX12_back_40 rfl rfl ?_
    refine a_aload_n 1 42 rfl dX12_back_41 rfl rfl ?_
    refine a_get 6 cl_11 f_RX12_22_11 (by decide) (rfl) rfl 45 rfl dX12_back_42 ?_
    refine a_iload_n 0 46 rfl dX12_back_45 rfl rfl ?_
    refine a_iald (rfl) (vp_in_nI (n := t9) (by omega) (by omega)) 47 rfl dX12_back_46 ?_
    refine a_eq (st2 := [.int ((M.2.2.2.1 2) t9), .int (nI t9), .ref (g_ad G 39)]) rfl rfl (congrArg (fun z9 => Value.int z9 :: [.int (nI t9), .ref (g_ad G 39)]) (congrArg (M.2.2.2.1 2) (g_cl (by omega)))) rfl ?_
    refine a_iast (rfl) (vp_in_nI (n := t9) (by omega) (by omega)) 48 rfl dX12_back_47 ?_
    refine a_eq (h2 := g_hp G C (g_hm G (f_mI (f_mL (f_mI (f_mn (f_mn M 0 (M.1 2)) 1 (M.1 3)) 1 (f_cpI (M.2.2.2.1 1) (M.2.2.2.1 3) t9)) 0 (f_cpL (M.2.2.2.2 0) (M.2.2.2.2 1) t9)) 0 (f_cpI (M.2.2.2.1 0) (M.2.2.2.1 2) (t9 + 1))) ++ ob)) rfl rfl rfl (by show (((g_hp G C (g_hm G (f_mL (f_mI (f_mI (f_mn (f_mn M 0 (M.1 2)) 1 (M.1 3)) 0 (f_cpI (M.2.2.2.1 0) (M.2.2.2.1 2) t9)) 1 (f_cpI (M.2.2.2.1 1) (M.2.2.2.1 3) t9)) 0 (f_cpL (M.2.2.2.2 0) (M.2.2.2.2 1) t9)) ++ ob)).set 39 (c_I G 8 (upd (f_cpI (M.2.2.2.1 0) (M.2.2.2.1 2) t9) (nI t9).toNatClampNeg ((M.2.2.2.1 2) t9)))) : List va_E) = _; rw [c0]; rfl) ?_
    refine a_aload_n 1 49 rfl dX12_back_48 rfl rfl ?_
    refine a_get 5 cl_11 f_RX12_19_11 (by decide) (rfl) rfl 52 rfl dX12_back_49 ?_
    refine a_iload_n 0 53 rfl dX12_back_52 rfl rfl ?_
    refine a_aload_n 1 54 rfl dX12_back_53 rfl rfl ?_
    refine a_get 7 cl_11 f_RX12_25_11 (by decide) (rfl) rfl 57 rfl dX12_back_54 ?_
    refine a_iload_n 0 58 rfl dX12_back_57 rfl rfl ?_
    refine a_iald (rfl) (vp_in_nI (n := t9) (by omega) (by omega)) 59 rfl dX12_back_58 ?_
    refine a_eq (st2 := [.int ((M.2.2.2.1 3) t9), .int (nI t9), .ref (g_ad G 40)]) rfl rfl (congrArg (fun z9 => Value.int z9 :: [.int (nI t9), .ref (g_ad G 40)]) (congrArg (M.2.2.2.1 3) (g_cl (by omega)))) rfl ?_
    refine a_iast (rfl) (vp_in_nI (n := t9) (by omega) (by omega)) 60 rfl dX12_back_59 ?_
    refine a_eq (h2 := g_hp G C (g_hm G (f_mI (f_mI (f_mL (f_mn (f_mn M 0 (M.1 2)) 1 (M.1 3)) 0 (f_cpL (M.2.2.2.2 0) (M.2.2.2.2 1) t9)) 0 (f_cpI (M.2.2.2.1 0) (M.2.2.2.1 2) (t9 + 1))) 1 (f_cpI (M.2.2.2.1 1) (M.2.2.2.1 3) (t9 + 1))) ++ ob)) rfl rfl rfl (by show (((g_hp G C (g_hm G (f_mI (f_mL (f_mI (f_mn (f_mn M 0 (M.1 2)) 1 (M.1 3)) 1 (f_cpI (M.2.2.2.1 1) (M.2.2.2.1 3) t9)) 0 (f_cpL (M.2.2.2.2 0) (M.2.2.2.2 1) t9)) 0 (f_cpI (M.2.2.2.1 0) (M.2.2.2.1 2) (t9 + 1))) ++ ob)).set 40 (c_I G 8 (upd (f_cpI (M.2.2.2.1 1) (M.2.2.2.1 3) t9) (nI t9).toNatClampNeg ((M.2.2.2.1 3) t9)))) : List va_E) = _; rw [c0]; rfl) ?_
    refine a_aload_n 1 61 rfl dX12_back_60 rfl rfl ?_
    refine a_get 8 cl_11 f_RX12_28_11 (by decide) (rfl) rfl 64 rfl dX12_back_61 ?_
    refine a_iload_n 0 65 rfl dX12_back_64 rfl rfl ?_
    refine a_aload_n 1 66 rfl dX12_back_65 rfl rfl ?_
    refine a_get 9 cl_11 f_RX12_32_11 (by decide) (rfl) rfl 69 rfl dX12_back_66 ?_
    refine a_iload_n 0 70 rfl dX12_back_69 rfl rfl ?_
    refine a_lald (rfl) (vp_in_nI (n := t9) (by omega) (by omega)) 71 rfl dX12_back_70 ?_
    refine a_eq (st2 := [.long ((M.2.2.2.2 1) t9), .int (nI t9), .ref (g_ad G 43)]) rfl rfl (congrArg (fun z9 => Value.long z9 :: [.int (nI t9), .ref (g_ad G 43)]) (congrArg (M.2.2.2.2 1) (g_cl (by omega)))) rfl ?_
    refine a_last (rfl) (vp_in_nI (n := t9) (by omega) (by omega)) 72 rfl dX12_back_71 ?_
    refine a_eq (h2 := g_hp G C (g_hm G (f_mL (f_mI (f_mI (f_mn (f_mn M 0 (M.1 2)) 1 (M.1 3)) 0 (f_cpI (M.2.2.2.1 0) (M.2.2.2.1 2) (t9 + 1))) 1 (f_cpI (M.2.2.2.1 1) (M.2.2.2.1 3) (t9 + 1))) 0 (f_cpL (M.2.2.2.2 0) (M.2.2.2.2 1) (t9 + 1))) ++ ob)) rfl rfl rfl (by show (((g_hp G C (g_hm G (f_mI (f_mI (f_mL (f_mn (f_mn M 0 (M.1 2)) 1 (M.1 3)) 0 (f_cpL (M.2.2.2.2 0) (M.2.2.2.2 1) t9)) 0 (f_cpI (M.2.2.2.1 0) (M.2.2.2.1 2) (t9 + 1))) 1 (f_cpI (M.2.2.2.1 1) (M.2.2.2.1 3) (t9 + 1))) ++ ob)).set 43 (c_L G 8 (vp_updL (f_cpL (M.2.2.2.2 0) (M.2.2.2.2 1) t9) (nI t9).toNatClampNeg ((M.2.2.2.2 1) t9)))) : List va_E) = _; rw [c0]; rfl) ?_
    refine a_iinc (y := nI (t9 + 1)) (lv' := [(1, .int (nI (t9 + 1))), (0, .ref (g_ad G 38))]) 0 75 rfl dX12_back_72 rfl (nI_1 t9) (by decide) rfl ?_
    refine a_goto 28 dX12_back_75 (by decide) ?_
    refine a_sub (lv' := [(1, .int (nI (t9 + 1))), (0, .ref (g_ad G 38))]) [0, 1] rfl ?_
    exact k_t9 trivial
  · skip
    refine a_iload_n 0 29 rfl dX12_back_28 rfl rfl ?_
    refine a_aload_n 1 30 rfl dX12_back_29 rfl rfl ?_
    refine a_get 1 cl_11 f_RX12_97_11 (by decide) (rfl) rfl 33 rfl dX12_back_30 ?_
    refine a_icmp_ge 78 36 rfl dX12_back_33 (by decide) (fun _ => ?_) (fun hc => absurd (nI_le (a := (M.1 3)) (b := (M.1 3)) (by omega) (by omega)) hc)
    refine a_aload_n 1 79 rfl dX12_back_78 rfl rfl ?_
    refine a_callV (as := []) (rest := []) (st2 := []) (u1 := 0) (v1 := 0) (u2 := 0) (v2 := 0) (r_leaves) (⟨_, _, _, _, rfl, rfl⟩) oX12_leaves q_1245 q_1247 q_84 rfl (by omega) (by decide) rfl (Nat.le_of_ble_eq_true rfl) 82 rfl dX12_back_79 rfl ?_
    refine a_eq (h2 := g_hp G C (g_hm G (f_mn (f_mn (f_mL (f_mI (f_mI (f_mn (f_mn M 0 (M.1 2)) 1 (M.1 3)) 0 (f_cpI (M.2.2.2.1 0) (M.2.2.2.1 2) (M.1 3))) 1 (f_cpI (M.2.2.2.1 1) (M.2.2.2.1 3) (M.1 3))) 0 (f_cpL (M.2.2.2.2 0) (M.2.2.2.2 1) (M.1 3))) 4 0) 5 0) ++ ob)) rfl rfl rfl (rfl) ?_
    refine a_aload_n 1 83 rfl dX12_back_82 rfl rfl ?_
    refine a_get 1 cl_11 f_RX12_97_11 (by decide) (rfl) rfl 86 rfl dX12_back_83 ?_
    exact a_ireturn .int rfl rfl (rfl) (rfl) dX12_back_86
theorem r_alM0 (hk : M.2.1 0 = 0) : g_Run G mX12_alike 4 0 0 [.ref (g_ad G 38)] (g_hp G C (g_hm G M ++ ob)) (some (.int (-5))) (g_hp G C (g_hm G M ++ ob)) := by
  refine g_Run.of (lv := [(0, .ref (g_ad G 38))]) (by decide) (Nat.le_of_ble_eq_true rfl) rfl ?_
  refine a_aload_n 0 1 rfl dX12_alike_0 rfl rfl ?_
  refine a_get 10 cl_11 f_RX12_365_11 (by decide) (rfl) rfl 4 rfl dX12_alike_1 ?_
  refine a_if_ne 10 7 rfl dX12_alike_4 (by decide) (fun hc => absurd (hk) hc) (fun _ => ?_)
  refine a_bipush (x := (-5)) 9 rfl dX12_alike_7 (by decide) ?_
  exact a_ireturn .int rfl rfl (rfl) (rfl) dX12_alike_9
theorem r_alM (hk : ¬ M.2.1 0 = 0) (hm : M.1 1 ≤ 8) (hm3 : M.1 3 ≤ 8) (hn : M.1 0 ≤ 6) (hn2 : M.1 2 ≤ 6) : g_Run G mX12_alike 4 0 0 [.ref (g_ad G 38)] (g_hp G C (g_hm G M ++ ob)) (some (.int (f_i (f_alF (f_alB M) (f_alC M) (M.1 1))))) (g_hp G C (g_hm G M ++ ob)) := by
  refine g_Run.of (lv := [(0, .ref (g_ad G 38))]) (by decide) (Nat.le_of_ble_eq_true rfl) rfl ?_
  refine a_aload_n 0 1 rfl dX12_alike_0 rfl rfl ?_
  refine a_get 10 cl_11 f_RX12_365_11 (by decide) (rfl) rfl 4 rfl dX12_alike_1 ?_
  refine a_if_ne 10 7 rfl dX12_alike_4 (by decide) (fun _ => ?_) (fun hc => absurd hc (hk))
  refine a_aload_n 0 11 rfl dX12_alike_10 rfl rfl ?_
  refine a_get 0 cl_11 f_RX12_9_11 (by decide) (rfl) rfl 14 rfl dX12_alike_11 ?_
  refine a_aload_n 0 15 rfl dX12_alike_14 rfl rfl ?_
  refine a_get 2 cl_11 f_RX12_359_11 (by decide) (rfl) rfl 18 rfl dX12_alike_15 ?_
  refine g_sfx (pc := 37) (lv := [(0, .ref (g_ad G 38))]) (st := [.int (f_i ((decide ((M.1 0) = (M.1 2))) && (decide ((M.1 1) = (M.1 3)))))]) (h := (g_hp G C (g_hm G M ++ ob))) (fun key => ?_) ?_
  · skip
    rcases Bool.eq_false_or_eq_true (decide ((M.1 0) = (M.1 2))) with c18_1 | c18_1
    · skip
      have dc18_1 := of_decide_eq_true c18_1
      refine a_icmp_ne 36 21 rfl dX12_alike_18 (by decide) (fun hc => absurd (congrArg nI (of_decide_eq_true c18_1)) hc) (fun _ => ?_)
      refine a_aload_n 0 22 rfl dX12_alike_21 rfl rfl ?_
      refine a_get 1 cl_11 f_RX12_97_11 (by decide) (rfl) rfl 25 rfl dX12_alike_22 ?_
      refine a_aload_n 0 26 rfl dX12_alike_25 rfl rfl ?_
      refine a_get 3 cl_11 f_RX12_362_11 (by decide) (rfl) rfl 29 rfl dX12_alike_26 ?_
      rcases Bool.eq_false_or_eq_true (decide ((M.1 1) = (M.1 3))) with c29_2 | c29_2
      · skip
        have dc29_2 := of_decide_eq_true c29_2
        refine a_icmp_ne 36 32 rfl dX12_alike_29 (by decide) (fun hc => absurd (congrArg nI (of_decide_eq_true c29_2)) hc) (fun _ => ?_)
        refine a_iconst (x := 1) 33 rfl dX12_alike_32 (by decide) ?_
        refine a_goto 37 dX12_alike_33 (by decide) ?_
        exact a_eq rfl (rfl) (by rw [c18_1, c29_2]; rfl) rfl key
      · skip
        have dc29_2 := of_decide_eq_false c29_2
        refine a_icmp_ne 36 32 rfl dX12_alike_29 (by decide) (fun _ => ?_) (fun hc => absurd hc (fun z9 => of_decide_eq_false c29_2 (nI_inj9 (a := (M.1 1)) (b := (M.1 3)) (by omega) (by omega) z9)))
        refine a_iconst (x := 0) 37 rfl dX12_alike_36 (by decide) ?_
        exact a_eq rfl (rfl) (by rw [c18_1, c29_2]; rfl) rfl key
    · skip
      have dc18_1 := of_decide_eq_false c18_1
      refine a_icmp_ne 36 21 rfl dX12_alike_18 (by decide) (fun _ => ?_) (fun hc => absurd hc (fun z9 => of_decide_eq_false c18_1 (nI_inj9 (a := (M.1 0)) (b := (M.1 2)) (by omega) (by omega) z9)))
      refine a_iconst (x := 0) 37 rfl dX12_alike_36 (by decide) ?_
      exact a_eq rfl (rfl) (by rw [c18_1]; rfl) rfl key
  refine a_istore_n (lv' := [(1, .int (f_i ((decide ((M.1 0) = (M.1 2))) && (decide ((M.1 1) = (M.1 3)))))), (0, .ref (g_ad G 38))]) 38 rfl dX12_alike_37 rfl (by decide) rfl ?_
  refine a_iconst (x := 0) 39 rfl dX12_alike_38 (by decide) ?_
  refine a_istore_n (lv' := [(2, .int 0), (1, .int (f_i ((decide ((M.1 0) = (M.1 2))) && (decide ((M.1 1) = (M.1 3)))))), (0, .ref (g_ad G 38))]) 40 rfl dX12_alike_39 rfl (by decide) rfl ?_
  refine a_sub (lv' := [(2, .int (nI 0)), (1, .int (f_i (f_alF (f_alB M) (f_alC M) 0))), (0, .ref (g_ad G 38))]) [0, 1, 2] rfl ?_
  refine g_for (P := fun t9 => True) (M.1 1) (fun t9 => [(2, .int (nI t9)), (1, .int (f_i (f_alF (f_alB M) (f_alC M) t9))), (0, .ref (g_ad G 38))]) (fun t9 => (g_hp G C (g_hm G M ++ ob))) (trivial) (fun t9 h_t9 p_t9 k_t9 => ?_) (fun p_t9 => ?_)
  · skip
    refine a_iload_n 0 41 rfl dX12_alike_40 rfl rfl ?_
    refine a_aload_n 2 42 rfl dX12_alike_41 rfl rfl ?_
    refine a_get 1 cl_11 f_RX12_97_11 (by decide) (rfl) rfl 45 rfl dX12_alike_42 ?_
    refine a_icmp_ge 110 48 rfl dX12_alike_45 (by decide) (fun hc => absurd hc (nI_ge (a := t9) (b := (M.1 1)) (by omega) (by omega))) (fun _ => ?_)
    refine a_iload_n 1 49 rfl dX12_alike_48 rfl rfl ?_
    rcases Bool.eq_false_or_eq_true (f_alF (f_alB M) (f_alC M) t9) with e1 | e1
    · skip
      refine a_if_eq 110 52 rfl dX12_alike_49 (by decide) (fun hc => absurd hc (f_i_T e1)) (fun _ => ?_)
      refine a_aload_n 2 53 rfl dX12_alike_52 rfl rfl ?_
      refine a_get 4 cl_11 f_RX12_15_11 (by decide) (rfl) rfl 56 rfl dX12_alike_53 ?_
      refine a_iload_n 0 57 rfl dX12_alike_56 rfl rfl ?_
      refine a_iald (rfl) (vp_in_nI (n := t9) (by omega) (by omega)) 58 rfl dX12_alike_57 ?_
      refine a_eq (st2 := [.int ((M.2.2.2.1 0) t9)]) rfl rfl (congrArg (fun z9 => Value.int z9 :: []) (congrArg (M.2.2.2.1 0) (g_cl (by omega)))) rfl ?_
      refine a_aload_n 2 59 rfl dX12_alike_58 rfl rfl ?_
      refine a_get 6 cl_11 f_RX12_22_11 (by decide) (rfl) rfl 62 rfl dX12_alike_59 ?_
      refine a_iload_n 0 63 rfl dX12_alike_62 rfl rfl ?_
      refine a_iald (rfl) (vp_in_nI (n := t9) (by omega) (by omega)) 64 rfl dX12_alike_63 ?_
      refine a_eq (st2 := [.int ((M.2.2.2.1 2) t9), .int ((M.2.2.2.1 0) t9)]) rfl rfl (congrArg (fun z9 => Value.int z9 :: [.int ((M.2.2.2.1 0) t9)]) (congrArg (M.2.2.2.1 2) (g_cl (by omega)))) rfl ?_
      refine g_sfx (pc := 103) (lv := [(2, .int (nI t9)), (1, .int (f_i (f_alF (f_alB M) (f_alC M) t9))), (0, .ref (g_ad G 38))]) (st := [.int (f_i ((decide (((M.2.2.2.1 0) t9) = ((M.2.2.2.1 2) t9))) && ((decide (((M.2.2.2.1 1) t9) = ((M.2.2.2.1 3) t9))) && (decide (((M.2.2.2.2 0) t9) = ((M.2.2.2.2 1) t9))))))]) (h := (g_hp G C (g_hm G M ++ ob))) (fun key => ?_) ?_
      · skip
        rcases Bool.eq_false_or_eq_true (decide (((M.2.2.2.1 0) t9) = ((M.2.2.2.1 2) t9))) with c64_1 | c64_1
        · skip
          have dc64_1 := of_decide_eq_true c64_1
          refine a_icmp_ne 102 67 rfl dX12_alike_64 (by decide) (fun hc => absurd (of_decide_eq_true c64_1) hc) (fun _ => ?_)
          refine a_aload_n 2 68 rfl dX12_alike_67 rfl rfl ?_
          refine a_get 5 cl_11 f_RX12_19_11 (by decide) (rfl) rfl 71 rfl dX12_alike_68 ?_
          refine a_iload_n 0 72 rfl dX12_alike_71 rfl rfl ?_
          refine a_iald (rfl) (vp_in_nI (n := t9) (by omega) (by omega)) 73 rfl dX12_alike_72 ?_
          refine a_eq (st2 := [.int ((M.2.2.2.1 1) t9)]) rfl rfl (congrArg (fun z9 => Value.int z9 :: []) (congrArg (M.2.2.2.1 1) (g_cl (by omega)))) rfl ?_
          refine a_aload_n 2 74 rfl dX12_alike_73 rfl rfl ?_
          refine a_get 7 cl_11 f_RX12_25_11 (by decide) (rfl) rfl 77 rfl dX12_alike_74 ?_
          refine a_iload_n 0 78 rfl dX12_alike_77 rfl rfl ?_
          refine a_iald (rfl) (vp_in_nI (n := t9) (by omega) (by omega)) 79 rfl dX12_alike_78 ?_
          refine a_eq (st2 := [.int ((M.2.2.2.1 3) t9), .int ((M.2.2.2.1 1) t9)]) rfl rfl (congrArg (fun z9 => Value.int z9 :: [.int ((M.2.2.2.1 1) t9)]) (congrArg (M.2.2.2.1 3) (g_cl (by omega)))) rfl ?_
          rcases Bool.eq_false_or_eq_true (decide (((M.2.2.2.1 1) t9) = ((M.2.2.2.1 3) t9))) with c79_2 | c79_2
          · skip
            have dc79_2 := of_decide_eq_true c79_2
            refine a_icmp_ne 102 82 rfl dX12_alike_79 (by decide) (fun hc => absurd (of_decide_eq_true c79_2) hc) (fun _ => ?_)
            refine a_aload_n 2 83 rfl dX12_alike_82 rfl rfl ?_
            refine a_get 8 cl_11 f_RX12_28_11 (by decide) (rfl) rfl 86 rfl dX12_alike_83 ?_
            refine a_iload_n 0 87 rfl dX12_alike_86 rfl rfl ?_
            refine a_lald (rfl) (vp_in_nI (n := t9) (by omega) (by omega)) 88 rfl dX12_alike_87 ?_
            refine a_eq (st2 := [.long ((M.2.2.2.2 0) t9)]) rfl rfl (congrArg (fun z9 => Value.long z9 :: []) (congrArg (M.2.2.2.2 0) (g_cl (by omega)))) rfl ?_
            refine a_aload_n 2 89 rfl dX12_alike_88 rfl rfl ?_
            refine a_get 9 cl_11 f_RX12_32_11 (by decide) (rfl) rfl 92 rfl dX12_alike_89 ?_
            refine a_iload_n 0 93 rfl dX12_alike_92 rfl rfl ?_
            refine a_lald (rfl) (vp_in_nI (n := t9) (by omega) (by omega)) 94 rfl dX12_alike_93 ?_
            refine a_eq (st2 := [.long ((M.2.2.2.2 1) t9), .long ((M.2.2.2.2 0) t9)]) rfl rfl (congrArg (fun z9 => Value.long z9 :: [.long ((M.2.2.2.2 0) t9)]) (congrArg (M.2.2.2.2 1) (g_cl (by omega)))) rfl ?_
            refine a_lcmp 95 rfl dX12_alike_94 ?_
            rcases Bool.eq_false_or_eq_true (decide (((M.2.2.2.2 0) t9) = ((M.2.2.2.2 1) t9))) with c95_3 | c95_3
            · skip
              have dc95_3 := of_decide_eq_true c95_3
              refine a_if_ne 102 98 rfl dX12_alike_95 (by decide) (fun hc => absurd (g_cmp_eq.mpr (of_decide_eq_true c95_3)) hc) (fun _ => ?_)
              refine a_iconst (x := 1) 99 rfl dX12_alike_98 (by decide) ?_
              refine a_goto 103 dX12_alike_99 (by decide) ?_
              exact a_eq rfl (rfl) (by rw [c64_1, c79_2, c95_3]; rfl) rfl key
            · skip
              have dc95_3 := of_decide_eq_false c95_3
              refine a_if_ne 102 98 rfl dX12_alike_95 (by decide) (fun _ => ?_) (fun hc => absurd hc (g_cmp_ne.mpr (of_decide_eq_false c95_3)))
              refine a_iconst (x := 0) 103 rfl dX12_alike_102 (by decide) ?_
              exact a_eq rfl (rfl) (by rw [c64_1, c79_2, c95_3]; rfl) rfl key
          · skip
            have dc79_2 := of_decide_eq_false c79_2
            refine a_icmp_ne 102 82 rfl dX12_alike_79 (by decide) (fun _ => ?_) (fun hc => absurd hc (of_decide_eq_false c79_2))
            refine a_iconst (x := 0) 103 rfl dX12_alike_102 (by decide) ?_
            exact a_eq rfl (rfl) (by rw [c64_1, c79_2]; rfl) rfl key
        · skip
          have dc64_1 := of_decide_eq_false c64_1
          refine a_icmp_ne 102 67 rfl dX12_alike_64 (by decide) (fun _ => ?_) (fun hc => absurd hc (of_decide_eq_false c64_1))
          refine a_iconst (x := 0) 103 rfl dX12_alike_102 (by decide) ?_
          exact a_eq rfl (rfl) (by rw [c64_1]; rfl) rfl key
      refine a_istore_n (lv' := [(1, .int (f_i ((decide (((M.2.2.2.1 0) t9) = ((M.2.2.2.1 2) t9))) && ((decide (((M.2.2.2.1 1) t9) = ((M.2.2.2.1 3) t9))) && (decide (((M.2.2.2.2 0) t9) = ((M.2.2.2.2 1) t9))))))), (2, .int (nI t9)), (0, .ref (g_ad G 38))]) 104 rfl dX12_alike_103 rfl (by decide) rfl ?_
      refine a_iinc (y := nI (t9 + 1)) (lv' := [(2, .int (nI (t9 + 1))), (1, .int (f_i ((decide (((M.2.2.2.1 0) t9) = ((M.2.2.2.1 2) t9))) && ((decide (((M.2.2.2.1 1) t9) = ((M.2.2.2.1 3) t9))) && (decide (((M.2.2.2.2 0) t9) = ((M.2.2.2.2 1) t9))))))), (0, .ref (g_ad G 38))]) 1 107 rfl dX12_alike_104 rfl (nI_1 t9) (by decide) rfl ?_
      refine a_goto 40 dX12_alike_107 (by decide) ?_
      refine a_eq (lv2 := [(2, .int (nI (t9 + 1))), (1, .int (f_i (f_alF (f_alB M) (f_alC M) (t9 + 1)))), (0, .ref (g_ad G 38))]) rfl (congrArg (fun z9 => ([(2, .int (nI (t9 + 1))), (1, .int z9), (0, .ref (g_ad G 38))] : List (Nat × Value))) (by rw [f_alF, e1, Bool.true_and]; rfl)) rfl rfl ?_
      refine a_sub (lv' := [(2, .int (nI (t9 + 1))), (1, .int (f_i (f_alF (f_alB M) (f_alC M) (t9 + 1)))), (0, .ref (g_ad G 38))]) [0, 1, 2] rfl ?_
      exact k_t9 trivial
    · skip
      refine a_if_eq 110 52 rfl dX12_alike_49 (by decide) (fun _ => ?_) (fun hc => absurd (f_i_F e1) hc)
      refine a_iload_n 1 111 rfl dX12_alike_110 rfl rfl ?_
      have e2 := f_alF_false e1 (M.1 1 - t9)
      rw [show t9 + (M.1 1 - t9) = M.1 1 by omega] at e2
      refine a_if_eq 118 114 rfl dX12_alike_111 (by decide) (fun _ => ?_) (fun hc => absurd (f_i_F e1) hc)
      refine a_iconst (x := 0) 119 rfl dX12_alike_118 (by decide) ?_
      exact a_ireturn .int rfl rfl ((by rw [e2]; rfl)) (rfl) dX12_alike_119
  · skip
    refine a_iload_n 0 41 rfl dX12_alike_40 rfl rfl ?_
    refine a_aload_n 2 42 rfl dX12_alike_41 rfl rfl ?_
    refine a_get 1 cl_11 f_RX12_97_11 (by decide) (rfl) rfl 45 rfl dX12_alike_42 ?_
    refine a_icmp_ge 110 48 rfl dX12_alike_45 (by decide) (fun _ => ?_) (fun hc => absurd (nI_le (a := (M.1 1)) (b := (M.1 1)) (by omega) (by omega)) hc)
    refine a_iload_n 1 111 rfl dX12_alike_110 rfl rfl ?_
    refine g_sfx (pc := 119) (lv := [(2, .int (nI (M.1 1))), (1, .int (f_i (f_alF (f_alB M) (f_alC M) (M.1 1)))), (0, .ref (g_ad G 38))]) (st := [.int (f_i (f_alF (f_alB M) (f_alC M) (M.1 1)))]) (h := (g_hp G C (g_hm G M ++ ob))) (fun key => ?_) ?_
    · skip
      rcases Bool.eq_false_or_eq_true ((f_alF (f_alB M) (f_alC M) (M.1 1))) with c111_1 | c111_1
      · skip
        refine a_if_eq 118 114 rfl dX12_alike_111 (by decide) (fun hc => absurd hc (f_i_T c111_1)) (fun _ => ?_)
        refine a_iconst (x := 1) 115 rfl dX12_alike_114 (by decide) ?_
        refine a_goto 119 dX12_alike_115 (by decide) ?_
        exact a_eq rfl (rfl) (by rw [c111_1]; rfl) rfl key
      · skip
        refine a_if_eq 118 114 rfl dX12_alike_111 (by decide) (fun _ => ?_) (fun hc => absurd (f_i_F c111_1) hc)
        refine a_iconst (x := 0) 119 rfl dX12_alike_118 (by decide) ?_
        exact a_eq rfl (rfl) (by rw [c111_1]; rfl) rfl key
    exact a_ireturn .int rfl rfl (rfl) (rfl) dX12_alike_119
theorem r_cntM0 : g_Run G mX12_count 4 0 0 [.ref (g_ad G 38), .int 0] (g_hp G C (g_hm G M ++ ob)) (some (.int (nI (M.1 1)))) (g_hp G C (g_hm G M ++ ob)) := by
  refine g_Run.of (lv := [(0, .ref (g_ad G 38)), (1, .int 0)]) (by decide) (Nat.le_of_ble_eq_true rfl) rfl ?_
  refine a_iconst (x := 0) 1 rfl dX12_count_0 (by decide) ?_
  refine a_istore_n (lv' := [(2, .int 0), (0, .ref (g_ad G 38)), (1, .int 0)]) 2 rfl dX12_count_1 rfl (by decide) rfl ?_
  refine a_iconst (x := 0) 3 rfl dX12_count_2 (by decide) ?_
  refine a_istore_n (lv' := [(3, .int 0), (2, .int 0), (0, .ref (g_ad G 38)), (1, .int 0)]) 4 rfl dX12_count_3 rfl (by decide) rfl ?_
  refine a_sub (lv' := [(3, .int (nI 0)), (2, .int (nI (f_th3 (M.2.2.2.1 15) 0))), (0, .ref (g_ad G 38)), (1, .int 0)]) [0, 1, 2, 3] rfl ?_
  refine g_for (P := fun t9 => True) 3 (fun t9 => [(3, .int (nI t9)), (2, .int (nI (f_th3 (M.2.2.2.1 15) t9))), (0, .ref (g_ad G 38)), (1, .int 0)]) (fun t9 => (g_hp G C (g_hm G M ++ ob))) (trivial) (fun t9 h_t9 p_t9 k_t9 => ?_) (fun p_t9 => ?_)
  · skip
    refine a_iload_n 0 5 rfl dX12_count_4 rfl rfl ?_
    refine a_iconst (x := 3) 6 rfl dX12_count_5 (by decide) ?_
    refine a_icmp_ge 47 9 rfl dX12_count_6 (by decide) (fun hc => absurd hc (nI_ge (a := t9) (b := 3) (by omega) (by omega))) (fun _ => ?_)
    refine a_iload_n 1 10 rfl dX12_count_9 rfl rfl ?_
    refine a_iload_n 3 11 rfl dX12_count_10 rfl rfl ?_
    refine a_bipush (x := 6) 13 rfl dX12_count_11 (by decide) ?_
    refine a_icmp_ne 25 16 rfl dX12_count_13 (by decide) (fun _ => ?_) (fun hc => absurd hc ((by decide)))
    refine a_aload_n 2 26 rfl dX12_count_25 rfl rfl ?_
    refine a_get 38 cl_11 f_RX12_83_11 (by decide) (rfl) rfl 29 rfl dX12_count_26 ?_
    refine a_iload_n 0 30 rfl dX12_count_29 rfl rfl ?_
    refine a_iald (rfl) (vp_in_nI (n := t9) (by omega) (by omega)) 31 rfl dX12_count_30 ?_
    refine a_eq (st2 := [.int ((M.2.2.2.1 15) t9), .int (nI (f_th3 (M.2.2.2.1 15) t9))]) rfl rfl (congrArg (fun z9 => Value.int z9 :: [.int (nI (f_th3 (M.2.2.2.1 15) t9))]) (congrArg (M.2.2.2.1 15) (g_cl (by omega)))) rfl ?_
    refine g_sfx (pc := 39) (lv := [(3, .int (nI t9)), (2, .int (nI (f_th3 (M.2.2.2.1 15) t9))), (0, .ref (g_ad G 38)), (1, .int 0)]) (st := [.int (f_i (decide (0 ≤ ((M.2.2.2.1 15) t9)))), .int (nI (f_th3 (M.2.2.2.1 15) t9))]) (h := (g_hp G C (g_hm G M ++ ob))) (fun key => ?_) ?_
    · skip
      rcases Bool.eq_false_or_eq_true (decide (0 ≤ ((M.2.2.2.1 15) t9))) with c31_1 | c31_1
      · skip
        have dc31_1 := of_decide_eq_true c31_1
        refine a_if_ge 38 34 rfl dX12_count_31 (by decide) (fun _ => ?_) (fun hc => absurd (of_decide_eq_true c31_1) hc)
        refine a_iconst (x := 1) 39 rfl dX12_count_38 (by decide) ?_
        exact a_eq rfl (rfl) (by rw [c31_1]; rfl) rfl key
      · skip
        have dc31_1 := of_decide_eq_false c31_1
        refine a_if_ge 38 34 rfl dX12_count_31 (by decide) (fun hc => absurd hc (of_decide_eq_false c31_1)) (fun _ => ?_)
        refine a_iconst (x := 0) 35 rfl dX12_count_34 (by decide) ?_
        refine a_goto 39 dX12_count_35 (by decide) ?_
        exact a_eq rfl (rfl) (by rw [c31_1]; rfl) rfl key
    refine a_iadd 40 rfl dX12_count_39 ?_
    refine a_eq (st2 := [.int (nI ((f_th3 (M.2.2.2.1 15) t9) + Bool.toNat (decide (0 ≤ ((M.2.2.2.1 15) t9)))))]) rfl rfl (congrArg (fun z9 => Value.int z9 :: []) (f_i_add (f_th3 (M.2.2.2.1 15) t9) (decide (0 ≤ ((M.2.2.2.1 15) t9))))) rfl ?_
    refine a_istore_n (lv' := [(2, .int (nI ((f_th3 (M.2.2.2.1 15) t9) + Bool.toNat (decide (0 ≤ ((M.2.2.2.1 15) t9)))))), (3, .int (nI t9)), (0, .ref (g_ad G 38)), (1, .int 0)]) 41 rfl dX12_count_40 rfl (by decide) rfl ?_
    refine a_iinc (y := nI (t9 + 1)) (lv' := [(3, .int (nI (t9 + 1))), (2, .int (nI ((f_th3 (M.2.2.2.1 15) t9) + Bool.toNat (decide (0 ≤ ((M.2.2.2.1 15) t9)))))), (0, .ref (g_ad G 38)), (1, .int 0)]) 1 44 rfl dX12_count_41 rfl (nI_1 t9) (by decide) rfl ?_
    refine a_goto 4 dX12_count_44 (by decide) ?_
    refine a_sub (lv' := [(3, .int (nI (t9 + 1))), (2, .int (nI (f_th3 (M.2.2.2.1 15) (t9 + 1)))), (0, .ref (g_ad G 38)), (1, .int 0)]) [0, 1, 2, 3] rfl ?_
    exact k_t9 trivial
  · skip
    refine a_iload_n 0 5 rfl dX12_count_4 rfl rfl ?_
    refine a_iconst (x := 3) 6 rfl dX12_count_5 (by decide) ?_
    refine a_icmp_ge 47 9 rfl dX12_count_6 (by decide) (fun _ => ?_) (fun hc => absurd (nI_le (a := 3) (b := 3) (by omega) (by omega)) hc)
    refine a_iload_n 3 48 rfl dX12_count_47 rfl rfl ?_
    refine a_tableIn (off := 48) 96 dX12_count_48 (by decide) (by decide) (by decide) (by decide) ?_
    refine a_aload_n 2 97 rfl dX12_count_96 rfl rfl ?_
    refine a_get 1 cl_11 f_RX12_97_11 (by decide) (rfl) rfl 100 rfl dX12_count_97 ?_
    exact a_ireturn .int rfl rfl (rfl) (rfl) dX12_count_100

theorem r_cntM1 : g_Run G mX12_count 4 0 0 [.ref (g_ad G 38), .int 1] (g_hp G C (g_hm G M ++ ob)) (some (.int (nI (M.1 0)))) (g_hp G C (g_hm G M ++ ob)) := by
  refine g_Run.of (lv := [(0, .ref (g_ad G 38)), (1, .int 1)]) (by decide) (Nat.le_of_ble_eq_true rfl) rfl ?_
  refine a_iconst (x := 0) 1 rfl dX12_count_0 (by decide) ?_
  refine a_istore_n (lv' := [(2, .int 0), (0, .ref (g_ad G 38)), (1, .int 1)]) 2 rfl dX12_count_1 rfl (by decide) rfl ?_
  refine a_iconst (x := 0) 3 rfl dX12_count_2 (by decide) ?_
  refine a_istore_n (lv' := [(3, .int 0), (2, .int 0), (0, .ref (g_ad G 38)), (1, .int 1)]) 4 rfl dX12_count_3 rfl (by decide) rfl ?_
  refine a_sub (lv' := [(3, .int (nI 0)), (2, .int (nI (f_th3 (M.2.2.2.1 15) 0))), (0, .ref (g_ad G 38)), (1, .int 1)]) [0, 1, 2, 3] rfl ?_
  refine g_for (P := fun t9 => True) 3 (fun t9 => [(3, .int (nI t9)), (2, .int (nI (f_th3 (M.2.2.2.1 15) t9))), (0, .ref (g_ad G 38)), (1, .int 1)]) (fun t9 => (g_hp G C (g_hm G M ++ ob))) (trivial) (fun t9 h_t9 p_t9 k_t9 => ?_) (fun p_t9 => ?_)
  · skip
    refine a_iload_n 0 5 rfl dX12_count_4 rfl rfl ?_
    refine a_iconst (x := 3) 6 rfl dX12_count_5 (by decide) ?_
    refine a_icmp_ge 47 9 rfl dX12_count_6 (by decide) (fun hc => absurd hc (nI_ge (a := t9) (b := 3) (by omega) (by omega))) (fun _ => ?_)
    refine a_iload_n 1 10 rfl dX12_count_9 rfl rfl ?_
    refine a_iload_n 3 11 rfl dX12_count_10 rfl rfl ?_
    refine a_bipush (x := 6) 13 rfl dX12_count_11 (by decide) ?_
    refine a_icmp_ne 25 16 rfl dX12_count_13 (by decide) (fun _ => ?_) (fun hc => absurd hc ((by decide)))
    refine a_aload_n 2 26 rfl dX12_count_25 rfl rfl ?_
    refine a_get 38 cl_11 f_RX12_83_11 (by decide) (rfl) rfl 29 rfl dX12_count_26 ?_
    refine a_iload_n 0 30 rfl dX12_count_29 rfl rfl ?_
    refine a_iald (rfl) (vp_in_nI (n := t9) (by omega) (by omega)) 31 rfl dX12_count_30 ?_
    refine a_eq (st2 := [.int ((M.2.2.2.1 15) t9), .int (nI (f_th3 (M.2.2.2.1 15) t9))]) rfl rfl (congrArg (fun z9 => Value.int z9 :: [.int (nI (f_th3 (M.2.2.2.1 15) t9))]) (congrArg (M.2.2.2.1 15) (g_cl (by omega)))) rfl ?_
    refine g_sfx (pc := 39) (lv := [(3, .int (nI t9)), (2, .int (nI (f_th3 (M.2.2.2.1 15) t9))), (0, .ref (g_ad G 38)), (1, .int 1)]) (st := [.int (f_i (decide (0 ≤ ((M.2.2.2.1 15) t9)))), .int (nI (f_th3 (M.2.2.2.1 15) t9))]) (h := (g_hp G C (g_hm G M ++ ob))) (fun key => ?_) ?_
    · skip
      rcases Bool.eq_false_or_eq_true (decide (0 ≤ ((M.2.2.2.1 15) t9))) with c31_1 | c31_1
      · skip
        have dc31_1 := of_decide_eq_true c31_1
        refine a_if_ge 38 34 rfl dX12_count_31 (by decide) (fun _ => ?_) (fun hc => absurd (of_decide_eq_true c31_1) hc)
        refine a_iconst (x := 1) 39 rfl dX12_count_38 (by decide) ?_
        exact a_eq rfl (rfl) (by rw [c31_1]; rfl) rfl key
      · skip
        have dc31_1 := of_decide_eq_false c31_1
        refine a_if_ge 38 34 rfl dX12_count_31 (by decide) (fun hc => absurd hc (of_decide_eq_false c31_1)) (fun _ => ?_)
        refine a_iconst (x := 0) 35 rfl dX12_count_34 (by decide) ?_
        refine a_goto 39 dX12_count_35 (by decide) ?_
        exact a_eq rfl (rfl) (by rw [c31_1]; rfl) rfl key
    refine a_iadd 40 rfl dX12_count_39 ?_
    refine a_eq (st2 := [.int (nI ((f_th3 (M.2.2.2.1 15) t9) + Bool.toNat (decide (0 ≤ ((M.2.2.2.1 15) t9)))))]) rfl rfl (congrArg (fun z9 => Value.int z9 :: []) (f_i_add (f_th3 (M.2.2.2.1 15) t9) (decide (0 ≤ ((M.2.2.2.1 15) t9))))) rfl ?_
    refine a_istore_n (lv' := [(2, .int (nI ((f_th3 (M.2.2.2.1 15) t9) + Bool.toNat (decide (0 ≤ ((M.2.2.2.1 15) t9)))))), (3, .int (nI t9)), (0, .ref (g_ad G 38)), (1, .int 1)]) 41 rfl dX12_count_40 rfl (by decide) rfl ?_
    refine a_iinc (y := nI (t9 + 1)) (lv' := [(3, .int (nI (t9 + 1))), (2, .int (nI ((f_th3 (M.2.2.2.1 15) t9) + Bool.toNat (decide (0 ≤ ((M.2.2.2.1 15) t9)))))), (0, .ref (g_ad G 38)), (1, .int 1)]) 1 44 rfl dX12_count_41 rfl (nI_1 t9) (by decide) rfl ?_
    refine a_goto 4 dX12_count_44 (by decide) ?_
    refine a_sub (lv' := [(3, .int (nI (t9 + 1))), (2, .int (nI (f_th3 (M.2.2.2.1 15) (t9 + 1)))), (0, .ref (g_ad G 38)), (1, .int 1)]) [0, 1, 2, 3] rfl ?_
    exact k_t9 trivial
  · skip
    refine a_iload_n 0 5 rfl dX12_count_4 rfl rfl ?_
    refine a_iconst (x := 3) 6 rfl dX12_count_5 (by decide) ?_
    refine a_icmp_ge 47 9 rfl dX12_count_6 (by decide) (fun _ => ?_) (fun hc => absurd (nI_le (a := 3) (b := 3) (by omega) (by omega)) hc)
    refine a_iload_n 3 48 rfl dX12_count_47 rfl rfl ?_
    refine a_tableIn (off := 53) 101 dX12_count_48 (by decide) (by decide) (by decide) (by decide) ?_
    refine a_aload_n 2 102 rfl dX12_count_101 rfl rfl ?_
    refine a_get 0 cl_11 f_RX12_9_11 (by decide) (rfl) rfl 105 rfl dX12_count_102 ?_
    exact a_ireturn .int rfl rfl (rfl) (rfl) dX12_count_105

theorem r_cntM2 : g_Run G mX12_count 4 0 0 [.ref (g_ad G 38), .int 2] (g_hp G C (g_hm G M ++ ob)) (some (.int (nI (M.1 4)))) (g_hp G C (g_hm G M ++ ob)) := by
  refine g_Run.of (lv := [(0, .ref (g_ad G 38)), (1, .int 2)]) (by decide) (Nat.le_of_ble_eq_true rfl) rfl ?_
  refine a_iconst (x := 0) 1 rfl dX12_count_0 (by decide) ?_
  refine a_istore_n (lv' := [(2, .int 0), (0, .ref (g_ad G 38)), (1, .int 2)]) 2 rfl dX12_count_1 rfl (by decide) rfl ?_
  refine a_iconst (x := 0) 3 rfl dX12_count_2 (by decide) ?_
  refine a_istore_n (lv' := [(3, .int 0), (2, .int 0), (0, .ref (g_ad G 38)), (1, .int 2)]) 4 rfl dX12_count_3 rfl (by decide) rfl ?_
  refine a_sub (lv' := [(3, .int (nI 0)), (2, .int (nI (f_th3 (M.2.2.2.1 15) 0))), (0, .ref (g_ad G 38)), (1, .int 2)]) [0, 1, 2, 3] rfl ?_
  refine g_for (P := fun t9 => True) 3 (fun t9 => [(3, .int (nI t9)), (2, .int (nI (f_th3 (M.2.2.2.1 15) t9))), (0, .ref (g_ad G 38)), (1, .int 2)]) (fun t9 => (g_hp G C (g_hm G M ++ ob))) (trivial) (fun t9 h_t9 p_t9 k_t9 => ?_) (fun p_t9 => ?_)
  · skip
    refine a_iload_n 0 5 rfl dX12_count_4 rfl rfl ?_
    refine a_iconst (x := 3) 6 rfl dX12_count_5 (by decide) ?_
    refine a_icmp_ge 47 9 rfl dX12_count_6 (by decide) (fun hc => absurd hc (nI_ge (a := t9) (b := 3) (by omega) (by omega))) (fun _ => ?_)
    refine a_iload_n 1 10 rfl dX12_count_9 rfl rfl ?_
    refine a_iload_n 3 11 rfl dX12_count_10 rfl rfl ?_
    refine a_bipush (x := 6) 13 rfl dX12_count_11 (by decide) ?_
    refine a_icmp_ne 25 16 rfl dX12_count_13 (by decide) (fun _ => ?_) (fun hc => absurd hc ((by decide)))
    refine a_aload_n 2 26 rfl dX12_count_25 rfl rfl ?_
    refine a_get 38 cl_11 f_RX12_83_11 (by decide) (rfl) rfl 29 rfl dX12_count_26 ?_
    refine a_iload_n 0 30 rfl dX12_count_29 rfl rfl ?_
    refine a_iald (rfl) (vp_in_nI (n := t9) (by omega) (by omega)) 31 rfl dX12_count_30 ?_
    refine a_eq (st2 := [.int ((M.2.2.2.1 15) t9), .int (nI (f_th3 (M.2.2.2.1 15) t9))]) rfl rfl (congrArg (fun z9 => Value.int z9 :: [.int (nI (f_th3 (M.2.2.2.1 15) t9))]) (congrArg (M.2.2.2.1 15) (g_cl (by omega)))) rfl ?_
    refine g_sfx (pc := 39) (lv := [(3, .int (nI t9)), (2, .int (nI (f_th3 (M.2.2.2.1 15) t9))), (0, .ref (g_ad G 38)), (1, .int 2)]) (st := [.int (f_i (decide (0 ≤ ((M.2.2.2.1 15) t9)))), .int (nI (f_th3 (M.2.2.2.1 15) t9))]) (h := (g_hp G C (g_hm G M ++ ob))) (fun key => ?_) ?_
    · skip
      rcases Bool.eq_false_or_eq_true (decide (0 ≤ ((M.2.2.2.1 15) t9))) with c31_1 | c31_1
      · skip
        have dc31_1 := of_decide_eq_true c31_1
        refine a_if_ge 38 34 rfl dX12_count_31 (by decide) (fun _ => ?_) (fun hc => absurd (of_decide_eq_true c31_1) hc)
        refine a_iconst (x := 1) 39 rfl dX12_count_38 (by decide) ?_
        exact a_eq rfl (rfl) (by rw [c31_1]; rfl) rfl key
      · skip
        have dc31_1 := of_decide_eq_false c31_1
        refine a_if_ge 38 34 rfl dX12_count_31 (by decide) (fun hc => absurd hc (of_decide_eq_false c31_1)) (fun _ => ?_)
        refine a_iconst (x := 0) 35 rfl dX12_count_34 (by decide) ?_
        refine a_goto 39 dX12_count_35 (by decide) ?_
        exact a_eq rfl (rfl) (by rw [c31_1]; rfl) rfl key
    refine a_iadd 40 rfl dX12_count_39 ?_
    refine a_eq (st2 := [.int (nI ((f_th3 (M.2.2.2.1 15) t9) + Bool.toNat (decide (0 ≤ ((M.2.2.2.1 15) t9)))))]) rfl rfl (congrArg (fun z9 => Value.int z9 :: []) (f_i_add (f_th3 (M.2.2.2.1 15) t9) (decide (0 ≤ ((M.2.2.2.1 15) t9))))) rfl ?_
    refine a_istore_n (lv' := [(2, .int (nI ((f_th3 (M.2.2.2.1 15) t9) + Bool.toNat (decide (0 ≤ ((M.2.2.2.1 15) t9)))))), (3, .int (nI t9)), (0, .ref (g_ad G 38)), (1, .int 2)]) 41 rfl dX12_count_40 rfl (by decide) rfl ?_
    refine a_iinc (y := nI (t9 + 1)) (lv' := [(3, .int (nI (t9 + 1))), (2, .int (nI ((f_th3 (M.2.2.2.1 15) t9) + Bool.toNat (decide (0 ≤ ((M.2.2.2.1 15) t9)))))), (0, .ref (g_ad G 38)), (1, .int 2)]) 1 44 rfl dX12_count_41 rfl (nI_1 t9) (by decide) rfl ?_
    refine a_goto 4 dX12_count_44 (by decide) ?_
    refine a_sub (lv' := [(3, .int (nI (t9 + 1))), (2, .int (nI (f_th3 (M.2.2.2.1 15) (t9 + 1)))), (0, .ref (g_ad G 38)), (1, .int 2)]) [0, 1, 2, 3] rfl ?_
    exact k_t9 trivial
  · skip
    refine a_iload_n 0 5 rfl dX12_count_4 rfl rfl ?_
    refine a_iconst (x := 3) 6 rfl dX12_count_5 (by decide) ?_
    refine a_icmp_ge 47 9 rfl dX12_count_6 (by decide) (fun _ => ?_) (fun hc => absurd (nI_le (a := 3) (b := 3) (by omega) (by omega)) hc)
    refine a_iload_n 3 48 rfl dX12_count_47 rfl rfl ?_
    refine a_tableIn (off := 58) 106 dX12_count_48 (by decide) (by decide) (by decide) (by decide) ?_
    refine a_aload_n 2 107 rfl dX12_count_106 rfl rfl ?_
    refine a_get 12 cl_11 f_RX12_104_11 (by decide) (rfl) rfl 110 rfl dX12_count_107 ?_
    exact a_ireturn .int rfl rfl (rfl) (rfl) dX12_count_110

theorem r_cntM3 : g_Run G mX12_count 4 0 0 [.ref (g_ad G 38), .int 3] (g_hp G C (g_hm G M ++ ob)) (some (.int (nI (M.1 5)))) (g_hp G C (g_hm G M ++ ob)) := by
  refine g_Run.of (lv := [(0, .ref (g_ad G 38)), (1, .int 3)]) (by decide) (Nat.le_of_ble_eq_true rfl) rfl ?_
  refine a_iconst (x := 0) 1 rfl dX12_count_0 (by decide) ?_
  refine a_istore_n (lv' := [(2, .int 0), (0, .ref (g_ad G 38)), (1, .int 3)]) 2 rfl dX12_count_1 rfl (by decide) rfl ?_
  refine a_iconst (x := 0) 3 rfl dX12_count_2 (by decide) ?_
  refine a_istore_n (lv' := [(3, .int 0), (2, .int 0), (0, .ref (g_ad G 38)), (1, .int 3)]) 4 rfl dX12_count_3 rfl (by decide) rfl ?_
  refine a_sub (lv' := [(3, .int (nI 0)), (2, .int (nI (f_th3 (M.2.2.2.1 15) 0))), (0, .ref (g_ad G 38)), (1, .int 3)]) [0, 1, 2, 3] rfl ?_
  refine g_for (P := fun t9 => True) 3 (fun t9 => [(3, .int (nI t9)), (2, .int (nI (f_th3 (M.2.2.2.1 15) t9))), (0, .ref (g_ad G 38)), (1, .int 3)]) (fun t9 => (g_hp G C (g_hm G M ++ ob))) (trivial) (fun t9 h_t9 p_t9 k_t9 => ?_) (fun p_t9 => ?_)
  · skip
    refine a_iload_n 0 5 rfl dX12_count_4 rfl rfl ?_
    refine a_iconst (x := 3) 6 rfl dX12_count_5 (by decide) ?_
    refine a_icmp_ge 47 9 rfl dX12_count_6 (by decide) (fun hc => absurd hc (nI_ge (a := t9) (b := 3) (by omega) (by omega))) (fun _ => ?_)
    refine a_iload_n 1 10 rfl dX12_count_9 rfl rfl ?_
    refine a_iload_n 3 11 rfl dX12_count_10 rfl rfl ?_
    refine a_bipush (x := 6) 13 rfl dX12_count_11 (by decide) ?_
    refine a_icmp_ne 25 16 rfl dX12_count_13 (by decide) (fun _ => ?_) (fun hc => absurd hc ((by decide)))
    refine a_aload_n 2 26 rfl dX12_count_25 rfl rfl ?_
    refine a_get 38 cl_11 f_RX12_83_11 (by decide) (rfl) rfl 29 rfl dX12_count_26 ?_
    refine a_iload_n 0 30 rfl dX12_count_29 rfl rfl ?_
    refine a_iald (rfl) (vp_in_nI (n := t9) (by omega) (by omega)) 31 rfl dX12_count_30 ?_
    refine a_eq (st2 := [.int ((M.2.2.2.1 15) t9), .int (nI (f_th3 (M.2.2.2.1 15) t9))]) rfl rfl (congrArg (fun z9 => Value.int z9 :: [.int (nI (f_th3 (M.2.2.2.1 15) t9))]) (congrArg (M.2.2.2.1 15) (g_cl (by omega)))) rfl ?_
    refine g_sfx (pc := 39) (lv := [(3, .int (nI t9)), (2, .int (nI (f_th3 (M.2.2.2.1 15) t9))), (0, .ref (g_ad G 38)), (1, .int 3)]) (st := [.int (f_i (decide (0 ≤ ((M.2.2.2.1 15) t9)))), .int (nI (f_th3 (M.2.2.2.1 15) t9))]) (h := (g_hp G C (g_hm G M ++ ob))) (fun key => ?_) ?_
    · skip
      rcases Bool.eq_false_or_eq_true (decide (0 ≤ ((M.2.2.2.1 15) t9))) with c31_1 | c31_1
      · skip
        have dc31_1 := of_decide_eq_true c31_1
        refine a_if_ge 38 34 rfl dX12_count_31 (by decide) (fun _ => ?_) (fun hc => absurd (of_decide_eq_true c31_1) hc)
        refine a_iconst (x := 1) 39 rfl dX12_count_38 (by decide) ?_
        exact a_eq rfl (rfl) (by rw [c31_1]; rfl) rfl key
      · skip
        have dc31_1 := of_decide_eq_false c31_1
        refine a_if_ge 38 34 rfl dX12_count_31 (by decide) (fun hc => absurd hc (of_decide_eq_false c31_1)) (fun _ => ?_)
        refine a_iconst (x := 0) 35 rfl dX12_count_34 (by decide) ?_
        refine a_goto 39 dX12_count_35 (by decide) ?_
        exact a_eq rfl (rfl) (by rw [c31_1]; rfl) rfl key
    refine a_iadd 40 rfl dX12_count_39 ?_
    refine a_eq (st2 := [.int (nI ((f_th3 (M.2.2.2.1 15) t9) + Bool.toNat (decide (0 ≤ ((M.2.2.2.1 15) t9)))))]) rfl rfl (congrArg (fun z9 => Value.int z9 :: []) (f_i_add (f_th3 (M.2.2.2.1 15) t9) (decide (0 ≤ ((M.2.2.2.1 15) t9))))) rfl ?_
    refine a_istore_n (lv' := [(2, .int (nI ((f_th3 (M.2.2.2.1 15) t9) + Bool.toNat (decide (0 ≤ ((M.2.2.2.1 15) t9)))))), (3, .int (nI t9)), (0, .ref (g_ad G 38)), (1, .int 3)]) 41 rfl dX12_count_40 rfl (by decide) rfl ?_
    refine a_iinc (y := nI (t9 + 1)) (lv' := [(3, .int (nI (t9 + 1))), (2, .int (nI ((f_th3 (M.2.2.2.1 15) t9) + Bool.toNat (decide (0 ≤ ((M.2.2.2.1 15) t9)))))), (0, .ref (g_ad G 38)), (1, .int 3)]) 1 44 rfl dX12_count_41 rfl (nI_1 t9) (by decide) rfl ?_
    refine a_goto 4 dX12_count_44 (by decide) ?_
    refine a_sub (lv' := [(3, .int (nI (t9 + 1))), (2, .int (nI (f_th3 (M.2.2.2.1 15) (t9 + 1)))), (0, .ref (g_ad G 38)), (1, .int 3)]) [0, 1, 2, 3] rfl ?_
    exact k_t9 trivial
  · skip
    refine a_iload_n 0 5 rfl dX12_count_4 rfl rfl ?_
    refine a_iconst (x := 3) 6 rfl dX12_count_5 (by decide) ?_
    refine a_icmp_ge 47 9 rfl dX12_count_6 (by decide) (fun _ => ?_) (fun hc => absurd (nI_le (a := 3) (b := 3) (by omega) (by omega)) hc)
    refine a_iload_n 3 48 rfl dX12_count_47 rfl rfl ?_
    refine a_tableIn (off := 63) 111 dX12_count_48 (by decide) (by decide) (by decide) (by decide) ?_
    refine a_aload_n 2 112 rfl dX12_count_111 rfl rfl ?_
    refine a_get 13 cl_11 f_RX12_107_11 (by decide) (rfl) rfl 115 rfl dX12_count_112 ?_
    exact a_ireturn .int rfl rfl (rfl) (rfl) dX12_count_115

theorem r_cntM4 : g_Run G mX12_count 4 0 0 [.ref (g_ad G 38), .int 4] (g_hp G C (g_hm G M ++ ob)) (some (.int (nI (M.1 9)))) (g_hp G C (g_hm G M ++ ob)) := by
  refine g_Run.of (lv := [(0, .ref (g_ad G 38)), (1, .int 4)]) (by decide) (Nat.le_of_ble_eq_true rfl) rfl ?_
  refine a_iconst (x := 0) 1 rfl dX12_count_0 (by decide) ?_
  refine a_istore_n (lv' := [(2, .int 0), (0, .ref (g_ad G 38)), (1, .int 4)]) 2 rfl dX12_count_1 rfl (by decide) rfl ?_
  refine a_iconst (x := 0) 3 rfl dX12_count_2 (by decide) ?_
  refine a_istore_n (lv' := [(3, .int 0), (2, .int 0), (0, .ref (g_ad G 38)), (1, .int 4)]) 4 rfl dX12_count_3 rfl (by decide) rfl ?_
  refine a_sub (lv' := [(3, .int (nI 0)), (2, .int (nI (f_th3 (M.2.2.2.1 15) 0))), (0, .ref (g_ad G 38)), (1, .int 4)]) [0, 1, 2, 3] rfl ?_
  refine g_for (P := fun t9 => True) 3 (fun t9 => [(3, .int (nI t9)), (2, .int (nI (f_th3 (M.2.2.2.1 15) t9))), (0, .ref (g_ad G 38)), (1, .int 4)]) (fun t9 => (g_hp G C (g_hm G M ++ ob))) (trivial) (fun t9 h_t9 p_t9 k_t9 => ?_) (fun p_t9 => ?_)
  · skip
    refine a_iload_n 0 5 rfl dX12_count_4 rfl rfl ?_
    refine a_iconst (x := 3) 6 rfl dX12_count_5 (by decide) ?_
    refine a_icmp_ge 47 9 rfl dX12_count_6 (by decide) (fun hc => absurd hc (nI_ge (a := t9) (b := 3) (by omega) (by omega))) (fun _ => ?_)
    refine a_iload_n 1 10 rfl dX12_count_9 rfl rfl ?_
    refine a_iload_n 3 11 rfl dX12_count_10 rfl rfl ?_
    refine a_bipush (x := 6) 13 rfl dX12_count_11 (by decide) ?_
    refine a_icmp_ne 25 16 rfl dX12_count_13 (by decide) (fun _ => ?_) (fun hc => absurd hc ((by decide)))
    refine a_aload_n 2 26 rfl dX12_count_25 rfl rfl ?_
    refine a_get 38 cl_11 f_RX12_83_11 (by decide) (rfl) rfl 29 rfl dX12_count_26 ?_
    refine a_iload_n 0 30 rfl dX12_count_29 rfl rfl ?_
    refine a_iald (rfl) (vp_in_nI (n := t9) (by omega) (by omega)) 31 rfl dX12_count_30 ?_
    refine a_eq (st2 := [.int ((M.2.2.2.1 15) t9), .int (nI (f_th3 (M.2.2.2.1 15) t9))]) rfl rfl (congrArg (fun z9 => Value.int z9 :: [.int (nI (f_th3 (M.2.2.2.1 15) t9))]) (congrArg (M.2.2.2.1 15) (g_cl (by omega)))) rfl ?_
    refine g_sfx (pc := 39) (lv := [(3, .int (nI t9)), (2, .int (nI (f_th3 (M.2.2.2.1 15) t9))), (0, .ref (g_ad G 38)), (1, .int 4)]) (st := [.int (f_i (decide (0 ≤ ((M.2.2.2.1 15) t9)))), .int (nI (f_th3 (M.2.2.2.1 15) t9))]) (h := (g_hp G C (g_hm G M ++ ob))) (fun key => ?_) ?_
    · skip
      rcases Bool.eq_false_or_eq_true (decide (0 ≤ ((M.2.2.2.1 15) t9))) with c31_1 | c31_1
      · skip
        have dc31_1 := of_decide_eq_true c31_1
        refine a_if_ge 38 34 rfl dX12_count_31 (by decide) (fun _ => ?_) (fun hc => absurd (of_decide_eq_true c31_1) hc)
        refine a_iconst (x := 1) 39 rfl dX12_count_38 (by decide) ?_
        exact a_eq rfl (rfl) (by rw [c31_1]; rfl) rfl key
      · skip
        have dc31_1 := of_decide_eq_false c31_1
        refine a_if_ge 38 34 rfl dX12_count_31 (by decide) (fun hc => absurd hc (of_decide_eq_false c31_1)) (fun _ => ?_)
        refine a_iconst (x := 0) 35 rfl dX12_count_34 (by decide) ?_
        refine a_goto 39 dX12_count_35 (by decide) ?_
        exact a_eq rfl (rfl) (by rw [c31_1]; rfl) rfl key
    refine a_iadd 40 rfl dX12_count_39 ?_
    refine a_eq (st2 := [.int (nI ((f_th3 (M.2.2.2.1 15) t9) + Bool.toNat (decide (0 ≤ ((M.2.2.2.1 15) t9)))))]) rfl rfl (congrArg (fun z9 => Value.int z9 :: []) (f_i_add (f_th3 (M.2.2.2.1 15) t9) (decide (0 ≤ ((M.2.2.2.1 15) t9))))) rfl ?_
    refine a_istore_n (lv' := [(2, .int (nI ((f_th3 (M.2.2.2.1 15) t9) + Bool.toNat (decide (0 ≤ ((M.2.2.2.1 15) t9)))))), (3, .int (nI t9)), (0, .ref (g_ad G 38)), (1, .int 4)]) 41 rfl dX12_count_40 rfl (by decide) rfl ?_
    refine a_iinc (y := nI (t9 + 1)) (lv' := [(3, .int (nI (t9 + 1))), (2, .int (nI ((f_th3 (M.2.2.2.1 15) t9) + Bool.toNat (decide (0 ≤ ((M.2.2.2.1 15) t9)))))), (0, .ref (g_ad G 38)), (1, .int 4)]) 1 44 rfl dX12_count_41 rfl (nI_1 t9) (by decide) rfl ?_
    refine a_goto 4 dX12_count_44 (by decide) ?_
    refine a_sub (lv' := [(3, .int (nI (t9 + 1))), (2, .int (nI (f_th3 (M.2.2.2.1 15) (t9 + 1)))), (0, .ref (g_ad G 38)), (1, .int 4)]) [0, 1, 2, 3] rfl ?_
    exact k_t9 trivial
  · skip
    refine a_iload_n 0 5 rfl dX12_count_4 rfl rfl ?_
    refine a_iconst (x := 3) 6 rfl dX12_count_5 (by decide) ?_
    refine a_icmp_ge 47 9 rfl dX12_count_6 (by decide) (fun _ => ?_) (fun hc => absurd (nI_le (a := 3) (b := 3) (by omega) (by omega)) hc)
    refine a_iload_n 3 48 rfl dX12_count_47 rfl rfl ?_
    refine a_tableIn (off := 68) 116 dX12_count_48 (by decide) (by decide) (by decide) (by decide) ?_
    refine a_aload_n 2 117 rfl dX12_count_116 rfl rfl ?_
    refine a_get 26 cl_11 f_RX12_310_11 (by decide) (rfl) rfl 120 rfl dX12_count_117 ?_
    exact a_ireturn .int rfl rfl (rfl) (rfl) dX12_count_120

theorem r_cntM5 : g_Run G mX12_count 4 0 0 [.ref (g_ad G 38), .int 5] (g_hp G C (g_hm G M ++ ob)) (some (.int (nI (M.1 10)))) (g_hp G C (g_hm G M ++ ob)) := by
  refine g_Run.of (lv := [(0, .ref (g_ad G 38)), (1, .int 5)]) (by decide) (Nat.le_of_ble_eq_true rfl) rfl ?_
  refine a_iconst (x := 0) 1 rfl dX12_count_0 (by decide) ?_
  refine a_istore_n (lv' := [(2, .int 0), (0, .ref (g_ad G 38)), (1, .int 5)]) 2 rfl dX12_count_1 rfl (by decide) rfl ?_
  refine a_iconst (x := 0) 3 rfl dX12_count_2 (by decide) ?_
  refine a_istore_n (lv' := [(3, .int 0), (2, .int 0), (0, .ref (g_ad G 38)), (1, .int 5)]) 4 rfl dX12_count_3 rfl (by decide) rfl ?_
  refine a_sub (lv' := [(3, .int (nI 0)), (2, .int (nI (f_th3 (M.2.2.2.1 15) 0))), (0, .ref (g_ad G 38)), (1, .int 5)]) [0, 1, 2, 3] rfl ?_
  refine g_for (P := fun t9 => True) 3 (fun t9 => [(3, .int (nI t9)), (2, .int (nI (f_th3 (M.2.2.2.1 15) t9))), (0, .ref (g_ad G 38)), (1, .int 5)]) (fun t9 => (g_hp G C (g_hm G M ++ ob))) (trivial) (fun t9 h_t9 p_t9 k_t9 => ?_) (fun p_t9 => ?_)
  · skip
    refine a_iload_n 0 5 rfl dX12_count_4 rfl rfl ?_
    refine a_iconst (x := 3) 6 rfl dX12_count_5 (by decide) ?_
    refine a_icmp_ge 47 9 rfl dX12_count_6 (by decide) (fun hc => absurd hc (nI_ge (a := t9) (b := 3) (by omega) (by omega))) (fun _ => ?_)
    refine a_iload_n 1 10 rfl dX12_count_9 rfl rfl ?_
    refine a_iload_n 3 11 rfl dX12_count_10 rfl rfl ?_
    refine a_bipush (x := 6) 13 rfl dX12_count_11 (by decide) ?_
    refine a_icmp_ne 25 16 rfl dX12_count_13 (by decide) (fun _ => ?_) (fun hc => absurd hc ((by decide)))
    refine a_aload_n 2 26 rfl dX12_count_25 rfl rfl ?_
    refine a_get 38 cl_11 f_RX12_83_11 (by decide) (rfl) rfl 29 rfl dX12_count_26 ?_
    refine a_iload_n 0 30 rfl dX12_count_29 rfl rfl ?_
    refine a_iald (rfl) (vp_in_nI (n := t9) (by omega) (by omega)) 31 rfl dX12_count_30 ?_
    refine a_eq (st2 := [.int ((M.2.2.2.1 15) t9), .int (nI (f_th3 (M.2.2.2.1 15) t9))]) rfl rfl (congrArg (fun z9 => Value.int z9 :: [.int (nI (f_th3 (M.2.2.2.1 15) t9))]) (congrArg (M.2.2.2.1 15) (g_cl (by omega)))) rfl ?_
    refine g_sfx (pc := 39) (lv := [(3, .int (nI t9)), (2, .int (nI (f_th3 (M.2.2.2.1 15) t9))), (0, .ref (g_ad G 38)), (1, .int 5)]) (st := [.int (f_i (decide (0 ≤ ((M.2.2.2.1 15) t9)))), .int (nI (f_th3 (M.2.2.2.1 15) t9))]) (h := (g_hp G C (g_hm G M ++ ob))) (fun key => ?_) ?_
    · skip
      rcases Bool.eq_false_or_eq_true (decide (0 ≤ ((M.2.2.2.1 15) t9))) with c31_1 | c31_1
      · skip
        have dc31_1 := of_decide_eq_true c31_1
        refine a_if_ge 38 34 rfl dX12_count_31 (by decide) (fun _ => ?_) (fun hc => absurd (of_decide_eq_true c31_1) hc)
        refine a_iconst (x := 1) 39 rfl dX12_count_38 (by decide) ?_
        exact a_eq rfl (rfl) (by rw [c31_1]; rfl) rfl key
      · skip
        have dc31_1 := of_decide_eq_false c31_1
        refine a_if_ge 38 34 rfl dX12_count_31 (by decide) (fun hc => absurd hc (of_decide_eq_false c31_1)) (fun _ => ?_)
        refine a_iconst (x := 0) 35 rfl dX12_count_34 (by decide) ?_
        refine a_goto 39 dX12_count_35 (by decide) ?_
        exact a_eq rfl (rfl) (by rw [c31_1]; rfl) rfl key
    refine a_iadd 40 rfl dX12_count_39 ?_
    refine a_eq (st2 := [.int (nI ((f_th3 (M.2.2.2.1 15) t9) + Bool.toNat (decide (0 ≤ ((M.2.2.2.1 15) t9)))))]) rfl rfl (congrArg (fun z9 => Value.int z9 :: []) (f_i_add (f_th3 (M.2.2.2.1 15) t9) (decide (0 ≤ ((M.2.2.2.1 15) t9))))) rfl ?_
    refine a_istore_n (lv' := [(2, .int (nI ((f_th3 (M.2.2.2.1 15) t9) + Bool.toNat (decide (0 ≤ ((M.2.2.2.1 15) t9)))))), (3, .int (nI t9)), (0, .ref (g_ad G 38)), (1, .int 5)]) 41 rfl dX12_count_40 rfl (by decide) rfl ?_
    refine a_iinc (y := nI (t9 + 1)) (lv' := [(3, .int (nI (t9 + 1))), (2, .int (nI ((f_th3 (M.2.2.2.1 15) t9) + Bool.toNat (decide (0 ≤ ((M.2.2.2.1 15) t9)))))), (0, .ref (g_ad G 38)), (1, .int 5)]) 1 44 rfl dX12_count_41 rfl (nI_1 t9) (by decide) rfl ?_
    refine a_goto 4 dX12_count_44 (by decide) ?_
    refine a_sub (lv' := [(3, .int (nI (t9 + 1))), (2, .int (nI (f_th3 (M.2.2.2.1 15) (t9 + 1)))), (0, .ref (g_ad G 38)), (1, .int 5)]) [0, 1, 2, 3] rfl ?_
    exact k_t9 trivial
  · skip
    refine a_iload_n 0 5 rfl dX12_count_4 rfl rfl ?_
    refine a_iconst (x := 3) 6 rfl dX12_count_5 (by decide) ?_
    refine a_icmp_ge 47 9 rfl dX12_count_6 (by decide) (fun _ => ?_) (fun hc => absurd (nI_le (a := 3) (b := 3) (by omega) (by omega)) hc)
    refine a_iload_n 3 48 rfl dX12_count_47 rfl rfl ?_
    refine a_tableIn (off := 73) 121 dX12_count_48 (by decide) (by decide) (by decide) (by decide) ?_
    refine a_aload_n 2 122 rfl dX12_count_121 rfl rfl ?_
    refine a_get 27 cl_11 f_RX12_326_11 (by decide) (rfl) rfl 125 rfl dX12_count_122 ?_
    exact a_ireturn .int rfl rfl (rfl) (rfl) dX12_count_125

theorem r_cntM6 : g_Run G mX12_count 4 0 0 [.ref (g_ad G 38), .int 6] (g_hp G C (g_hm G M ++ ob)) (some (.int (nI (f_th3 (M.2.2.2.1 9) 3)))) (g_hp G C (g_hm G M ++ ob)) := by
  refine g_Run.of (lv := [(0, .ref (g_ad G 38)), (1, .int 6)]) (by decide) (Nat.le_of_ble_eq_true rfl) rfl ?_
  refine a_iconst (x := 0) 1 rfl dX12_count_0 (by decide) ?_
  refine a_istore_n (lv' := [(2, .int 0), (0, .ref (g_ad G 38)), (1, .int 6)]) 2 rfl dX12_count_1 rfl (by decide) rfl ?_
  refine a_iconst (x := 0) 3 rfl dX12_count_2 (by decide) ?_
  refine a_istore_n (lv' := [(3, .int 0), (2, .int 0), (0, .ref (g_ad G 38)), (1, .int 6)]) 4 rfl dX12_count_3 rfl (by decide) rfl ?_
  refine a_sub (lv' := [(3, .int (nI 0)), (2, .int (nI (f_th3 (M.2.2.2.1 9) 0))), (0, .ref (g_ad G 38)), (1, .int 6)]) [0, 1, 2, 3] rfl ?_
  refine g_for (P := fun t9 => True) 3 (fun t9 => [(3, .int (nI t9)), (2, .int (nI (f_th3 (M.2.2.2.1 9) t9))), (0, .ref (g_ad G 38)), (1, .int 6)]) (fun t9 => (g_hp G C (g_hm G M ++ ob))) (trivial) (fun t9 h_t9 p_t9 k_t9 => ?_) (fun p_t9 => ?_)
  · skip
    refine a_iload_n 0 5 rfl dX12_count_4 rfl rfl ?_
    refine a_iconst (x := 3) 6 rfl dX12_count_5 (by decide) ?_
    refine a_icmp_ge 47 9 rfl dX12_count_6 (by decide) (fun hc => absurd hc (nI_ge (a := t9) (b := 3) (by omega) (by omega))) (fun _ => ?_)
    refine a_iload_n 1 10 rfl dX12_count_9 rfl rfl ?_
    refine a_iload_n 3 11 rfl dX12_count_10 rfl rfl ?_
    refine a_bipush (x := 6) 13 rfl dX12_count_11 (by decide) ?_
    refine a_icmp_ne 25 16 rfl dX12_count_13 (by decide) (fun hc => absurd (rfl) hc) (fun _ => ?_)
    refine a_aload_n 2 17 rfl dX12_count_16 rfl rfl ?_
    refine a_get 30 cl_11 f_RX12_59_11 (by decide) (rfl) rfl 20 rfl dX12_count_17 ?_
    refine a_iload_n 0 21 rfl dX12_count_20 rfl rfl ?_
    refine a_iald (rfl) (vp_in_nI (n := t9) (by omega) (by omega)) 22 rfl dX12_count_21 ?_
    refine a_eq (st2 := [.int ((M.2.2.2.1 9) t9), .int (nI (f_th3 (M.2.2.2.1 9) t9))]) rfl rfl (congrArg (fun z9 => Value.int z9 :: [.int (nI (f_th3 (M.2.2.2.1 9) t9))]) (congrArg (M.2.2.2.1 9) (g_cl (by omega)))) rfl ?_
    refine a_goto 31 dX12_count_22 (by decide) ?_
    refine g_sfx (pc := 39) (lv := [(3, .int (nI t9)), (2, .int (nI (f_th3 (M.2.2.2.1 9) t9))), (0, .ref (g_ad G 38)), (1, .int 6)]) (st := [.int (f_i (decide (0 ≤ ((M.2.2.2.1 9) t9)))), .int (nI (f_th3 (M.2.2.2.1 9) t9))]) (h := (g_hp G C (g_hm G M ++ ob))) (fun key => ?_) ?_
    · skip
      rcases Bool.eq_false_or_eq_true (decide (0 ≤ ((M.2.2.2.1 9) t9))) with c31_1 | c31_1
      · skip
        have dc31_1 := of_decide_eq_true c31_1
        refine a_if_ge 38 34 rfl dX12_count_31 (by decide) (fun _ => ?_) (fun hc => absurd (of_decide_eq_true c31_1) hc)
        refine a_iconst (x := 1) 39 rfl dX12_count_38 (by decide) ?_
        exact a_eq rfl (rfl) (by rw [c31_1]; rfl) rfl key
      · skip
        have dc31_1 := of_decide_eq_false c31_1
        refine a_if_ge 38 34 rfl dX12_count_31 (by decide) (fun hc => absurd hc (of_decide_eq_false c31_1)) (fun _ => ?_)
        refine a_iconst (x := 0) 35 rfl dX12_count_34 (by decide) ?_
        refine a_goto 39 dX12_count_35 (by decide) ?_
        exact a_eq rfl (rfl) (by rw [c31_1]; rfl) rfl key
    refine a_iadd 40 rfl dX12_count_39 ?_
    refine a_eq (st2 := [.int (nI ((f_th3 (M.2.2.2.1 9) t9) + Bool.toNat (decide (0 ≤ ((M.2.2.2.1 9) t9)))))]) rfl rfl (congrArg (fun z9 => Value.int z9 :: []) (f_i_add (f_th3 (M.2.2.2.1 9) t9) (decide (0 ≤ ((M.2.2.2.1 9) t9))))) rfl ?_
    refine a_istore_n (lv' := [(2, .int (nI ((f_th3 (M.2.2.2.1 9) t9) + Bool.toNat (decide (0 ≤ ((M.2.2.2.1 9) t9)))))), (3, .int (nI t9)), (0, .ref (g_ad G 38)), (1, .int 6)]) 41 rfl dX12_count_40 rfl (by decide) rfl ?_
    refine a_iinc (y := nI (t9 + 1)) (lv' := [(3, .int (nI (t9 + 1))), (2, .int (nI ((f_th3 (M.2.2.2.1 9) t9) + Bool.toNat (decide (0 ≤ ((M.2.2.2.1 9) t9)))))), (0, .ref (g_ad G 38)), (1, .int 6)]) 1 44 rfl dX12_count_41 rfl (nI_1 t9) (by decide) rfl ?_
    refine a_goto 4 dX12_count_44 (by decide) ?_
    refine a_sub (lv' := [(3, .int (nI (t9 + 1))), (2, .int (nI (f_th3 (M.2.2.2.1 9) (t9 + 1)))), (0, .ref (g_ad G 38)), (1, .int 6)]) [0, 1, 2, 3] rfl ?_
    exact k_t9 trivial
  · skip
    refine a_iload_n 0 5 rfl dX12_count_4 rfl rfl ?_
    refine a_iconst (x := 3) 6 rfl dX12_count_5 (by decide) ?_
    refine a_icmp_ge 47 9 rfl dX12_count_6 (by decide) (fun _ => ?_) (fun hc => absurd (nI_le (a := 3) (b := 3) (by omega) (by omega)) hc)
    refine a_iload_n 3 48 rfl dX12_count_47 rfl rfl ?_
    refine a_tableIn (off := 78) 126 dX12_count_48 (by decide) (by decide) (by decide) (by decide) ?_
    refine a_iload_n 1 127 rfl dX12_count_126 rfl rfl ?_
    exact a_ireturn .int rfl rfl (rfl) (rfl) dX12_count_127

theorem r_cntM7 : g_Run G mX12_count 4 0 0 [.ref (g_ad G 38), .int 7] (g_hp G C (g_hm G M ++ ob)) (some (.int (nI (f_th3 (M.2.2.2.1 15) 3)))) (g_hp G C (g_hm G M ++ ob)) := by
  refine g_Run.of (lv := [(0, .ref (g_ad G 38)), (1, .int 7)]) (by decide) (Nat.le_of_ble_eq_true rfl) rfl ?_
  refine a_iconst (x := 0) 1 rfl dX12_count_0 (by decide) ?_
  refine a_istore_n (lv' := [(2, .int 0), (0, .ref (g_ad G 38)), (1, .int 7)]) 2 rfl dX12_count_1 rfl (by decide) rfl ?_
  refine a_iconst (x := 0) 3 rfl dX12_count_2 (by decide) ?_
  refine a_istore_n (lv' := [(3, .int 0), (2, .int 0), (0, .ref (g_ad G 38)), (1, .int 7)]) 4 rfl dX12_count_3 rfl (by decide) rfl ?_
  refine a_sub (lv' := [(3, .int (nI 0)), (2, .int (nI (f_th3 (M.2.2.2.1 15) 0))), (0, .ref (g_ad G 38)), (1, .int 7)]) [0, 1, 2, 3] rfl ?_
  refine g_for (P := fun t9 => True) 3 (fun t9 => [(3, .int (nI t9)), (2, .int (nI (f_th3 (M.2.2.2.1 15) t9))), (0, .ref (g_ad G 38)), (1, .int 7)]) (fun t9 => (g_hp G C (g_hm G M ++ ob))) (trivial) (fun t9 h_t9 p_t9 k_t9 => ?_) (fun p_t9 => ?_)
  · skip
    refine a_iload_n 0 5 rfl dX12_count_4 rfl rfl ?_
    refine a_iconst (x := 3) 6 rfl dX12_count_5 (by decide) ?_
    refine a_icmp_ge 47 9 rfl dX12_count_6 (by decide) (fun hc => absurd hc (nI_ge (a := t9) (b := 3) (by omega) (by omega))) (fun _ => ?_)
    refine a_iload_n 1 10 rfl dX12_count_9 rfl rfl ?_
    refine a_iload_n 3 11 rfl dX12_count_10 rfl rfl ?_
    refine a_bipush (x := 6) 13 rfl dX12_count_11 (by decide) ?_
    refine a_icmp_ne 25 16 rfl dX12_count_13 (by decide) (fun _ => ?_) (fun hc => absurd hc ((by decide)))
    refine a_aload_n 2 26 rfl dX12_count_25 rfl rfl ?_
    refine a_get 38 cl_11 f_RX12_83_11 (by decide) (rfl) rfl 29 rfl dX12_count_26 ?_
    refine a_iload_n 0 30 rfl dX12_count_29 rfl rfl ?_
    refine a_iald (rfl) (vp_in_nI (n := t9) (by omega) (by omega)) 31 rfl dX12_count_30 ?_
    refine a_eq (st2 := [.int ((M.2.2.2.1 15) t9), .int (nI (f_th3 (M.2.2.2.1 15) t9))]) rfl rfl (congrArg (fun z9 => Value.int z9 :: [.int (nI (f_th3 (M.2.2.2.1 15) t9))]) (congrArg (M.2.2.2.1 15) (g_cl (by omega)))) rfl ?_
    refine g_sfx (pc := 39) (lv := [(3, .int (nI t9)), (2, .int (nI (f_th3 (M.2.2.2.1 15) t9))), (0, .ref (g_ad G 38)), (1, .int 7)]) (st := [.int (f_i (decide (0 ≤ ((M.2.2.2.1 15) t9)))), .int (nI (f_th3 (M.2.2.2.1 15) t9))]) (h := (g_hp G C (g_hm G M ++ ob))) (fun key => ?_) ?_
    · skip
      rcases Bool.eq_false_or_eq_true (decide (0 ≤ ((M.2.2.2.1 15) t9))) with c31_1 | c31_1
      · skip
        have dc31_1 := of_decide_eq_true c31_1
        refine a_if_ge 38 34 rfl dX12_count_31 (by decide) (fun _ => ?_) (fun hc => absurd (of_decide_eq_true c31_1) hc)
        refine a_iconst (x := 1) 39 rfl dX12_count_38 (by decide) ?_
        exact a_eq rfl (rfl) (by rw [c31_1]; rfl) rfl key
      · skip
        have dc31_1 := of_decide_eq_false c31_1
        refine a_if_ge 38 34 rfl dX12_count_31 (by decide) (fun hc => absurd hc (of_decide_eq_false c31_1)) (fun _ => ?_)
        refine a_iconst (x := 0) 35 rfl dX12_count_34 (by decide) ?_
        refine a_goto 39 dX12_count_35 (by decide) ?_
        exact a_eq rfl (rfl) (by rw [c31_1]; rfl) rfl key
    refine a_iadd 40 rfl dX12_count_39 ?_
    refine a_eq (st2 := [.int (nI ((f_th3 (M.2.2.2.1 15) t9) + Bool.toNat (decide (0 ≤ ((M.2.2.2.1 15) t9)))))]) rfl rfl (congrArg (fun z9 => Value.int z9 :: []) (f_i_add (f_th3 (M.2.2.2.1 15) t9) (decide (0 ≤ ((M.2.2.2.1 15) t9))))) rfl ?_
    refine a_istore_n (lv' := [(2, .int (nI ((f_th3 (M.2.2.2.1 15) t9) + Bool.toNat (decide (0 ≤ ((M.2.2.2.1 15) t9)))))), (3, .int (nI t9)), (0, .ref (g_ad G 38)), (1, .int 7)]) 41 rfl dX12_count_40 rfl (by decide) rfl ?_
    refine a_iinc (y := nI (t9 + 1)) (lv' := [(3, .int (nI (t9 + 1))), (2, .int (nI ((f_th3 (M.2.2.2.1 15) t9) + Bool.toNat (decide (0 ≤ ((M.2.2.2.1 15) t9)))))), (0, .ref (g_ad G 38)), (1, .int 7)]) 1 44 rfl dX12_count_41 rfl (nI_1 t9) (by decide) rfl ?_
    refine a_goto 4 dX12_count_44 (by decide) ?_
    refine a_sub (lv' := [(3, .int (nI (t9 + 1))), (2, .int (nI (f_th3 (M.2.2.2.1 15) (t9 + 1)))), (0, .ref (g_ad G 38)), (1, .int 7)]) [0, 1, 2, 3] rfl ?_
    exact k_t9 trivial
  · skip
    refine a_iload_n 0 5 rfl dX12_count_4 rfl rfl ?_
    refine a_iconst (x := 3) 6 rfl dX12_count_5 (by decide) ?_
    refine a_icmp_ge 47 9 rfl dX12_count_6 (by decide) (fun _ => ?_) (fun hc => absurd (nI_le (a := 3) (b := 3) (by omega) (by omega)) hc)
    refine a_iload_n 3 48 rfl dX12_count_47 rfl rfl ?_
    refine a_tableIn (off := 78) 126 dX12_count_48 (by decide) (by decide) (by decide) (by decide) ?_
    refine a_iload_n 1 127 rfl dX12_count_126 rfl rfl ?_
    exact a_ireturn .int rfl rfl (rfl) (rfl) dX12_count_127

theorem r_cntM_bad (hy : y.toInt < 0 ∨ 7 < y.toInt) : g_Run G mX12_count 4 0 0 [.ref (g_ad G 38), .int y] (g_hp G C (g_hm G M ++ ob)) (some (.int (-1))) (g_hp G C (g_hm G M ++ ob)) := by
  have h6 : ¬ y = 6 := fun z9 => by rw [z9] at hy; exact absurd hy (by decide)
  refine g_Run.of (lv := [(0, .ref (g_ad G 38)), (1, .int y)]) (by decide) (Nat.le_of_ble_eq_true rfl) rfl ?_
  refine a_iconst (x := 0) 1 rfl dX12_count_0 (by decide) ?_
  refine a_istore_n (lv' := [(2, .int 0), (0, .ref (g_ad G 38)), (1, .int y)]) 2 rfl dX12_count_1 rfl (by decide) rfl ?_
  refine a_iconst (x := 0) 3 rfl dX12_count_2 (by decide) ?_
  refine a_istore_n (lv' := [(3, .int 0), (2, .int 0), (0, .ref (g_ad G 38)), (1, .int y)]) 4 rfl dX12_count_3 rfl (by decide) rfl ?_
  refine a_sub (lv' := [(3, .int (nI 0)), (2, .int (nI (f_th3 (M.2.2.2.1 15) 0))), (0, .ref (g_ad G 38)), (1, .int y)]) [0, 1, 2, 3] rfl ?_
  refine g_for (P := fun t9 => True) 3 (fun t9 => [(3, .int (nI t9)), (2, .int (nI (f_th3 (M.2.2.2.1 15) t9))), (0, .ref (g_ad G 38)), (1, .int y)]) (fun t9 => (g_hp G C (g_hm G M ++ ob))) (trivial) (fun t9 h_t9 p_t9 k_t9 => ?_) (fun p_t9 => ?_)
  · skip
    refine a_iload_n 0 5 rfl dX12_count_4 rfl rfl ?_
    refine a_iconst (x := 3) 6 rfl dX12_count_5 (by decide) ?_
    refine a_icmp_ge 47 9 rfl dX12_count_6 (by decide) (fun hc => absurd hc (nI_ge (a := t9) (b := 3) (by omega) (by omega))) (fun _ => ?_)
    refine a_iload_n 1 10 rfl dX12_count_9 rfl rfl ?_
    refine a_iload_n 3 11 rfl dX12_count_10 rfl rfl ?_
    refine a_bipush (x := 6) 13 rfl dX12_count_11 (by decide) ?_
    refine a_icmp_ne 25 16 rfl dX12_count_13 (by decide) (fun _ => ?_) (fun hc => absurd hc (h6))
    refine a_aload_n 2 26 rfl dX12_count_25 rfl rfl ?_
    refine a_get 38 cl_11 f_RX12_83_11 (by decide) (rfl) rfl 29 rfl dX12_count_26 ?_
    refine a_iload_n 0 30 rfl dX12_count_29 rfl rfl ?_
    refine a_iald (rfl) (vp_in_nI (n := t9) (by omega) (by omega)) 31 rfl dX12_count_30 ?_
    refine a_eq (st2 := [.int ((M.2.2.2.1 15) t9), .int (nI (f_th3 (M.2.2.2.1 15) t9))]) rfl rfl (congrArg (fun z9 => Value.int z9 :: [.int (nI (f_th3 (M.2.2.2.1 15) t9))]) (congrArg (M.2.2.2.1 15) (g_cl (by omega)))) rfl ?_
    refine g_sfx (pc := 39) (lv := [(3, .int (nI t9)), (2, .int (nI (f_th3 (M.2.2.2.1 15) t9))), (0, .ref (g_ad G 38)), (1, .int y)]) (st := [.int (f_i (decide (0 ≤ ((M.2.2.2.1 15) t9)))), .int (nI (f_th3 (M.2.2.2.1 15) t9))]) (h := (g_hp G C (g_hm G M ++ ob))) (fun key => ?_) ?_
    · skip
      rcases Bool.eq_false_or_eq_true (decide (0 ≤ ((M.2.2.2.1 15) t9))) with c31_1 | c31_1
      · skip
        have dc31_1 := of_decide_eq_true c31_1
        refine a_if_ge 38 34 rfl dX12_count_31 (by decide) (fun _ => ?_) (fun hc => absurd (of_decide_eq_true c31_1) hc)
        refine a_iconst (x := 1) 39 rfl dX12_count_38 (by decide) ?_
        exact a_eq rfl (rfl) (by rw [c31_1]; rfl) rfl key
      · skip
        have dc31_1 := of_decide_eq_false c31_1
        refine a_if_ge 38 34 rfl dX12_count_31 (by decide) (fun hc => absurd hc (of_decide_eq_false c31_1)) (fun _ => ?_)
        refine a_iconst (x := 0) 35 rfl dX12_count_34 (by decide) ?_
        refine a_goto 39 dX12_count_35 (by decide) ?_
        exact a_eq rfl (rfl) (by rw [c31_1]; rfl) rfl key
    refine a_iadd 40 rfl dX12_count_39 ?_
    refine a_eq (st2 := [.int (nI ((f_th3 (M.2.2.2.1 15) t9) + Bool.toNat (decide (0 ≤ ((M.2.2.2.1 15) t9)))))]) rfl rfl (congrArg (fun z9 => Value.int z9 :: []) (f_i_add (f_th3 (M.2.2.2.1 15) t9) (decide (0 ≤ ((M.2.2.2.1 15) t9))))) rfl ?_
    refine a_istore_n (lv' := [(2, .int (nI ((f_th3 (M.2.2.2.1 15) t9) + Bool.toNat (decide (0 ≤ ((M.2.2.2.1 15) t9)))))), (3, .int (nI t9)), (0, .ref (g_ad G 38)), (1, .int y)]) 41 rfl dX12_count_40 rfl (by decide) rfl ?_
    refine a_iinc (y := nI (t9 + 1)) (lv' := [(3, .int (nI (t9 + 1))), (2, .int (nI ((f_th3 (M.2.2.2.1 15) t9) + Bool.toNat (decide (0 ≤ ((M.2.2.2.1 15) t9)))))), (0, .ref (g_ad G 38)), (1, .int y)]) 1 44 rfl dX12_count_41 rfl (nI_1 t9) (by decide) rfl ?_
    refine a_goto 4 dX12_count_44 (by decide) ?_
    refine a_sub (lv' := [(3, .int (nI (t9 + 1))), (2, .int (nI (f_th3 (M.2.2.2.1 15) (t9 + 1)))), (0, .ref (g_ad G 38)), (1, .int y)]) [0, 1, 2, 3] rfl ?_
    exact k_t9 trivial
  · skip
    refine a_iload_n 0 5 rfl dX12_count_4 rfl rfl ?_
    refine a_iconst (x := 3) 6 rfl dX12_count_5 (by decide) ?_
    refine a_icmp_ge 47 9 rfl dX12_count_6 (by decide) (fun _ => ?_) (fun hc => absurd (nI_le (a := 3) (b := 3) (by omega) (by omega)) hc)
    refine a_iload_n 3 48 rfl dX12_count_47 rfl rfl ?_
    refine a_tableOut 128 dX12_count_48 (hy) (by decide) ?_
    refine a_iconst (x := (-1)) 129 rfl dX12_count_128 (by decide) ?_
    exact a_ireturn .int rfl rfl (rfl) (rfl) dX12_count_129
theorem r_feedM_bad (hy : ¬ ((32 : Int32) ≤ y ∧ y ≤ 126)) : g_Run G mX12_feed 4 0 0 [.ref (g_ad G 38), .int y] (g_hp G C (g_hm G M ++ ob)) (some (.int (-1))) (g_hp G C (g_hm G M ++ ob)) := by
  refine g_Run.of (lv := [(0, .ref (g_ad G 38)), (1, .int y)]) (by decide) (Nat.le_of_ble_eq_true rfl) rfl ?_
  refine a_iload_n 1 1 rfl dX12_feed_0 rfl rfl ?_
  refine a_i2l 2 rfl dX12_feed_1 ?_
  refine a_ldc2 q_1546 5 rfl dX12_feed_2 ?_
  refine a_ldc2 q_1547 8 rfl dX12_feed_5 ?_
  refine a_callS (as := [.long y.toInt64, .long 32, .long 126]) (rest := []) (st2 := [.int (f_i (decide ((32 : Int32) ≤ y ∧ y ≤ 126)))]) (u1 := 0) (v1 := 0) (u2 := 0) (v2 := 0) (r_isInB (y := y) (a := 32) (b := 126) rfl rfl) oX12_isIn q_1242 q_1243 rfl (by omega) (by decide) rfl (Nat.le_of_ble_eq_true rfl) 11 rfl dX12_feed_8 rfl ?_
  refine a_if_ne 16 14 rfl dX12_feed_11 (by decide) (fun hc => absurd (f_i_F (decide_eq_false hy)) hc) (fun _ => ?_)
  refine a_iconst (x := (-1)) 15 rfl dX12_feed_14 (by decide) ?_
  exact a_ireturn .int rfl rfl (rfl) (rfl) dX12_feed_15
theorem r_feedM_full (hy : (32 : Int32) ≤ y ∧ y ≤ 126) (hf : M.1 9 = 80) : g_Run G mX12_feed 4 0 0 [.ref (g_ad G 38), .int y] (g_hp G C (g_hm G M ++ ob)) (some (.int (-3))) (g_hp G C (g_hm G M ++ ob)) := by
  refine g_Run.of (lv := [(0, .ref (g_ad G 38)), (1, .int y)]) (by decide) (Nat.le_of_ble_eq_true rfl) rfl ?_
  refine a_iload_n 1 1 rfl dX12_feed_0 rfl rfl ?_
  refine a_i2l 2 rfl dX12_feed_1 ?_
  refine a_ldc2 q_1546 5 rfl dX12_feed_2 ?_
  refine a_ldc2 q_1547 8 rfl dX12_feed_5 ?_
  refine a_callS (as := [.long y.toInt64, .long 32, .long 126]) (rest := []) (st2 := [.int (f_i (decide ((32 : Int32) ≤ y ∧ y ≤ 126)))]) (u1 := 0) (v1 := 0) (u2 := 0) (v2 := 0) (r_isInB (y := y) (a := 32) (b := 126) rfl rfl) oX12_isIn q_1242 q_1243 rfl (by omega) (by decide) rfl (Nat.le_of_ble_eq_true rfl) 11 rfl dX12_feed_8 rfl ?_
  refine a_if_ne 16 14 rfl dX12_feed_11 (by decide) (fun _ => ?_) (fun hc => absurd hc (f_i_T (decide_eq_true hy)))
  refine a_aload_n 0 17 rfl dX12_feed_16 rfl rfl ?_
  refine a_get 26 cl_11 f_RX12_310_11 (by decide) (rfl) rfl 20 rfl dX12_feed_17 ?_
  refine a_bipush (x := 80) 22 rfl dX12_feed_20 (by decide) ?_
  refine a_icmp_ne 28 25 rfl dX12_feed_22 (by decide) (fun hc => absurd (congrArg nI (by omega)) hc) (fun _ => ?_)
  refine a_bipush (x := (-3)) 27 rfl dX12_feed_25 (by decide) ?_
  exact a_ireturn .int rfl rfl (rfl) (rfl) dX12_feed_27
theorem r_feedM (hy : (32 : Int32) ≤ y ∧ y ≤ 126) (hf : M.1 9 < 80) : g_Run G mX12_feed 4 0 0 [.ref (g_ad G 38), .int y] (g_hp G C (g_hm G M ++ ob)) (some (.int (nI (M.1 9 + 1)))) (g_hp G C (g_hm G (f_mn (f_mI M 7 (upd (M.2.2.2.1 7) (M.1 9) y)) 9 (M.1 9 + 1)) ++ ob)) := by
  have c0 : (nI (M.1 9)).toNatClampNeg = M.1 9 := g_cl (by omega)
  refine g_Run.of (lv := [(0, .ref (g_ad G 38)), (1, .int y)]) (by decide) (Nat.le_of_ble_eq_true rfl) rfl ?_
  refine a_iload_n 1 1 rfl dX12_feed_0 rfl rfl ?_
  refine a_i2l 2 rfl dX12_feed_1 ?_
  refine a_ldc2 q_1546 5 rfl dX12_feed_2 ?_
  refine a_ldc2 q_1547 8 rfl dX12_feed_5 ?_
  refine a_callS (as := [.long y.toInt64, .long 32, .long 126]) (rest := []) (st2 := [.int (f_i (decide ((32 : Int32) ≤ y ∧ y ≤ 126)))]) (u1 := 0) (v1 := 0) (u2 := 0) (v2 := 0) (r_isInB (y := y) (a := 32) (b := 126) rfl rfl) oX12_isIn q_1242 q_1243 rfl (by omega) (by decide) rfl (Nat.le_of_ble_eq_true rfl) 11 rfl dX12_feed_8 rfl ?_
  refine a_if_ne 16 14 rfl dX12_feed_11 (by decide) (fun _ => ?_) (fun hc => absurd hc (f_i_T (decide_eq_true hy)))
  refine a_aload_n 0 17 rfl dX12_feed_16 rfl rfl ?_
  refine a_get 26 cl_11 f_RX12_310_11 (by decide) (rfl) rfl 20 rfl dX12_feed_17 ?_
  refine a_bipush (x := 80) 22 rfl dX12_feed_20 (by decide) ?_
  refine a_icmp_ne 28 25 rfl dX12_feed_22 (by decide) (fun _ => ?_) (fun hc => absurd hc (fun z9 => absurd (nI_inj9 (a := (M.1 9)) (b := 80) (by omega) (by omega) z9) (by omega)))
  refine a_aload_n 0 29 rfl dX12_feed_28 rfl rfl ?_
  refine a_get 24 cl_11 f_RX12_53_11 (by decide) (rfl) rfl 32 rfl dX12_feed_29 ?_
  refine a_aload_n 0 33 rfl dX12_feed_32 rfl rfl ?_
  refine a_get 26 cl_11 f_RX12_310_11 (by decide) (rfl) rfl 36 rfl dX12_feed_33 ?_
  refine a_iload_n 1 37 rfl dX12_feed_36 rfl rfl ?_
  refine a_iast (rfl) (vp_in_nI (n := (M.1 9)) (by omega) (by omega)) 38 rfl dX12_feed_37 ?_
  refine a_eq (h2 := g_hp G C (g_hm G (f_mI M 7 (upd (M.2.2.2.1 7) (M.1 9) y)) ++ ob)) rfl rfl rfl (by show (((g_hp G C (g_hm G M ++ ob)).set 49 (c_I G 80 (upd (M.2.2.2.1 7) (nI (M.1 9)).toNatClampNeg y))) : List va_E) = _; rw [c0]; rfl) ?_
  refine a_aload_n 0 39 rfl dX12_feed_38 rfl rfl ?_
  refine a_dup 40 rfl dX12_feed_39 rfl ?_
  refine a_get 26 cl_11 f_RX12_310_11 (by decide) (rfl) rfl 43 rfl dX12_feed_40 ?_
  refine a_iconst (x := 1) 44 rfl dX12_feed_43 (by decide) ?_
  refine a_iadd 45 rfl dX12_feed_44 ?_
  refine a_eq (st2 := [.int (nI ((M.1 9) + 1)), .ref (g_ad G 38)]) rfl rfl (congrArg (fun z9 => Value.int z9 :: [.ref (g_ad G 38)]) (nI_add (M.1 9) 1)) rfl ?_
  refine a_put (fs' := [.int (nI (M.1 0)), .int (nI (M.1 1)), .int (nI (M.1 2)), .int (nI (M.1 3)), .ref (g_ad G 39), .ref (g_ad G 40), .ref (g_ad G 41), .ref (g_ad G 42), .ref (g_ad G 43), .ref (g_ad G 44), .int (M.2.1 0), .ref (g_ad G 45), .int (nI (M.1 4)), .int (nI (M.1 5)), .int (M.2.1 1), .int (M.2.1 2), .long (M.2.2.1 0), .ref (g_ad G 46), .ref (g_ad G 47), .ref (g_ad G 48), .int (nI (M.1 6)), .long (M.2.2.1 1), .int (nI (M.1 7)), .int (nI (M.1 8)), .ref (g_ad G 49), .ref (g_ad G 50), .int (nI ((M.1 9) + 1)), .int (nI (M.1 10)), .int (nI (M.1 11)), .long (M.2.2.1 2), .ref (g_ad G 51), .ref (g_ad G 52), .ref (g_ad G 53), .ref (g_ad G 54), .ref (g_ad G 55), .ref (g_ad G 56), .ref (g_ad G 57), .ref (g_ad G 58), .ref (g_ad G 59), .ref (g_ad G 60), .ref (g_ad G 61), .ref (g_ad G 62), .int (nI (M.1 12))]) 26 cl_11 f_RX12_310_11 (by decide) (rfl) rfl rfl rfl (Nat.le_of_ble_eq_true rfl) rfl 48 rfl dX12_feed_45 ?_
  refine a_eq (h2 := g_hp G C (g_hm G (f_mn (f_mI M 7 (upd (M.2.2.2.1 7) (M.1 9) y)) 9 (M.1 9 + 1)) ++ ob)) rfl rfl rfl (rfl) ?_
  refine a_aload_n 0 49 rfl dX12_feed_48 rfl rfl ?_
  refine a_get 26 cl_11 f_RX12_310_11 (by decide) (rfl) rfl 52 rfl dX12_feed_49 ?_
  exact a_ireturn .int rfl rfl (rfl) (rfl) dX12_feed_52
theorem r_wipeM : g_Run G mX12_wipe 4 0 0 [.ref (g_ad G 38)] (g_hp G C (g_hm G M ++ ob)) (some (.int (nI (M.1 9)))) (g_hp G C (g_hm G (f_mn M 9 0) ++ ob)) := by
  refine g_Run.of (lv := [(0, .ref (g_ad G 38))]) (by decide) (Nat.le_of_ble_eq_true rfl) rfl ?_
  refine a_aload_n 0 1 rfl dX12_wipe_0 rfl rfl ?_
  refine a_get 26 cl_11 f_RX12_310_11 (by decide) (rfl) rfl 4 rfl dX12_wipe_1 ?_
  refine a_istore_n (lv' := [(1, .int (nI (M.1 9))), (0, .ref (g_ad G 38))]) 5 rfl dX12_wipe_4 rfl (by decide) rfl ?_
  refine a_aload_n 1 6 rfl dX12_wipe_5 rfl rfl ?_
  refine a_iconst (x := 0) 7 rfl dX12_wipe_6 (by decide) ?_
  refine a_put (fs' := [.int (nI (M.1 0)), .int (nI (M.1 1)), .int (nI (M.1 2)), .int (nI (M.1 3)), .ref (g_ad G 39), .ref (g_ad G 40), .ref (g_ad G 41), .ref (g_ad G 42), .ref (g_ad G 43), .ref (g_ad G 44), .int (M.2.1 0), .ref (g_ad G 45), .int (nI (M.1 4)), .int (nI (M.1 5)), .int (M.2.1 1), .int (M.2.1 2), .long (M.2.2.1 0), .ref (g_ad G 46), .ref (g_ad G 47), .ref (g_ad G 48), .int (nI (M.1 6)), .long (M.2.2.1 1), .int (nI (M.1 7)), .int (nI (M.1 8)), .ref (g_ad G 49), .ref (g_ad G 50), .int 0, .int (nI (M.1 10)), .int (nI (M.1 11)), .long (M.2.2.1 2), .ref (g_ad G 51), .ref (g_ad G 52), .ref (g_ad G 53), .ref (g_ad G 54), .ref (g_ad G 55), .ref (g_ad G 56), .ref (g_ad G 57), .ref (g_ad G 58), .ref (g_ad G 59), .ref (g_ad G 60), .ref (g_ad G 61), .ref (g_ad G 62), .int (nI (M.1 12))]) 26 cl_11 f_RX12_310_11 (by decide) (rfl) rfl rfl rfl (Nat.le_of_ble_eq_true rfl) rfl 10 rfl dX12_wipe_7 ?_
  refine a_eq (h2 := g_hp G C (g_hm G (f_mn M 9 0) ++ ob)) rfl rfl rfl (rfl) ?_
  refine a_iload_n 0 11 rfl dX12_wipe_10 rfl rfl ?_
  exact a_ireturn .int rfl rfl (rfl) (rfl) dX12_wipe_11
theorem r_papM (hj : j < M.1 10) (hw : M.1 10 ≤ 500) : g_Run G mX12_paper 4 0 0 [.ref (g_ad G 38), .int (nI j)] (g_hp G C (g_hm G M ++ ob)) (some (.int (M.2.2.2.1 8 j))) (g_hp G C (g_hm G M ++ ob)) := by
  have w := r_isInI (G := G) (y := nI j) (a := 0) (b := nI (M.1 10) - 1) (h := g_hp G C (g_hm G M ++ ob)) (a9 := 0) rfl rfl
  rw [if_pos ((f_isF (by omega)).mpr (vp_in_nI hj (by omega)))] at w
  have hcl : (nI j).toNatClampNeg = j := g_cl (by omega)
  refine g_Run.of (lv := [(0, .ref (g_ad G 38)), (1, .int (nI j))]) (by decide) (Nat.le_of_ble_eq_true rfl) rfl ?_
  refine a_iload_n 1 1 rfl dX12_paper_0 rfl rfl ?_
  refine a_i2l 2 rfl dX12_paper_1 ?_
  refine a_lconst (x := 0) 3 rfl dX12_paper_2 (by decide) ?_
  refine a_aload_n 0 4 rfl dX12_paper_3 rfl rfl ?_
  refine a_get 27 cl_11 f_RX12_326_11 (by decide) (rfl) rfl 7 rfl dX12_paper_4 ?_
  refine a_iconst (x := 1) 8 rfl dX12_paper_7 (by decide) ?_
  refine a_isub 9 rfl dX12_paper_8 ?_
  refine a_i2l 10 rfl dX12_paper_9 ?_
  refine a_callS (as := [.long ((nI j).toInt64), .long 0, .long (((nI (M.1 10)) - 1).toInt64)]) (rest := []) (st2 := [.int 1]) (u1 := 0) (v1 := 0) (u2 := 0) (v2 := 0) (w) oX12_isIn q_1242 q_1243 rfl (by omega) (by decide) rfl (Nat.le_of_ble_eq_true rfl) 13 rfl dX12_paper_10 rfl ?_
  refine a_if_eq 25 16 rfl dX12_paper_13 (by decide) (fun hc => absurd hc ((by decide))) (fun _ => ?_)
  refine a_aload_n 0 17 rfl dX12_paper_16 rfl rfl ?_
  refine a_get 25 cl_11 f_RX12_56_11 (by decide) (rfl) rfl 20 rfl dX12_paper_17 ?_
  refine a_iload_n 1 21 rfl dX12_paper_20 rfl rfl ?_
  refine a_iald (rfl) (vp_in_nI (by omega) (by omega)) 22 rfl dX12_paper_21 ?_
  refine a_goto 27 dX12_paper_22 (by decide) ?_
  exact a_ireturn .int rfl rfl ((by rw [hcl])) (rfl) dX12_paper_27
theorem r_papM_out (hj : ¬ vp_in y (M.1 10)) (hw : M.1 10 ≤ 500) : g_Run G mX12_paper 4 0 0 [.ref (g_ad G 38), .int y] (g_hp G C (g_hm G M ++ ob)) (some (.int (-2))) (g_hp G C (g_hm G M ++ ob)) := by
  have w := r_isInI (G := G) (y := y) (a := 0) (b := nI (M.1 10) - 1) (h := g_hp G C (g_hm G M ++ ob)) (a9 := 0) rfl rfl
  rw [if_neg (fun z => hj ((f_isF (by omega)).mp z))] at w
  refine g_Run.of (lv := [(0, .ref (g_ad G 38)), (1, .int y)]) (by decide) (Nat.le_of_ble_eq_true rfl) rfl ?_
  refine a_iload_n 1 1 rfl dX12_paper_0 rfl rfl ?_
  refine a_i2l 2 rfl dX12_paper_1 ?_
  refine a_lconst (x := 0) 3 rfl dX12_paper_2 (by decide) ?_
  refine a_aload_n 0 4 rfl dX12_paper_3 rfl rfl ?_
  refine a_get 27 cl_11 f_RX12_326_11 (by decide) (rfl) rfl 7 rfl dX12_paper_4 ?_
  refine a_iconst (x := 1) 8 rfl dX12_paper_7 (by decide) ?_
  refine a_isub 9 rfl dX12_paper_8 ?_
  refine a_i2l 10 rfl dX12_paper_9 ?_
  refine a_callS (as := [.long y.toInt64, .long 0, .long (((nI (M.1 10)) - 1).toInt64)]) (rest := []) (st2 := [.int 0]) (u1 := 0) (v1 := 0) (u2 := 0) (v2 := 0) (w) oX12_isIn q_1242 q_1243 rfl (by omega) (by decide) rfl (Nat.le_of_ble_eq_true rfl) 13 rfl dX12_paper_10 rfl ?_
  refine a_if_eq 25 16 rfl dX12_paper_13 (by decide) (fun _ => ?_) (fun hc => absurd (rfl) hc)
  refine a_bipush (x := (-2)) 27 rfl dX12_paper_25 (by decide) ?_
  exact a_ireturn .int rfl rfl (rfl) (rfl) dX12_paper_27
end MC1
