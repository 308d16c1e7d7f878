/-! The model's least ones -/
def f_cn (c : Nat → Bool) : Nat → Nat
  | 0 => 0
  | s + 1 => cond (c s) (f_cn c s + 1) (f_cn c s)
def f_oR (c : Nat → Bool) (O : Nat → Int32) : Nat → Nat → Int32
  | 0 => O
  | s + 1 => cond (c s) (upd (f_oR c O s) (f_cn c s) (nI s)) (f_oR c O s)
def f_tR (c : Nat → Bool) (tc : Nat → Int64) (L : Nat → Int64) : Nat → Nat → Int64
  | 0 => L
  | s + 1 => cond (c s) (vp_updL (f_tR c tc L s) (f_cn c s) (tc s)) (f_tR c tc L s)
theorem f_cn_le (c : Nat → Bool) : ∀ t, f_cn c t ≤ t := by
  intro t
  induction t with
  | zero => exact Nat.le_refl _
  | succ t ih => rw [f_cn]; cases c t <;> simp only [cond_true, cond_false] <;> omega
theorem f_cn_mono (c : Nat → Bool) (t : Nat) : ∀ j, f_cn c t ≤ f_cn c (t + j) := by
  intro j
  induction j with
  | zero => exact Nat.le_refl _
  | succ j ih => rw [← Nat.add_assoc, f_cn]; cases c (t + j) <;> simp only [cond_true, cond_false] <;> omega
def f_lc (K k s : Nat) : Bool := match K with
  | 2 => decide (f_pop (nI s).toInt64 = k)
  | _ => true
def f_lt (K n s : Nat) : Int64 := match K with
  | 2 => f_shM false n (f_sl 1 (nI s)) (2 ^ n)
  | _ => f_shM false n (f_sl 1 (nI s)) (2 ^ n) ||| f_shM true n (f_sl 1 (nI s)) (2 ^ n)
theorem f_cn_bin : ∀ n, n < 7 → ∀ k, k < 7 → f_cn (f_lc 2 k) (2 ^ n) = f_bin n k := by decide +kernel
theorem f_cn_all (K k : Nat) (hK : K < 2) : ∀ t, f_cn (f_lc K k) t = t := by
  intro t
  induction t with
  | zero => rfl
  | succ t ih => rw [f_cn, ih]; match K, hK with | 0, _ => rfl | 1, _ => rfl
theorem f_bin_20 : ∀ n, n < 7 → ∀ k, k < 7 → f_bin n k ≤ 20 := by decide +kernel
def f_lf (K n k so m : Nat) (O : Nat → Int32) (L : Nat → Int64) (ff : Int64) : Int32 × Int64 := f_fin K (f_oR (f_lc K k) O (2 ^ n)) (f_tR (f_lc K k) (f_lt K n) L (2 ^ n)) so m ff (2 ^ so)
def f_leR (M : f_M) (K k so m : Nat) : f_M := f_ml (f_mi (f_mL (f_mI M 5 (f_oR (f_lc K k) (M.2.2.2.1 5) (2 ^ M.1 0))) 2 (f_tR (f_lc K k) (f_lt K (M.1 0)) (M.2.2.2.2 2) (2 ^ M.1 0))) 2 (f_lf K (M.1 0) k so m (M.2.2.2.1 5) (M.2.2.2.2 2) (M.2.2.1 0)).1) 0 (f_lf K (M.1 0) k so m (M.2.2.2.1 5) (M.2.2.2.2 2) (M.2.2.1 0)).2
section MO2
variable {G : g_G} {C : f_C} {M : f_M} {ob h : List va_E} {x : Int64} {y y2 y3 : Int32} {a k so m : Nat}
theorem r_leM_b0 (hy : ¬ ((0 : Int32) ≤ y ∧ y ≤ 2)) : g_Run G mX12_leastOf 5 0 0 [.ref (g_ad G 38), .int y, .int y2, .int y3] (g_hp G C (g_hm G M ++ ob)) (some (.int (-1))) (g_hp G C (g_hm G M ++ ob)) := by
  refine g_Run.of (lv := [(0, .ref (g_ad G 38)), (1, .int y), (2, .int y2), (3, .int y3)]) (by decide) (Nat.le_of_ble_eq_true rfl) rfl ?_
  refine a_iload_n 1 1 rfl dX12_leastOf_0 rfl rfl ?_
  refine a_i2l 2 rfl dX12_leastOf_1 ?_
  refine a_lconst (x := 0) 3 rfl dX12_leastOf_2 (by decide) ?_
  refine a_ldc2 q_1404 6 rfl dX12_leastOf_3 ?_
  refine a_callS (as := [.long y.toInt64, .long 0, .long 2]) (rest := []) (st2 := [.int (f_i (decide ((0 : Int32) ≤ y ∧ y ≤ 2)))]) (u1 := 0) (v1 := 0) (u2 := 0) (v2 := 0) (r_isInB (y := y) (a := 0) (b := 2) rfl rfl) oX12_isIn q_1242 q_1243 rfl (by omega) (by decide) rfl (Nat.le_of_ble_eq_true rfl) 9 rfl dX12_leastOf_6 rfl ?_
  refine a_if_eq 61 12 rfl dX12_leastOf_9 (by decide) (fun _ => ?_) (fun hc => absurd (f_i_F (decide_eq_false hy)) hc)
  refine a_iconst (x := (-1)) 62 rfl dX12_leastOf_61 (by decide) ?_
  exact a_ireturn .int rfl rfl (rfl) (rfl) dX12_leastOf_62
theorem r_leM_b1 (hy : ¬ ((0 : Int32) ≤ y3 ∧ y3 ≤ nI (M.1 0))) : g_Run G mX12_leastOf 5 0 0 [.ref (g_ad G 38), .int 2, .int y2, .int y3] (g_hp G C (g_hm G M ++ ob)) (some (.int (-1))) (g_hp G C (g_hm G M ++ ob)) := by
  refine g_Run.of (lv := [(0, .ref (g_ad G 38)), (1, .int 2), (2, .int y2), (3, .int y3)]) (by decide) (Nat.le_of_ble_eq_true rfl) rfl ?_
  refine a_iload_n 1 1 rfl dX12_leastOf_0 rfl rfl ?_
  refine a_i2l 2 rfl dX12_leastOf_1 ?_
  refine a_lconst (x := 0) 3 rfl dX12_leastOf_2 (by decide) ?_
  refine a_ldc2 q_1404 6 rfl dX12_leastOf_3 ?_
  refine a_callS (as := [.long ((2 : Int32).toInt64), .long 0, .long 2]) (rest := []) (st2 := [.int (f_i (decide ((0 : Int32) ≤ (2 : Int32) ∧ (2 : Int32) ≤ 2)))]) (u1 := 0) (v1 := 0) (u2 := 0) (v2 := 0) (r_isInB (y := (2 : Int32)) (a := 0) (b := 2) rfl rfl) oX12_isIn q_1242 q_1243 rfl (by omega) (by decide) rfl (Nat.le_of_ble_eq_true rfl) 9 rfl dX12_leastOf_6 rfl ?_
  refine a_if_eq 61 12 rfl dX12_leastOf_9 (by decide) (fun hc => absurd hc (f_i_T (by decide))) (fun _ => ?_)
  refine a_iload_n 1 13 rfl dX12_leastOf_12 rfl rfl ?_
  refine a_iconst (x := 2) 14 rfl dX12_leastOf_13 (by decide) ?_
  refine a_icmp_ne 31 17 rfl dX12_leastOf_14 (by decide) (fun hc => absurd ((by decide)) hc) (fun _ => ?_)
  refine a_iload_n 3 18 rfl dX12_leastOf_17 rfl rfl ?_
  refine a_i2l 19 rfl dX12_leastOf_18 ?_
  refine a_lconst (x := 0) 20 rfl dX12_leastOf_19 (by decide) ?_
  refine a_aload_n 0 21 rfl dX12_leastOf_20 rfl rfl ?_
  refine a_get 0 cl_11 f_RX12_9_11 (by decide) (rfl) rfl 24 rfl dX12_leastOf_21 ?_
  refine a_i2l 25 rfl dX12_leastOf_24 ?_
  refine a_callS (as := [.long y3.toInt64, .long 0, .long ((nI (M.1 0)).toInt64)]) (rest := []) (st2 := [.int (f_i (decide ((0 : Int32) ≤ y3 ∧ y3 ≤ (nI (M.1 0)))))]) (u1 := 0) (v1 := 0) (u2 := 0) (v2 := 0) (r_isInB (y := y3) (a := 0) (b := (nI (M.1 0))) rfl rfl) oX12_isIn q_1242 q_1243 rfl (by omega) (by decide) rfl (Nat.le_of_ble_eq_true rfl) 28 rfl dX12_leastOf_25 rfl ?_
  refine a_if_eq 61 31 rfl dX12_leastOf_28 (by decide) (fun _ => ?_) (fun hc => absurd (f_i_F (decide_eq_false hy)) hc)
  refine a_iconst (x := (-1)) 62 rfl dX12_leastOf_61 (by decide) ?_
  exact a_ireturn .int rfl rfl (rfl) (rfl) dX12_leastOf_62
theorem r_leM_b2_0 (hn : M.1 0 ≤ 6) (hy : ¬ ((0 : Int32) ≤ y2 ∧ y2 ≤ nI (2 ^ M.1 0))) : g_Run G mX12_leastOf 5 0 0 [.ref (g_ad G 38), .int 0, .int y2, .int y3] (g_hp G C (g_hm G M ++ ob)) (some (.int (-1))) (g_hp G C (g_hm G M ++ ob)) := by
  refine g_Run.of (lv := [(0, .ref (g_ad G 38)), (1, .int 0), (2, .int y2), (3, .int y3)]) (by decide) (Nat.le_of_ble_eq_true rfl) rfl ?_
  refine a_iload_n 1 1 rfl dX12_leastOf_0 rfl rfl ?_
  refine a_i2l 2 rfl dX12_leastOf_1 ?_
  refine a_lconst (x := 0) 3 rfl dX12_leastOf_2 (by decide) ?_
  refine a_ldc2 q_1404 6 rfl dX12_leastOf_3 ?_
  refine a_callS (as := [.long ((0 : Int32).toInt64), .long 0, .long 2]) (rest := []) (st2 := [.int (f_i (decide ((0 : Int32) ≤ (0 : Int32) ∧ (0 : Int32) ≤ 2)))]) (u1 := 0) (v1 := 0) (u2 := 0) (v2 := 0) (r_isInB (y := (0 : Int32)) (a := 0) (b := 2) rfl rfl) oX12_isIn q_1242 q_1243 rfl (by omega) (by decide) rfl (Nat.le_of_ble_eq_true rfl) 9 rfl dX12_leastOf_6 rfl ?_
  refine a_if_eq 61 12 rfl dX12_leastOf_9 (by decide) (fun hc => absurd hc (f_i_T (by decide))) (fun _ => ?_)
  refine a_iload_n 1 13 rfl dX12_leastOf_12 rfl rfl ?_
  refine a_iconst (x := 2) 14 rfl dX12_leastOf_13 (by decide) ?_
  refine a_icmp_ne 31 17 rfl dX12_leastOf_14 (by decide) (fun _ => ?_) (fun hc => absurd hc ((by decide)))
  refine a_iload_n 2 32 rfl dX12_leastOf_31 rfl rfl ?_
  refine a_i2l 33 rfl dX12_leastOf_32 ?_
  refine a_lconst (x := 0) 34 rfl dX12_leastOf_33 (by decide) ?_
  refine a_iload_n 1 35 rfl dX12_leastOf_34 rfl rfl ?_
  refine a_iconst (x := 2) 36 rfl dX12_leastOf_35 (by decide) ?_
  refine a_icmp_ne 50 39 rfl dX12_leastOf_36 (by decide) (fun _ => ?_) (fun hc => absurd hc ((by decide)))
  refine a_aload_n 0 51 rfl dX12_leastOf_50 rfl rfl ?_
  refine a_callV (as := []) (rest := [.long 0, .long y2.toInt64]) (st2 := [.int (nI (2 ^ M.1 0)), .long 0, .long y2.toInt64]) (u1 := 0) (v1 := 0) (u2 := 0) (v2 := 0) (r_allM hn) (⟨_, _, _, _, rfl, rfl⟩) oX12_all q_1253 q_1255 q_85 rfl (by omega) (by decide) rfl (Nat.le_of_ble_eq_true rfl) 54 rfl dX12_leastOf_51 rfl ?_
  refine a_i2l 55 rfl dX12_leastOf_54 ?_
  refine a_callS (as := [.long y2.toInt64, .long 0, .long ((nI (2 ^ M.1 0)).toInt64)]) (rest := []) (st2 := [.int (f_i (decide ((0 : Int32) ≤ y2 ∧ y2 ≤ (nI (2 ^ M.1 0)))))]) (u1 := 0) (v1 := 0) (u2 := 0) (v2 := 0) (r_isInB (y := y2) (a := 0) (b := (nI (2 ^ M.1 0))) rfl rfl) oX12_isIn q_1242 q_1243 rfl (by omega) (by decide) rfl (Nat.le_of_ble_eq_true rfl) 58 rfl dX12_leastOf_55 rfl ?_
  refine a_if_ne 63 61 rfl dX12_leastOf_58 (by decide) (fun hc => absurd (f_i_F (decide_eq_false hy)) hc) (fun _ => ?_)
  refine a_iconst (x := (-1)) 62 rfl dX12_leastOf_61 (by decide) ?_
  exact a_ireturn .int rfl rfl (rfl) (rfl) dX12_leastOf_62
theorem r_leM_st_0 (hn : M.1 0 ≤ 6) (h4 : 4 < M.1 0) (hy : (0 : Int32) ≤ y2 ∧ y2 ≤ nI (2 ^ M.1 0)) : g_Run G mX12_leastOf 5 0 0 [.ref (g_ad G 38), .int 0, .int y2, .int y3] (g_hp G C (g_hm G M ++ ob)) (some (.int (-5))) (g_hp G C (g_hm G M ++ ob)) := by
  refine g_Run.of (lv := [(0, .ref (g_ad G 38)), (1, .int 0), (2, .int y2), (3, .int y3)]) (by decide) (Nat.le_of_ble_eq_true rfl) rfl ?_
  refine a_iload_n 1 1 rfl dX12_leastOf_0 rfl rfl ?_
  refine a_i2l 2 rfl dX12_leastOf_1 ?_
  refine a_lconst (x := 0) 3 rfl dX12_leastOf_2 (by decide) ?_
  refine a_ldc2 q_1404 6 rfl dX12_leastOf_3 ?_
  refine a_callS (as := [.long ((0 : Int32).toInt64), .long 0, .long 2]) (rest := []) (st2 := [.int (f_i (decide ((0 : Int32) ≤ (0 : Int32) ∧ (0 : Int32) ≤ 2)))]) (u1 := 0) (v1 := 0) (u2 := 0) (v2 := 0) (r_isInB (y := (0 : Int32)) (a := 0) (b := 2) rfl rfl) oX12_isIn q_1242 q_1243 rfl (by omega) (by decide) rfl (Nat.le_of_ble_eq_true rfl) 9 rfl dX12_leastOf_6 rfl ?_
  refine a_if_eq 61 12 rfl dX12_leastOf_9 (by decide) (fun hc => absurd hc (f_i_T (by decide))) (fun _ => ?_)
  refine a_iload_n 1 13 rfl dX12_leastOf_12 rfl rfl ?_
  refine a_iconst (x := 2) 14 rfl dX12_leastOf_13 (by decide) ?_
  refine a_icmp_ne 31 17 rfl dX12_leastOf_14 (by decide) (fun _ => ?_) (fun hc => absurd hc ((by decide)))
  refine a_iload_n 2 32 rfl dX12_leastOf_31 rfl rfl ?_
  refine a_i2l 33 rfl dX12_leastOf_32 ?_
  refine a_lconst (x := 0) 34 rfl dX12_leastOf_33 (by decide) ?_
  refine a_iload_n 1 35 rfl dX12_leastOf_34 rfl rfl ?_
  refine a_iconst (x := 2) 36 rfl dX12_leastOf_35 (by decide) ?_
  refine a_icmp_ne 50 39 rfl dX12_leastOf_36 (by decide) (fun _ => ?_) (fun hc => absurd hc ((by decide)))
  refine a_aload_n 0 51 rfl dX12_leastOf_50 rfl rfl ?_
  refine a_callV (as := []) (rest := [.long 0, .long y2.toInt64]) (st2 := [.int (nI (2 ^ M.1 0)), .long 0, .long y2.toInt64]) (u1 := 0) (v1 := 0) (u2 := 0) (v2 := 0) (r_allM hn) (⟨_, _, _, _, rfl, rfl⟩) oX12_all q_1253 q_1255 q_85 rfl (by omega) (by decide) rfl (Nat.le_of_ble_eq_true rfl) 54 rfl dX12_leastOf_51 rfl ?_
  refine a_i2l 55 rfl dX12_leastOf_54 ?_
  refine a_callS (as := [.long y2.toInt64, .long 0, .long ((nI (2 ^ M.1 0)).toInt64)]) (rest := []) (st2 := [.int (f_i (decide ((0 : Int32) ≤ y2 ∧ y2 ≤ (nI (2 ^ M.1 0)))))]) (u1 := 0) (v1 := 0) (u2 := 0) (v2 := 0) (r_isInB (y := y2) (a := 0) (b := (nI (2 ^ M.1 0))) rfl rfl) oX12_isIn q_1242 q_1243 rfl (by omega) (by decide) rfl (Nat.le_of_ble_eq_true rfl) 58 rfl dX12_leastOf_55 rfl ?_
  refine a_if_ne 63 61 rfl dX12_leastOf_58 (by decide) (fun _ => ?_) (fun hc => absurd hc (f_i_T (decide_eq_true hy)))
  refine a_iload_n 1 64 rfl dX12_leastOf_63 rfl rfl ?_
  refine a_iconst (x := 2) 65 rfl dX12_leastOf_64 (by decide) ?_
  refine a_icmp_ge 76 68 rfl dX12_leastOf_65 (by decide) (fun hc => absurd hc ((by decide))) (fun _ => ?_)
  refine a_aload_n 0 69 rfl dX12_leastOf_68 rfl rfl ?_
  refine a_get 0 cl_11 f_RX12_9_11 (by decide) (rfl) rfl 72 rfl dX12_leastOf_69 ?_
  refine a_iconst (x := 4) 73 rfl dX12_leastOf_72 (by decide) ?_
  refine a_icmp_gt 96 76 rfl dX12_leastOf_73 (by decide) (fun _ => ?_) (fun hc => absurd (nI_lt (a := 4) (b := (M.1 0)) (by omega) (by omega)) hc)
  refine a_bipush (x := (-5)) 98 rfl dX12_leastOf_96 (by decide) ?_
  exact a_ireturn .int rfl rfl (rfl) (rfl) dX12_leastOf_98
theorem r_leM0 (hn : M.1 0 ≤ 4) (hn0 : 0 < M.1 0) (hm : m ≤ 2 ^ M.1 0) : g_Run G mX12_leastOf 5 0 0 [.ref (g_ad G 38), .int 0, .int (nI m), .int y3] (g_hp G C (g_hm G M ++ ob)) (some (.int (f_lf 0 (M.1 0) 0 (2 ^ M.1 0) m (M.2.2.2.1 5) (M.2.2.2.2 2) (M.2.2.1 0)).1)) (g_hp G C (g_hm G (f_leR M 0 0 (2 ^ M.1 0) m) ++ ob)) := by
  have hp : 2 ^ M.1 0 ≤ 16 := show 2 ^ M.1 0 ≤ 2 ^ 4 from Nat.pow_le_pow_right (by decide) hn
  have hn : M.1 0 ≤ 6 := by omega
  have hy : (0 : Int32) ≤ nI m ∧ nI m ≤ nI (2 ^ M.1 0) := ⟨nI_pos' (by omega), nI_le (by omega) (by omega)⟩
  unfold f_leR f_lf
  refine g_Run.of (lv := [(0, .ref (g_ad G 38)), (1, .int 0), (2, .int (nI m)), (3, .int y3)]) (by decide) (Nat.le_of_ble_eq_true rfl) rfl ?_
  refine a_iload_n 1 1 rfl dX12_leastOf_0 rfl rfl ?_
  refine a_i2l 2 rfl dX12_leastOf_1 ?_
  refine a_lconst (x := 0) 3 rfl dX12_leastOf_2 (by decide) ?_
  refine a_ldc2 q_1404 6 rfl dX12_leastOf_3 ?_
  refine a_callS (as := [.long ((0 : Int32).toInt64), .long 0, .long 2]) (rest := []) (st2 := [.int (f_i (decide ((0 : Int32) ≤ (0 : Int32) ∧ (0 : Int32) ≤ 2)))]) (u1 := 0) (v1 := 0) (u2 := 0) (v2 := 0) (r_isInB (y := (0 : Int32)) (a := 0) (b := 2) rfl rfl) oX12_isIn q_1242 q_1243 rfl (by omega) (by decide) rfl (Nat.le_of_ble_eq_true rfl) 9 rfl dX12_leastOf_6 rfl ?_
  refine a_if_eq 61 12 rfl dX12_leastOf_9 (by decide) (fun hc => absurd hc (f_i_T (by decide))) (fun _ => ?_)
  refine a_iload_n 1 13 rfl dX12_leastOf_12 rfl rfl ?_
  refine a_iconst (x := 2) 14 rfl dX12_leastOf_13 (by decide) ?_
  refine a_icmp_ne 31 17 rfl dX12_leastOf_14 (by decide) (fun _ => ?_) (fun hc => absurd hc ((by decide)))
  refine a_iload_n 2 32 rfl dX12_leastOf_31 rfl rfl ?_
  refine a_i2l 33 rfl dX12_leastOf_32 ?_
  refine a_lconst (x := 0) 34 rfl dX12_leastOf_33 (by decide) ?_
  refine a_iload_n 1 35 rfl dX12_leastOf_34 rfl rfl ?_
  refine a_iconst (x := 2) 36 rfl dX12_leastOf_35 (by decide) ?_
  refine a_icmp_ne 50 39 rfl dX12_leastOf_36 (by decide) (fun _ => ?_) (fun hc => absurd hc ((by decide)))
  refine a_aload_n 0 51 rfl dX12_leastOf_50 rfl rfl ?_
  refine a_callV (as := []) (rest := [.long 0, .long ((nI m).toInt64)]) (st2 := [.int (nI (2 ^ M.1 0)), .long 0, .long ((nI m).toInt64)]) (u1 := 0) (v1 := 0) (u2 := 0) (v2 := 0) (r_allM hn) (⟨_, _, _, _, rfl, rfl⟩) oX12_all q_1253 q_1255 q_85 rfl (by omega) (by decide) rfl (Nat.le_of_ble_eq_true rfl) 54 rfl dX12_leastOf_51 rfl ?_
  refine a_i2l 55 rfl dX12_leastOf_54 ?_
  refine a_callS (as := [.long ((nI m).toInt64), .long 0, .long ((nI (2 ^ M.1 0)).toInt64)]) (rest := []) (st2 := [.int (f_i (decide ((0 : Int32) ≤ (nI m) ∧ (nI m) ≤ (nI (2 ^ M.1 0)))))]) (u1 := 0) (v1 := 0) (u2 := 0) (v2 := 0) (r_isInB (y := (nI m)) (a := 0) (b := (nI (2 ^ M.1 0))) rfl rfl) oX12_isIn q_1242 q_1243 rfl (by omega) (by decide) rfl (Nat.le_of_ble_eq_true rfl) 58 rfl dX12_leastOf_55 rfl ?_
  refine a_if_ne 63 61 rfl dX12_leastOf_58 (by decide) (fun _ => ?_) (fun hc => absurd hc (f_i_T (decide_eq_true hy)))
  refine a_iload_n 1 64 rfl dX12_leastOf_63 rfl rfl ?_
  refine a_iconst (x := 2) 65 rfl dX12_leastOf_64 (by decide) ?_
  refine a_icmp_ge 76 68 rfl dX12_leastOf_65 (by decide) (fun hc => absurd hc ((by decide))) (fun _ => ?_)
  refine a_aload_n 0 69 rfl dX12_leastOf_68 rfl rfl ?_
  refine a_get 0 cl_11 f_RX12_9_11 (by decide) (rfl) rfl 72 rfl dX12_leastOf_69 ?_
  refine a_iconst (x := 4) 73 rfl dX12_leastOf_72 (by decide) ?_
  refine a_icmp_gt 96 76 rfl dX12_leastOf_73 (by decide) (fun hc => absurd hc (nI_nlt (a := 4) (b := (M.1 0)) (by omega) (by omega))) (fun _ => ?_)
  refine a_iload_n 1 77 rfl dX12_leastOf_76 rfl rfl ?_
  refine a_iconst (x := 2) 78 rfl dX12_leastOf_77 (by decide) ?_
  refine a_icmp_ne 99 81 rfl dX12_leastOf_78 (by decide) (fun _ => ?_) (fun hc => absurd hc ((by decide)))
  refine a_iconst (x := 0) 100 rfl dX12_leastOf_99 (by decide) ?_
  refine a_istore (lv' := [(4, .int 0), (0, .ref (g_ad G 38)), (1, .int 0), (2, .int (nI m)), (3, .int y3)]) 102 rfl dX12_leastOf_100 (by decide) rfl ?_
  refine a_iconst (x := 0) 103 rfl dX12_leastOf_102 (by decide) ?_
  refine a_istore (lv' := [(5, .int 0), (4, .int 0), (0, .ref (g_ad G 38)), (1, .int 0), (2, .int (nI m)), (3, .int y3)]) 105 rfl dX12_leastOf_103 (by decide) rfl ?_
  refine a_eq (h2 := g_hp G C (g_hm G (f_mL (f_mI M 5 (f_oR (f_lc 0 0) (M.2.2.2.1 5) 0)) 2 (f_tR (f_lc 0 0) (f_lt 0 (M.1 0)) (M.2.2.2.2 2) 0)) ++ ob)) rfl rfl rfl (rfl) ?_
  refine a_sub (lv' := [(5, .int (nI 0)), (4, .int (nI (f_cn (f_lc 0 0) 0))), (0, .ref (g_ad G 38)), (1, .int 0), (2, .int (nI m)), (3, .int y3)]) [0, 1, 2, 3, 4, 5] rfl ?_
  refine g_for (P := fun s9 => True) (2 ^ M.1 0) (fun s9 => [(5, .int (nI s9)), (4, .int (nI (f_cn (f_lc 0 0) s9))), (0, .ref (g_ad G 38)), (1, .int 0), (2, .int (nI m)), (3, .int y3)]) (fun s9 => g_hp G C (g_hm G (f_mL (f_mI M 5 (f_oR (f_lc 0 0) (M.2.2.2.1 5) s9)) 2 (f_tR (f_lc 0 0) (f_lt 0 (M.1 0)) (M.2.2.2.2 2) s9)) ++ ob)) (trivial) (fun s9 h_s9 p_s9 k_s9 => ?_) (fun p_s9 => ?_)
  · have hc := f_cn_le (f_lc 0 0) s9
    have hcl : (nI (f_cn (f_lc 0 0) s9)).toNatClampNeg = f_cn (f_lc 0 0) s9 := g_cl (by omega)
    refine a_iload 0 107 rfl dX12_leastOf_105 rfl ?_
    refine a_aload_n 2 108 rfl dX12_leastOf_107 rfl rfl ?_
    refine a_callV (as := []) (rest := [.int (nI s9)]) (st2 := [.int (nI (2 ^ M.1 0)), .int (nI s9)]) (u1 := 0) (v1 := 0) (u2 := 0) (v2 := 0) (r_allM (M := f_mL (f_mI M 5 (f_oR (f_lc 0 0) (M.2.2.2.1 5) s9)) 2 (f_tR (f_lc 0 0) (f_lt 0 (M.1 0)) (M.2.2.2.2 2) s9)) hn) (⟨_, _, _, _, rfl, rfl⟩) oX12_all q_1253 q_1255 q_85 rfl (by omega) (by decide) rfl (Nat.le_of_ble_eq_true rfl) 111 rfl dX12_leastOf_108 rfl ?_
    refine a_icmp_ge 190 114 rfl dX12_leastOf_111 (by decide) (fun hc => absurd hc (nI_ge (a := s9) (b := (2 ^ M.1 0)) (by omega) (by omega))) (fun _ => ?_)
    refine a_iload_n 3 115 rfl dX12_leastOf_114 rfl rfl ?_
    refine a_iconst (x := 2) 116 rfl dX12_leastOf_115 (by decide) ?_
    refine a_icmp_lt 129 119 rfl dX12_leastOf_116 (by decide) (fun _ => ?_) (fun hc => absurd ((by decide)) hc)
    refine a_aload_n 2 130 rfl dX12_leastOf_129 rfl rfl ?_
    refine a_get 17 cl_11 f_RX12_38_11 (by decide) (rfl) rfl 133 rfl dX12_leastOf_130 ?_
    refine a_iload 1 135 rfl dX12_leastOf_133 rfl ?_
    refine a_iload 0 137 rfl dX12_leastOf_135 rfl ?_
    refine a_iast (rfl) (vp_in_nI (n := (f_cn (f_lc 0 0) s9)) (by omega) (by omega)) 138 rfl dX12_leastOf_137 ?_
    refine a_eq (h2 := g_hp G C (g_hm G (f_mI (f_mL M 2 (f_tR (f_lc 0 0) (f_lt 0 (M.1 0)) (M.2.2.2.2 2) s9)) 5 (f_oR (f_lc 0 0) (M.2.2.2.1 5) (s9 + 1))) ++ ob)) rfl rfl rfl (by show (((g_hp G C (g_hm G (f_mL (f_mI M 5 (f_oR (f_lc 0 0) (M.2.2.2.1 5) s9)) 2 (f_tR (f_lc 0 0) (f_lt 0 (M.1 0)) (M.2.2.2.2 2) s9)) ++ ob)).set 46 (c_I G 16 (upd (f_oR (f_lc 0 0) (M.2.2.2.1 5) s9) (nI (f_cn (f_lc 0 0) s9)).toNatClampNeg (nI s9)))) : List va_E) = _; rw [hcl]; rfl) ?_
    refine a_aload_n 2 139 rfl dX12_leastOf_138 rfl rfl ?_
    refine a_get 18 cl_11 f_RX12_41_11 (by decide) (rfl) rfl 142 rfl dX12_leastOf_139 ?_
    refine a_iload 1 144 rfl dX12_leastOf_142 rfl ?_
    refine a_iload_n 3 145 rfl dX12_leastOf_144 rfl rfl ?_
    refine a_iconst (x := 2) 146 rfl dX12_leastOf_145 (by decide) ?_
    refine a_icmp_ge 171 149 rfl dX12_leastOf_146 (by decide) (fun hc => absurd hc ((by decide))) (fun _ => ?_)
    refine a_aload_n 2 150 rfl dX12_leastOf_149 rfl rfl ?_
    refine a_lconst (x := 1) 151 rfl dX12_leastOf_150 (by decide) ?_
    refine a_iload 0 153 rfl dX12_leastOf_151 rfl ?_
    refine a_lshl 154 rfl dX12_leastOf_153 ?_
    refine a_iconst (x := 0) 155 rfl dX12_leastOf_154 (by decide) ?_
    refine a_callV (as := [.long (f_sl (1 : Int64) (nI s9)), .int 0]) (rest := [.int (nI (f_cn (f_lc 0 0) s9)), .ref (g_ad G 47)]) (st2 := [.long (f_shM false (M.1 0) (f_sl 1 (nI s9)) (2 ^ M.1 0)), .int (nI (f_cn (f_lc 0 0) s9)), .ref (g_ad G 47)]) (u1 := 0) (v1 := 0) (u2 := 0) (v2 := 0) (r_shadow0 hn hn0) (⟨_, _, _, _, rfl, rfl⟩) oX12_shadow q_1318 q_1320 q_93 rfl (by omega) (by decide) rfl (Nat.le_of_ble_eq_true rfl) 158 rfl dX12_leastOf_155 rfl ?_
    refine a_aload_n 2 159 rfl dX12_leastOf_158 rfl rfl ?_
    refine a_lconst (x := 1) 160 rfl dX12_leastOf_159 (by decide) ?_
    refine a_iload 0 162 rfl dX12_leastOf_160 rfl ?_
    refine a_lshl 163 rfl dX12_leastOf_162 ?_
    refine a_iconst (x := 1) 164 rfl dX12_leastOf_163 (by decide) ?_
    refine a_callV (as := [.long (f_sl (1 : Int64) (nI s9)), .int 1]) (rest := [.long (f_shM false (M.1 0) (f_sl 1 (nI s9)) (2 ^ M.1 0)), .int (nI (f_cn (f_lc 0 0) s9)), .ref (g_ad G 47)]) (st2 := [.long (f_shM true (M.1 0) (f_sl 1 (nI s9)) (2 ^ M.1 0)), .long (f_shM false (M.1 0) (f_sl 1 (nI s9)) (2 ^ M.1 0)), .int (nI (f_cn (f_lc 0 0) s9)), .ref (g_ad G 47)]) (u1 := 0) (v1 := 0) (u2 := 0) (v2 := 0) (r_shadow1 hn hn0) (⟨_, _, _, _, rfl, rfl⟩) oX12_shadow q_1318 q_1320 q_93 rfl (by omega) (by decide) rfl (Nat.le_of_ble_eq_true rfl) 167 rfl dX12_leastOf_164 rfl ?_
    refine a_lor 168 rfl dX12_leastOf_167 ?_
    refine a_goto 180 dX12_leastOf_168 (by decide) ?_
    refine a_last (rfl) (vp_in_nI (n := (f_cn (f_lc 0 0) s9)) (by omega) (by omega)) 181 rfl dX12_leastOf_180 ?_
    refine a_eq (h2 := g_hp G C (g_hm G (f_mL (f_mI M 5 (f_oR (f_lc 0 0) (M.2.2.2.1 5) (s9 + 1))) 2 (f_tR (f_lc 0 0) (f_lt 0 (M.1 0)) (M.2.2.2.2 2) (s9 + 1))) ++ ob)) rfl rfl rfl (by show (((g_hp G C (g_hm G (f_mI (f_mL M 2 (f_tR (f_lc 0 0) (f_lt 0 (M.1 0)) (M.2.2.2.2 2) s9)) 5 (f_oR (f_lc 0 0) (M.2.2.2.1 5) (s9 + 1))) ++ ob)).set 47 (c_L G 16 (vp_updL (f_tR (f_lc 0 0) (f_lt 0 (M.1 0)) (M.2.2.2.2 2) s9) (nI (f_cn (f_lc 0 0) s9)).toNatClampNeg ((f_shM false (M.1 0) (f_sl 1 (nI s9)) (2 ^ M.1 0)) ||| (f_shM true (M.1 0) (f_sl 1 (nI s9)) (2 ^ M.1 0)))))) : List va_E) = _; rw [hcl]; rfl) ?_
    refine a_iinc (y := nI ((f_cn (f_lc 0 0) s9) + 1)) (lv' := [(4, .int (nI ((f_cn (f_lc 0 0) s9) + 1))), (5, .int (nI s9)), (0, .ref (g_ad G 38)), (1, .int 0), (2, .int (nI m)), (3, .int y3)]) 1 184 rfl dX12_leastOf_181 rfl (nI_1 (f_cn (f_lc 0 0) s9)) (by decide) rfl ?_
    refine a_iinc (y := nI (s9 + 1)) (lv' := [(5, .int (nI (s9 + 1))), (4, .int (nI ((f_cn (f_lc 0 0) s9) + 1))), (0, .ref (g_ad G 38)), (1, .int 0), (2, .int (nI m)), (3, .int y3)]) 1 187 rfl dX12_leastOf_184 rfl (nI_1 s9) (by decide) rfl ?_
    refine a_goto 105 dX12_leastOf_187 (by decide) ?_
    refine a_sub (lv' := [(5, .int (nI (s9 + 1))), (4, .int (nI (f_cn (f_lc 0 0) (s9 + 1)))), (0, .ref (g_ad G 38)), (1, .int 0), (2, .int (nI m)), (3, .int y3)]) [0, 1, 2, 3, 4, 5] rfl ?_
    exact k_s9 trivial
  · skip
    refine a_eq (lv2 := [(5, .int (nI (2 ^ M.1 0))), (4, .int (nI (2 ^ M.1 0))), (0, .ref (g_ad G 38)), (1, .int 0), (2, .int (nI m)), (3, .int y3)]) rfl (congrArg (fun z9 => ([(5, .int (nI (2 ^ M.1 0))), (4, .int z9), (0, .ref (g_ad G 38)), (1, .int 0), (2, .int (nI m)), (3, .int y3)] : List (Nat × Value))) (by rw [f_cn_all 0 0 (by decide)])) rfl rfl ?_
    refine a_iload 0 107 rfl dX12_leastOf_105 rfl ?_
    refine a_aload_n 2 108 rfl dX12_leastOf_107 rfl rfl ?_
    refine a_callV (as := []) (rest := [.int (nI (2 ^ M.1 0))]) (st2 := [.int (nI (2 ^ M.1 0)), .int (nI (2 ^ M.1 0))]) (u1 := 0) (v1 := 0) (u2 := 0) (v2 := 0) (r_allM (M := f_mL (f_mI M 5 (f_oR (f_lc 0 0) (M.2.2.2.1 5) (2 ^ M.1 0))) 2 (f_tR (f_lc 0 0) (f_lt 0 (M.1 0)) (M.2.2.2.2 2) (2 ^ M.1 0))) hn) (⟨_, _, _, _, rfl, rfl⟩) oX12_all q_1253 q_1255 q_85 rfl (by omega) (by decide) rfl (Nat.le_of_ble_eq_true rfl) 111 rfl dX12_leastOf_108 rfl ?_
    refine a_icmp_ge 190 114 rfl dX12_leastOf_111 (by decide) (fun _ => ?_) (fun hc => absurd (nI_le (a := (2 ^ M.1 0)) (b := (2 ^ M.1 0)) (by omega) (by omega)) hc)
    refine a_aload_n 2 191 rfl dX12_leastOf_190 rfl rfl ?_
    refine a_iload 1 193 rfl dX12_leastOf_191 rfl ?_
    refine a_iload_n 4 194 rfl dX12_leastOf_193 rfl rfl ?_
    refine a_iload_n 3 195 rfl dX12_leastOf_194 rfl rfl ?_
    refine a_callV (as := [.int (nI (2 ^ M.1 0)), .int (nI m), .int 0]) (rest := []) (st2 := []) (u1 := 0) (v1 := 0) (u2 := 0) (v2 := 0) (r_finM0 (M := f_mL (f_mI M 5 (f_oR (f_lc 0 0) (M.2.2.2.1 5) (2 ^ M.1 0))) 2 (f_tR (f_lc 0 0) (f_lt 0 (M.1 0)) (M.2.2.2.2 2) (2 ^ M.1 0))) hp (by omega)) (⟨_, _, _, _, rfl, rfl⟩) oX12_finds q_1409 q_1411 q_103 rfl (by omega) (by decide) rfl (Nat.le_of_ble_eq_true rfl) 198 rfl dX12_leastOf_195 rfl ?_
    refine a_aload_n 2 199 rfl dX12_leastOf_198 rfl rfl ?_
    refine a_get 15 cl_11 f_RX12_213_11 (by decide) (rfl) rfl 202 rfl dX12_leastOf_199 ?_
    exact a_ireturn .int rfl rfl (rfl) (rfl) dX12_leastOf_202

theorem r_leM_b2_1 (hn : M.1 0 ≤ 6) (hy : ¬ ((0 : Int32) ≤ y2 ∧ y2 ≤ nI (2 ^ M.1 0))) : g_Run G mX12_leastOf 5 0 0 [.ref (g_ad G 38), .int 1, .int y2, .int y3] (g_hp G C (g_hm G M ++ ob)) (some (.int (-1))) (g_hp G C (g_hm G M ++ ob)) := by
  refine g_Run.of (lv := [(0, .ref (g_ad G 38)), (1, .int 1), (2, .int y2), (3, .int y3)]) (by decide) (Nat.le_of_ble_eq_true rfl) rfl ?_
  refine a_iload_n 1 1 rfl dX12_leastOf_0 rfl rfl ?_
  refine a_i2l 2 rfl dX12_leastOf_1 ?_
  refine a_lconst (x := 0) 3 rfl dX12_leastOf_2 (by decide) ?_
  refine a_ldc2 q_1404 6 rfl dX12_leastOf_3 ?_
  refine a_callS (as := [.long ((1 : Int32).toInt64), .long 0, .long 2]) (rest := []) (st2 := [.int (f_i (decide ((0 : Int32) ≤ (1 : Int32) ∧ (1 : Int32) ≤ 2)))]) (u1 := 0) (v1 := 0) (u2 := 0) (v2 := 0) (r_isInB (y := (1 : Int32)) (a := 0) (b := 2) rfl rfl) oX12_isIn q_1242 q_1243 rfl (by omega) (by decide) rfl (Nat.le_of_ble_eq_true rfl) 9 rfl dX12_leastOf_6 rfl ?_
  refine a_if_eq 61 12 rfl dX12_leastOf_9 (by decide) (fun hc => absurd hc (f_i_T (by decide))) (fun _ => ?_)
  refine a_iload_n 1 13 rfl dX12_leastOf_12 rfl rfl ?_
  refine a_iconst (x := 2) 14 rfl dX12_leastOf_13 (by decide) ?_
  refine a_icmp_ne 31 17 rfl dX12_leastOf_14 (by decide) (fun _ => ?_) (fun hc => absurd hc ((by decide)))
  refine a_iload_n 2 32 rfl dX12_leastOf_31 rfl rfl ?_
  refine a_i2l 33 rfl dX12_leastOf_32 ?_
  refine a_lconst (x := 0) 34 rfl dX12_leastOf_33 (by decide) ?_
  refine a_iload_n 1 35 rfl dX12_leastOf_34 rfl rfl ?_
  refine a_iconst (x := 2) 36 rfl dX12_leastOf_35 (by decide) ?_
  refine a_icmp_ne 50 39 rfl dX12_leastOf_36 (by decide) (fun _ => ?_) (fun hc => absurd hc ((by decide)))
  refine a_aload_n 0 51 rfl dX12_leastOf_50 rfl rfl ?_
  refine a_callV (as := []) (rest := [.long 0, .long y2.toInt64]) (st2 := [.int (nI (2 ^ M.1 0)), .long 0, .long y2.toInt64]) (u1 := 0) (v1 := 0) (u2 := 0) (v2 := 0) (r_allM hn) (⟨_, _, _, _, rfl, rfl⟩) oX12_all q_1253 q_1255 q_85 rfl (by omega) (by decide) rfl (Nat.le_of_ble_eq_true rfl) 54 rfl dX12_leastOf_51 rfl ?_
  refine a_i2l 55 rfl dX12_leastOf_54 ?_
  refine a_callS (as := [.long y2.toInt64, .long 0, .long ((nI (2 ^ M.1 0)).toInt64)]) (rest := []) (st2 := [.int (f_i (decide ((0 : Int32) ≤ y2 ∧ y2 ≤ (nI (2 ^ M.1 0)))))]) (u1 := 0) (v1 := 0) (u2 := 0) (v2 := 0) (r_isInB (y := y2) (a := 0) (b := (nI (2 ^ M.1 0))) rfl rfl) oX12_isIn q_1242 q_1243 rfl (by omega) (by decide) rfl (Nat.le_of_ble_eq_true rfl) 58 rfl dX12_leastOf_55 rfl ?_
  refine a_if_ne 63 61 rfl dX12_leastOf_58 (by decide) (fun hc => absurd (f_i_F (decide_eq_false hy)) hc) (fun _ => ?_)
  refine a_iconst (x := (-1)) 62 rfl dX12_leastOf_61 (by decide) ?_
  exact a_ireturn .int rfl rfl (rfl) (rfl) dX12_leastOf_62
theorem r_leM_st_1 (hn : M.1 0 ≤ 6) (h4 : 4 < M.1 0) (hy : (0 : Int32) ≤ y2 ∧ y2 ≤ nI (2 ^ M.1 0)) : g_Run G mX12_leastOf 5 0 0 [.ref (g_ad G 38), .int 1, .int y2, .int y3] (g_hp G C (g_hm G M ++ ob)) (some (.int (-5))) (g_hp G C (g_hm G M ++ ob)) := by
  refine g_Run.of (lv := [(0, .ref (g_ad G 38)), (1, .int 1), (2, .int y2), (3, .int y3)]) (by decide) (Nat.le_of_ble_eq_true rfl) rfl ?_
  refine a_iload_n 1 1 rfl dX12_leastOf_0 rfl rfl ?_
  refine a_i2l 2 rfl dX12_leastOf_1 ?_
  refine a_lconst (x := 0) 3 rfl dX12_leastOf_2 (by decide) ?_
  refine a_ldc2 q_1404 6 rfl dX12_leastOf_3 ?_
  refine a_callS (as := [.long ((1 : Int32).toInt64), .long 0, .long 2]) (rest := []) (st2 := [.int (f_i (decide ((0 : Int32) ≤ (1 : Int32) ∧ (1 : Int32) ≤ 2)))]) (u1 := 0) (v1 := 0) (u2 := 0) (v2 := 0) (r_isInB (y := (1 : Int32)) (a := 0) (b := 2) rfl rfl) oX12_isIn q_1242 q_1243 rfl (by omega) (by decide) rfl (Nat.le_of_ble_eq_true rfl) 9 rfl dX12_leastOf_6 rfl ?_
  refine a_if_eq 61 12 rfl dX12_leastOf_9 (by decide) (fun hc => absurd hc (f_i_T (by decide))) (fun _ => ?_)
  refine a_iload_n 1 13 rfl dX12_leastOf_12 rfl rfl ?_
  refine a_iconst (x := 2) 14 rfl dX12_leastOf_13 (by decide) ?_
  refine a_icmp_ne 31 17 rfl dX12_leastOf_14 (by decide) (fun _ => ?_) (fun hc => absurd hc ((by decide)))
  refine a_iload_n 2 32 rfl dX12_leastOf_31 rfl rfl ?_
  refine a_i2l 33 rfl dX12_leastOf_32 ?_
  refine a_lconst (x := 0) 34 rfl dX12_leastOf_33 (by decide) ?_
  refine a_iload_n 1 35 rfl dX12_leastOf_34 rfl rfl ?_
  refine a_iconst (x := 2) 36 rfl dX12_leastOf_35 (by decide) ?_
  refine a_icmp_ne 50 39 rfl dX12_leastOf_36 (by decide) (fun _ => ?_) (fun hc => absurd hc ((by decide)))
  refine a_aload_n 0 51 rfl dX12_leastOf_50 rfl rfl ?_
  refine a_callV (as := []) (rest := [.long 0, .long y2.toInt64]) (st2 := [.int (nI (2 ^ M.1 0)), .long 0, .long y2.toInt64]) (u1 := 0) (v1 := 0) (u2 := 0) (v2 := 0) (r_allM hn) (⟨_, _, _, _, rfl, rfl⟩) oX12_all q_1253 q_1255 q_85 rfl (by omega) (by decide) rfl (Nat.le_of_ble_eq_true rfl) 54 rfl dX12_leastOf_51 rfl ?_
  refine a_i2l 55 rfl dX12_leastOf_54 ?_
  refine a_callS (as := [.long y2.toInt64, .long 0, .long ((nI (2 ^ M.1 0)).toInt64)]) (rest := []) (st2 := [.int (f_i (decide ((0 : Int32) ≤ y2 ∧ y2 ≤ (nI (2 ^ M.1 0)))))]) (u1 := 0) (v1 := 0) (u2 := 0) (v2 := 0) (r_isInB (y := y2) (a := 0) (b := (nI (2 ^ M.1 0))) rfl rfl) oX12_isIn q_1242 q_1243 rfl (by omega) (by decide) rfl (Nat.le_of_ble_eq_true rfl) 58 rfl dX12_leastOf_55 rfl ?_
  refine a_if_ne 63 61 rfl dX12_leastOf_58 (by decide) (fun _ => ?_) (fun hc => absurd hc (f_i_T (decide_eq_true hy)))
  refine a_iload_n 1 64 rfl dX12_leastOf_63 rfl rfl ?_
  refine a_iconst (x := 2) 65 rfl dX12_leastOf_64 (by decide) ?_
  refine a_icmp_ge 76 68 rfl dX12_leastOf_65 (by decide) (fun hc => absurd hc ((by decide))) (fun _ => ?_)
  refine a_aload_n 0 69 rfl dX12_leastOf_68 rfl rfl ?_
  refine a_get 0 cl_11 f_RX12_9_11 (by decide) (rfl) rfl 72 rfl dX12_leastOf_69 ?_
  refine a_iconst (x := 4) 73 rfl dX12_leastOf_72 (by decide) ?_
  refine a_icmp_gt 96 76 rfl dX12_leastOf_73 (by decide) (fun _ => ?_) (fun hc => absurd (nI_lt (a := 4) (b := (M.1 0)) (by omega) (by omega)) hc)
  refine a_bipush (x := (-5)) 98 rfl dX12_leastOf_96 (by decide) ?_
  exact a_ireturn .int rfl rfl (rfl) (rfl) dX12_leastOf_98
theorem r_leM1 (hn : M.1 0 ≤ 4) (hn0 : 0 < M.1 0) (hm : m ≤ 2 ^ M.1 0) : g_Run G mX12_leastOf 5 0 0 [.ref (g_ad G 38), .int 1, .int (nI m), .int y3] (g_hp G C (g_hm G M ++ ob)) (some (.int (f_lf 1 (M.1 0) 0 (2 ^ M.1 0) m (M.2.2.2.1 5) (M.2.2.2.2 2) (M.2.2.1 0)).1)) (g_hp G C (g_hm G (f_leR M 1 0 (2 ^ M.1 0) m) ++ ob)) := by
  have hp : 2 ^ M.1 0 ≤ 16 := show 2 ^ M.1 0 ≤ 2 ^ 4 from Nat.pow_le_pow_right (by decide) hn
  have hn : M.1 0 ≤ 6 := by omega
  have hy : (0 : Int32) ≤ nI m ∧ nI m ≤ nI (2 ^ M.1 0) := ⟨nI_pos' (by omega), nI_le (by omega) (by omega)⟩
  unfold f_leR f_lf
  refine g_Run.of (lv := [(0, .ref (g_ad G 38)), (1, .int 1), (2, .int (nI m)), (3, .int y3)]) (by decide) (Nat.le_of_ble_eq_true rfl) rfl ?_
  refine a_iload_n 1 1 rfl dX12_leastOf_0 rfl rfl ?_
  refine a_i2l 2 rfl dX12_leastOf_1 ?_
  refine a_lconst (x := 0) 3 rfl dX12_leastOf_2 (by decide) ?_
  refine a_ldc2 q_1404 6 rfl dX12_leastOf_3 ?_
  refine a_callS (as := [.long ((1 : Int32).toInt64), .long 0, .long 2]) (rest := []) (st2 := [.int (f_i (decide ((0 : Int32) ≤ (1 : Int32) ∧ (1 : Int32) ≤ 2)))]) (u1 := 0) (v1 := 0) (u2 := 0) (v2 := 0) (r_isInB (y := (1 : Int32)) (a := 0) (b := 2) rfl rfl) oX12_isIn q_1242 q_1243 rfl (by omega) (by decide) rfl (Nat.le_of_ble_eq_true rfl) 9 rfl dX12_leastOf_6 rfl ?_
  refine a_if_eq 61 12 rfl dX12_leastOf_9 (by decide) (fun hc => absurd hc (f_i_T (by decide))) (fun _ => ?_)
  refine a_iload_n 1 13 rfl dX12_leastOf_12 rfl rfl ?_
  refine a_iconst (x := 2) 14 rfl dX12_leastOf_13 (by decide) ?_
  refine a_icmp_ne 31 17 rfl dX12_leastOf_14 (by decide) (fun _ => ?_) (fun hc => absurd hc ((by decide)))
  refine a_iload_n 2 32 rfl dX12_leastOf_31 rfl rfl ?_
  refine a_i2l 33 rfl dX12_leastOf_32 ?_
  refine a_lconst (x := 0) 34 rfl dX12_leastOf_33 (by decide) ?_
  refine a_iload_n 1 35 rfl dX12_leastOf_34 rfl rfl ?_
  refine a_iconst (x := 2) 36 rfl dX12_leastOf_35 (by decide) ?_
  refine a_icmp_ne 50 39 rfl dX12_leastOf_36 (by decide) (fun _ => ?_) (fun hc => absurd hc ((by decide)))
  refine a_aload_n 0 51 rfl dX12_leastOf_50 rfl rfl ?_
  refine a_callV (as := []) (rest := [.long 0, .long ((nI m).toInt64)]) (st2 := [.int (nI (2 ^ M.1 0)), .long 0, .long ((nI m).toInt64)]) (u1 := 0) (v1 := 0) (u2 := 0) (v2 := 0) (r_allM hn) (⟨_, _, _, _, rfl, rfl⟩) oX12_all q_1253 q_1255 q_85 rfl (by omega) (by decide) rfl (Nat.le_of_ble_eq_true rfl) 54 rfl dX12_leastOf_51 rfl ?_
  refine a_i2l 55 rfl dX12_leastOf_54 ?_
  refine a_callS (as := [.long ((nI m).toInt64), .long 0, .long ((nI (2 ^ M.1 0)).toInt64)]) (rest := []) (st2 := [.int (f_i (decide ((0 : Int32) ≤ (nI m) ∧ (nI m) ≤ (nI (2 ^ M.1 0)))))]) (u1 := 0) (v1 := 0) (u2 := 0) (v2 := 0) (r_isInB (y := (nI m)) (a := 0) (b := (nI (2 ^ M.1 0))) rfl rfl) oX12_isIn q_1242 q_1243 rfl (by omega) (by decide) rfl (Nat.le_of_ble_eq_true rfl) 58 rfl dX12_leastOf_55 rfl ?_
  refine a_if_ne 63 61 rfl dX12_leastOf_58 (by decide) (fun _ => ?_) (fun hc => absurd hc (f_i_T (decide_eq_true hy)))
  refine a_iload_n 1 64 rfl dX12_leastOf_63 rfl rfl ?_
  refine a_iconst (x := 2) 65 rfl dX12_leastOf_64 (by decide) ?_
  refine a_icmp_ge 76 68 rfl dX12_leastOf_65 (by decide) (fun hc => absurd hc ((by decide))) (fun _ => ?_)
  refine a_aload_n 0 69 rfl dX12_leastOf_68 rfl rfl ?_
  refine a_get 0 cl_11 f_RX12_9_11 (by decide) (rfl) rfl 72 rfl dX12_leastOf_69 ?_
  refine a_iconst (x := 4) 73 rfl dX12_leastOf_72 (by decide) ?_
  refine a_icmp_gt 96 76 rfl dX12_leastOf_73 (by decide) (fun hc => absurd hc (nI_nlt (a := 4) (b := (M.1 0)) (by omega) (by omega))) (fun _ => ?_)
  refine a_iload_n 1 77 rfl dX12_leastOf_76 rfl rfl ?_
  refine a_iconst (x := 2) 78 rfl dX12_leastOf_77 (by decide) ?_
  refine a_icmp_ne 99 81 rfl dX12_leastOf_78 (by decide) (fun _ => ?_) (fun hc => absurd hc ((by decide)))
  refine a_iconst (x := 0) 100 rfl dX12_leastOf_99 (by decide) ?_
  refine a_istore (lv' := [(4, .int 0), (0, .ref (g_ad G 38)), (1, .int 1), (2, .int (nI m)), (3, .int y3)]) 102 rfl dX12_leastOf_100 (by decide) rfl ?_
  refine a_iconst (x := 0) 103 rfl dX12_leastOf_102 (by decide) ?_
  refine a_istore (lv' := [(5, .int 0), (4, .int 0), (0, .ref (g_ad G 38)), (1, .int 1), (2, .int (nI m)), (3, .int y3)]) 105 rfl dX12_leastOf_103 (by decide) rfl ?_
  refine a_eq (h2 := g_hp G C (g_hm G (f_mL (f_mI M 5 (f_oR (f_lc 1 0) (M.2.2.2.1 5) 0)) 2 (f_tR (f_lc 1 0) (f_lt 1 (M.1 0)) (M.2.2.2.2 2) 0)) ++ ob)) rfl rfl rfl (rfl) ?_
  refine a_sub (lv' := [(5, .int (nI 0)), (4, .int (nI (f_cn (f_lc 1 0) 0))), (0, .ref (g_ad G 38)), (1, .int 1), (2, .int (nI m)), (3, .int y3)]) [0, 1, 2, 3, 4, 5] rfl ?_
  refine g_for (P := fun s9 => True) (2 ^ M.1 0) (fun s9 => [(5, .int (nI s9)), (4, .int (nI (f_cn (f_lc 1 0) s9))), (0, .ref (g_ad G 38)), (1, .int 1), (2, .int (nI m)), (3, .int y3)]) (fun s9 => g_hp G C (g_hm G (f_mL (f_mI M 5 (f_oR (f_lc 1 0) (M.2.2.2.1 5) s9)) 2 (f_tR (f_lc 1 0) (f_lt 1 (M.1 0)) (M.2.2.2.2 2) s9)) ++ ob)) (trivial) (fun s9 h_s9 p_s9 k_s9 => ?_) (fun p_s9 => ?_)
  · have hc := f_cn_le (f_lc 1 0) s9
    have hcl : (nI (f_cn (f_lc 1 0) s9)).toNatClampNeg = f_cn (f_lc 1 0) s9 := g_cl (by omega)
    refine a_iload 0 107 rfl dX12_leastOf_105 rfl ?_
    refine a_aload_n 2 108 rfl dX12_leastOf_107 rfl rfl ?_
    refine a_callV (as := []) (rest := [.int (nI s9)]) (st2 := [.int (nI (2 ^ M.1 0)), .int (nI s9)]) (u1 := 0) (v1 := 0) (u2 := 0) (v2 := 0) (r_allM (M := f_mL (f_mI M 5 (f_oR (f_lc 1 0) (M.2.2.2.1 5) s9)) 2 (f_tR (f_lc 1 0) (f_lt 1 (M.1 0)) (M.2.2.2.2 2) s9)) hn) (⟨_, _, _, _, rfl, rfl⟩) oX12_all q_1253 q_1255 q_85 rfl (by omega) (by decide) rfl (Nat.le_of_ble_eq_true rfl) 111 rfl dX12_leastOf_108 rfl ?_
    refine a_icmp_ge 190 114 rfl dX12_leastOf_111 (by decide) (fun hc => absurd hc (nI_ge (a := s9) (b := (2 ^ M.1 0)) (by omega) (by omega))) (fun _ => ?_)
    refine a_iload_n 3 115 rfl dX12_leastOf_114 rfl rfl ?_
    refine a_iconst (x := 2) 116 rfl dX12_leastOf_115 (by decide) ?_
    refine a_icmp_lt 129 119 rfl dX12_leastOf_116 (by decide) (fun _ => ?_) (fun hc => absurd ((by decide)) hc)
    refine a_aload_n 2 130 rfl dX12_leastOf_129 rfl rfl ?_
    refine a_get 17 cl_11 f_RX12_38_11 (by decide) (rfl) rfl 133 rfl dX12_leastOf_130 ?_
    refine a_iload 1 135 rfl dX12_leastOf_133 rfl ?_
    refine a_iload 0 137 rfl dX12_leastOf_135 rfl ?_
    refine a_iast (rfl) (vp_in_nI (n := (f_cn (f_lc 1 0) s9)) (by omega) (by omega)) 138 rfl dX12_leastOf_137 ?_
    refine a_eq (h2 := g_hp G C (g_hm G (f_mI (f_mL M 2 (f_tR (f_lc 1 0) (f_lt 1 (M.1 0)) (M.2.2.2.2 2) s9)) 5 (f_oR (f_lc 1 0) (M.2.2.2.1 5) (s9 + 1))) ++ ob)) rfl rfl rfl (by show (((g_hp G C (g_hm G (f_mL (f_mI M 5 (f_oR (f_lc 1 0) (M.2.2.2.1 5) s9)) 2 (f_tR (f_lc 1 0) (f_lt 1 (M.1 0)) (M.2.2.2.2 2) s9)) ++ ob)).set 46 (c_I G 16 (upd (f_oR (f_lc 1 0) (M.2.2.2.1 5) s9) (nI (f_cn (f_lc 1 0) s9)).toNatClampNeg (nI s9)))) : List va_E) = _; rw [hcl]; rfl) ?_
    refine a_aload_n 2 139 rfl dX12_leastOf_138 rfl rfl ?_
    refine a_get 18 cl_11 f_RX12_41_11 (by decide) (rfl) rfl 142 rfl dX12_leastOf_139 ?_
    refine a_iload 1 144 rfl dX12_leastOf_142 rfl ?_
    refine a_iload_n 3 145 rfl dX12_leastOf_144 rfl rfl ?_
    refine a_iconst (x := 2) 146 rfl dX12_leastOf_145 (by decide) ?_
    refine a_icmp_ge 171 149 rfl dX12_leastOf_146 (by decide) (fun hc => absurd hc ((by decide))) (fun _ => ?_)
    refine a_aload_n 2 150 rfl dX12_leastOf_149 rfl rfl ?_
    refine a_lconst (x := 1) 151 rfl dX12_leastOf_150 (by decide) ?_
    refine a_iload 0 153 rfl dX12_leastOf_151 rfl ?_
    refine a_lshl 154 rfl dX12_leastOf_153 ?_
    refine a_iconst (x := 0) 155 rfl dX12_leastOf_154 (by decide) ?_
    refine a_callV (as := [.long (f_sl (1 : Int64) (nI s9)), .int 0]) (rest := [.int (nI (f_cn (f_lc 1 0) s9)), .ref (g_ad G 47)]) (st2 := [.long (f_shM false (M.1 0) (f_sl 1 (nI s9)) (2 ^ M.1 0)), .int (nI (f_cn (f_lc 1 0) s9)), .ref (g_ad G 47)]) (u1 := 0) (v1 := 0) (u2 := 0) (v2 := 0) (r_shadow0 hn hn0) (⟨_, _, _, _, rfl, rfl⟩) oX12_shadow q_1318 q_1320 q_93 rfl (by omega) (by decide) rfl (Nat.le_of_ble_eq_true rfl) 158 rfl dX12_leastOf_155 rfl ?_
    refine a_aload_n 2 159 rfl dX12_leastOf_158 rfl rfl ?_
    refine a_lconst (x := 1) 160 rfl dX12_leastOf_159 (by decide) ?_
    refine a_iload 0 162 rfl dX12_leastOf_160 rfl ?_
    refine a_lshl 163 rfl dX12_leastOf_162 ?_
    refine a_iconst (x := 1) 164 rfl dX12_leastOf_163 (by decide) ?_
    refine a_callV (as := [.long (f_sl (1 : Int64) (nI s9)), .int 1]) (rest := [.long (f_shM false (M.1 0) (f_sl 1 (nI s9)) (2 ^ M.1 0)), .int (nI (f_cn (f_lc 1 0) s9)), .ref (g_ad G 47)]) (st2 := [.long (f_shM true (M.1 0) (f_sl 1 (nI s9)) (2 ^ M.1 0)), .long (f_shM false (M.1 0) (f_sl 1 (nI s9)) (2 ^ M.1 0)), .int (nI (f_cn (f_lc 1 0) s9)), .ref (g_ad G 47)]) (u1 := 0) (v1 := 0) (u2 := 0) (v2 := 0) (r_shadow1 hn hn0) (⟨_, _, _, _, rfl, rfl⟩) oX12_shadow q_1318 q_1320 q_93 rfl (by omega) (by decide) rfl (Nat.le_of_ble_eq_true rfl) 167 rfl dX12_leastOf_164 rfl ?_
    refine a_lor 168 rfl dX12_leastOf_167 ?_
    refine a_goto 180 dX12_leastOf_168 (by decide) ?_
    refine a_last (rfl) (vp_in_nI (n := (f_cn (f_lc 1 0) s9)) (by omega) (by omega)) 181 rfl dX12_leastOf_180 ?_
    refine a_eq (h2 := g_hp G C (g_hm G (f_mL (f_mI M 5 (f_oR (f_lc 1 0) (M.2.2.2.1 5) (s9 + 1))) 2 (f_tR (f_lc 1 0) (f_lt 1 (M.1 0)) (M.2.2.2.2 2) (s9 + 1))) ++ ob)) rfl rfl rfl (by show (((g_hp G C (g_hm G (f_mI (f_mL M 2 (f_tR (f_lc 1 0) (f_lt 1 (M.1 0)) (M.2.2.2.2 2) s9)) 5 (f_oR (f_lc 1 0) (M.2.2.2.1 5) (s9 + 1))) ++ ob)).set 47 (c_L G 16 (vp_updL (f_tR (f_lc 1 0) (f_lt 1 (M.1 0)) (M.2.2.2.2 2) s9) (nI (f_cn (f_lc 1 0) s9)).toNatClampNeg ((f_shM false (M.1 0) (f_sl 1 (nI s9)) (2 ^ M.1 0)) ||| (f_shM true (M.1 0) (f_sl 1 (nI s9)) (2 ^ M.1 0)))))) : List va_E) = _; rw [hcl]; rfl) ?_
    refine a_iinc (y := nI ((f_cn (f_lc 1 0) s9) + 1)) (lv' := [(4, .int (nI ((f_cn (f_lc 1 0) s9) + 1))), (5, .int (nI s9)), (0, .ref (g_ad G 38)), (1, .int 1), (2, .int (nI m)), (3, .int y3)]) 1 184 rfl dX12_leastOf_181 rfl (nI_1 (f_cn (f_lc 1 0) s9)) (by decide) rfl ?_
    refine a_iinc (y := nI (s9 + 1)) (lv' := [(5, .int (nI (s9 + 1))), (4, .int (nI ((f_cn (f_lc 1 0) s9) + 1))), (0, .ref (g_ad G 38)), (1, .int 1), (2, .int (nI m)), (3, .int y3)]) 1 187 rfl dX12_leastOf_184 rfl (nI_1 s9) (by decide) rfl ?_
    refine a_goto 105 dX12_leastOf_187 (by decide) ?_
    refine a_sub (lv' := [(5, .int (nI (s9 + 1))), (4, .int (nI (f_cn (f_lc 1 0) (s9 + 1)))), (0, .ref (g_ad G 38)), (1, .int 1), (2, .int (nI m)), (3, .int y3)]) [0, 1, 2, 3, 4, 5] rfl ?_
    exact k_s9 trivial
  · skip
    refine a_eq (lv2 := [(5, .int (nI (2 ^ M.1 0))), (4, .int (nI (2 ^ M.1 0))), (0, .ref (g_ad G 38)), (1, .int 1), (2, .int (nI m)), (3, .int y3)]) rfl (congrArg (fun z9 => ([(5, .int (nI (2 ^ M.1 0))), (4, .int z9), (0, .ref (g_ad G 38)), (1, .int 1), (2, .int (nI m)), (3, .int y3)] : List (Nat × Value))) (by rw [f_cn_all 1 0 (by decide)])) rfl rfl ?_
    refine a_iload 0 107 rfl dX12_leastOf_105 rfl ?_
    refine a_aload_n 2 108 rfl dX12_leastOf_107 rfl rfl ?_
    refine a_callV (as := []) (rest := [.int (nI (2 ^ M.1 0))]) (st2 := [.int (nI (2 ^ M.1 0)), .int (nI (2 ^ M.1 0))]) (u1 := 0) (v1 := 0) (u2 := 0) (v2 := 0) (r_allM (M := f_mL (f_mI M 5 (f_oR (f_lc 1 0) (M.2.2.2.1 5) (2 ^ M.1 0))) 2 (f_tR (f_lc 1 0) (f_lt 1 (M.1 0)) (M.2.2.2.2 2) (2 ^ M.1 0))) hn) (⟨_, _, _, _, rfl, rfl⟩) oX12_all q_1253 q_1255 q_85 rfl (by omega) (by decide) rfl (Nat.le_of_ble_eq_true rfl) 111 rfl dX12_leastOf_108 rfl ?_
    refine a_icmp_ge 190 114 rfl dX12_leastOf_111 (by decide) (fun _ => ?_) (fun hc => absurd (nI_le (a := (2 ^ M.1 0)) (b := (2 ^ M.1 0)) (by omega) (by omega)) hc)
    refine a_aload_n 2 191 rfl dX12_leastOf_190 rfl rfl ?_
    refine a_iload 1 193 rfl dX12_leastOf_191 rfl ?_
    refine a_iload_n 4 194 rfl dX12_leastOf_193 rfl rfl ?_
    refine a_iload_n 3 195 rfl dX12_leastOf_194 rfl rfl ?_
    refine a_callV (as := [.int (nI (2 ^ M.1 0)), .int (nI m), .int 1]) (rest := []) (st2 := []) (u1 := 0) (v1 := 0) (u2 := 0) (v2 := 0) (r_finM1 (M := f_mL (f_mI M 5 (f_oR (f_lc 1 0) (M.2.2.2.1 5) (2 ^ M.1 0))) 2 (f_tR (f_lc 1 0) (f_lt 1 (M.1 0)) (M.2.2.2.2 2) (2 ^ M.1 0))) hp (by omega)) (⟨_, _, _, _, rfl, rfl⟩) oX12_finds q_1409 q_1411 q_103 rfl (by omega) (by decide) rfl (Nat.le_of_ble_eq_true rfl) 198 rfl dX12_leastOf_195 rfl ?_
    refine a_aload_n 2 199 rfl dX12_leastOf_198 rfl rfl ?_
    refine a_get 15 cl_11 f_RX12_213_11 (by decide) (rfl) rfl 202 rfl dX12_leastOf_199 ?_
    exact a_ireturn .int rfl rfl (rfl) (rfl) dX12_leastOf_202

theorem r_leM_b3 (hn : M.1 0 ≤ 6) (hk : k ≤ M.1 0) (hy : ¬ ((0 : Int32) ≤ y2 ∧ y2 ≤ nI (f_bin (M.1 0) k))) : g_Run G mX12_leastOf 5 0 0 [.ref (g_ad G 38), .int 2, .int y2, .int (nI k)] (g_hp G C (g_hm G M ++ ob)) (some (.int (-1))) (g_hp G C (g_hm G M ++ ob)) := by
  have hb := f_bin_20 (M.1 0) (by omega) k (by omega)
  refine g_Run.of (lv := [(0, .ref (g_ad G 38)), (1, .int 2), (2, .int y2), (3, .int (nI k))]) (by decide) (Nat.le_of_ble_eq_true rfl) rfl ?_
  refine a_iload_n 1 1 rfl dX12_leastOf_0 rfl rfl ?_
  refine a_i2l 2 rfl dX12_leastOf_1 ?_
  refine a_lconst (x := 0) 3 rfl dX12_leastOf_2 (by decide) ?_
  refine a_ldc2 q_1404 6 rfl dX12_leastOf_3 ?_
  refine a_callS (as := [.long ((2 : Int32).toInt64), .long 0, .long 2]) (rest := []) (st2 := [.int (f_i (decide ((0 : Int32) ≤ (2 : Int32) ∧ (2 : Int32) ≤ 2)))]) (u1 := 0) (v1 := 0) (u2 := 0) (v2 := 0) (r_isInB (y := (2 : Int32)) (a := 0) (b := 2) rfl rfl) oX12_isIn q_1242 q_1243 rfl (by omega) (by decide) rfl (Nat.le_of_ble_eq_true rfl) 9 rfl dX12_leastOf_6 rfl ?_
  refine a_if_eq 61 12 rfl dX12_leastOf_9 (by decide) (fun hc => absurd hc (f_i_T (by decide))) (fun _ => ?_)
  refine a_iload_n 1 13 rfl dX12_leastOf_12 rfl rfl ?_
  refine a_iconst (x := 2) 14 rfl dX12_leastOf_13 (by decide) ?_
  refine a_icmp_ne 31 17 rfl dX12_leastOf_14 (by decide) (fun hc => absurd ((by decide)) hc) (fun _ => ?_)
  refine a_iload_n 3 18 rfl dX12_leastOf_17 rfl rfl ?_
  refine a_i2l 19 rfl dX12_leastOf_18 ?_
  refine a_lconst (x := 0) 20 rfl dX12_leastOf_19 (by decide) ?_
  refine a_aload_n 0 21 rfl dX12_leastOf_20 rfl rfl ?_
  refine a_get 0 cl_11 f_RX12_9_11 (by decide) (rfl) rfl 24 rfl dX12_leastOf_21 ?_
  refine a_i2l 25 rfl dX12_leastOf_24 ?_
  refine a_callS (as := [.long ((nI k).toInt64), .long 0, .long ((nI (M.1 0)).toInt64)]) (rest := []) (st2 := [.int (f_i (decide ((0 : Int32) ≤ (nI k) ∧ (nI k) ≤ (nI (M.1 0)))))]) (u1 := 0) (v1 := 0) (u2 := 0) (v2 := 0) (r_isInB (y := (nI k)) (a := 0) (b := (nI (M.1 0))) rfl rfl) oX12_isIn q_1242 q_1243 rfl (by omega) (by decide) rfl (Nat.le_of_ble_eq_true rfl) 28 rfl dX12_leastOf_25 rfl ?_
  refine a_if_eq 61 31 rfl dX12_leastOf_28 (by decide) (fun hc => absurd hc (f_i_T (decide_eq_true ⟨nI_pos' (by omega), nI_le (by omega) (by omega)⟩))) (fun _ => ?_)
  refine a_iload_n 2 32 rfl dX12_leastOf_31 rfl rfl ?_
  refine a_i2l 33 rfl dX12_leastOf_32 ?_
  refine a_lconst (x := 0) 34 rfl dX12_leastOf_33 (by decide) ?_
  refine a_iload_n 1 35 rfl dX12_leastOf_34 rfl rfl ?_
  refine a_iconst (x := 2) 36 rfl dX12_leastOf_35 (by decide) ?_
  refine a_icmp_ne 50 39 rfl dX12_leastOf_36 (by decide) (fun hc => absurd ((by decide)) hc) (fun _ => ?_)
  refine a_aload_n 0 40 rfl dX12_leastOf_39 rfl rfl ?_
  refine a_get 0 cl_11 f_RX12_9_11 (by decide) (rfl) rfl 43 rfl dX12_leastOf_40 ?_
  refine a_iload_n 3 44 rfl dX12_leastOf_43 rfl rfl ?_
  refine a_callS (as := [.int (nI (M.1 0)), .int (nI k)]) (rest := [.long 0, .long y2.toInt64]) (st2 := [.long (lN (f_bin (M.1 0) k)), .long 0, .long y2.toInt64]) (u1 := 0) (v1 := 0) (u2 := 0) (v2 := 0) (r_chM (by omega) (by omega) (by omega)) oX12_choices q_1405 q_1406 rfl (by omega) (by decide) rfl (Nat.le_of_ble_eq_true rfl) 47 rfl dX12_leastOf_44 rfl ?_
  refine a_goto 55 dX12_leastOf_47 (by decide) ?_
  refine a_callS (as := [.long y2.toInt64, .long 0, .long (lN (f_bin (M.1 0) k))]) (rest := []) (st2 := [.int (f_i (decide ((0:Int32) ≤ y2 ∧ y2 ≤ nI (f_bin (M.1 0) k))))]) (u1 := 0) (v1 := 0) (u2 := 0) (v2 := 0) (r_isInB (y := y2) (a := 0) (b := nI (f_bin (M.1 0) k)) rfl (nI_l (by omega)).symm) oX12_isIn q_1242 q_1243 rfl (by omega) (by decide) rfl (Nat.le_of_ble_eq_true rfl) 58 rfl dX12_leastOf_55 rfl ?_
  refine a_if_ne 63 61 rfl dX12_leastOf_58 (by decide) (fun hc => absurd (f_i_F (decide_eq_false hy)) hc) (fun _ => ?_)
  refine a_iconst (x := (-1)) 62 rfl dX12_leastOf_61 (by decide) ?_
  exact a_ireturn .int rfl rfl (rfl) (rfl) dX12_leastOf_62
theorem r_leM_st2 (hn : M.1 0 ≤ 6) (hk : k ≤ M.1 0) (hy : (0 : Int32) ≤ y2 ∧ y2 ≤ nI (f_bin (M.1 0) k)) (h15 : 15 < f_bin (M.1 0) k) : g_Run G mX12_leastOf 5 0 0 [.ref (g_ad G 38), .int 2, .int y2, .int (nI k)] (g_hp G C (g_hm G M ++ ob)) (some (.int (-5))) (g_hp G C (g_hm G M ++ ob)) := by
  have hb := f_bin_20 (M.1 0) (by omega) k (by omega)
  refine g_Run.of (lv := [(0, .ref (g_ad G 38)), (1, .int 2), (2, .int y2), (3, .int (nI k))]) (by decide) (Nat.le_of_ble_eq_true rfl) rfl ?_
  refine a_iload_n 1 1 rfl dX12_leastOf_0 rfl rfl ?_
  refine a_i2l 2 rfl dX12_leastOf_1 ?_
  refine a_lconst (x := 0) 3 rfl dX12_leastOf_2 (by decide) ?_
  refine a_ldc2 q_1404 6 rfl dX12_leastOf_3 ?_
  refine a_callS (as := [.long ((2 : Int32).toInt64), .long 0, .long 2]) (rest := []) (st2 := [.int (f_i (decide ((0 : Int32) ≤ (2 : Int32) ∧ (2 : Int32) ≤ 2)))]) (u1 := 0) (v1 := 0) (u2 := 0) (v2 := 0) (r_isInB (y := (2 : Int32)) (a := 0) (b := 2) rfl rfl) oX12_isIn q_1242 q_1243 rfl (by omega) (by decide) rfl (Nat.le_of_ble_eq_true rfl) 9 rfl dX12_leastOf_6 rfl ?_
  refine a_if_eq 61 12 rfl dX12_leastOf_9 (by decide) (fun hc => absurd hc (f_i_T (by decide))) (fun _ => ?_)
  refine a_iload_n 1 13 rfl dX12_leastOf_12 rfl rfl ?_
  refine a_iconst (x := 2) 14 rfl dX12_leastOf_13 (by decide) ?_
  refine a_icmp_ne 31 17 rfl dX12_leastOf_14 (by decide) (fun hc => absurd ((by decide)) hc) (fun _ => ?_)
  refine a_iload_n 3 18 rfl dX12_leastOf_17 rfl rfl ?_
  refine a_i2l 19 rfl dX12_leastOf_18 ?_
  refine a_lconst (x := 0) 20 rfl dX12_leastOf_19 (by decide) ?_
  refine a_aload_n 0 21 rfl dX12_leastOf_20 rfl rfl ?_
  refine a_get 0 cl_11 f_RX12_9_11 (by decide) (rfl) rfl 24 rfl dX12_leastOf_21 ?_
  refine a_i2l 25 rfl dX12_leastOf_24 ?_
  refine a_callS (as := [.long ((nI k).toInt64), .long 0, .long ((nI (M.1 0)).toInt64)]) (rest := []) (st2 := [.int (f_i (decide ((0 : Int32) ≤ (nI k) ∧ (nI k) ≤ (nI (M.1 0)))))]) (u1 := 0) (v1 := 0) (u2 := 0) (v2 := 0) (r_isInB (y := (nI k)) (a := 0) (b := (nI (M.1 0))) rfl rfl) oX12_isIn q_1242 q_1243 rfl (by omega) (by decide) rfl (Nat.le_of_ble_eq_true rfl) 28 rfl dX12_leastOf_25 rfl ?_
  refine a_if_eq 61 31 rfl dX12_leastOf_28 (by decide) (fun hc => absurd hc (f_i_T (decide_eq_true ⟨nI_pos' (by omega), nI_le (by omega) (by omega)⟩))) (fun _ => ?_)
  refine a_iload_n 2 32 rfl dX12_leastOf_31 rfl rfl ?_
  refine a_i2l 33 rfl dX12_leastOf_32 ?_
  refine a_lconst (x := 0) 34 rfl dX12_leastOf_33 (by decide) ?_
  refine a_iload_n 1 35 rfl dX12_leastOf_34 rfl rfl ?_
  refine a_iconst (x := 2) 36 rfl dX12_leastOf_35 (by decide) ?_
  refine a_icmp_ne 50 39 rfl dX12_leastOf_36 (by decide) (fun hc => absurd ((by decide)) hc) (fun _ => ?_)
  refine a_aload_n 0 40 rfl dX12_leastOf_39 rfl rfl ?_
  refine a_get 0 cl_11 f_RX12_9_11 (by decide) (rfl) rfl 43 rfl dX12_leastOf_40 ?_
  refine a_iload_n 3 44 rfl dX12_leastOf_43 rfl rfl ?_
  refine a_callS (as := [.int (nI (M.1 0)), .int (nI k)]) (rest := [.long 0, .long y2.toInt64]) (st2 := [.long (lN (f_bin (M.1 0) k)), .long 0, .long y2.toInt64]) (u1 := 0) (v1 := 0) (u2 := 0) (v2 := 0) (r_chM (by omega) (by omega) (by omega)) oX12_choices q_1405 q_1406 rfl (by omega) (by decide) rfl (Nat.le_of_ble_eq_true rfl) 47 rfl dX12_leastOf_44 rfl ?_
  refine a_goto 55 dX12_leastOf_47 (by decide) ?_
  refine a_callS (as := [.long y2.toInt64, .long 0, .long (lN (f_bin (M.1 0) k))]) (rest := []) (st2 := [.int (f_i (decide ((0:Int32) ≤ y2 ∧ y2 ≤ nI (f_bin (M.1 0) k))))]) (u1 := 0) (v1 := 0) (u2 := 0) (v2 := 0) (r_isInB (y := y2) (a := 0) (b := nI (f_bin (M.1 0) k)) rfl (nI_l (by omega)).symm) oX12_isIn q_1242 q_1243 rfl (by omega) (by decide) rfl (Nat.le_of_ble_eq_true rfl) 58 rfl dX12_leastOf_55 rfl ?_
  refine a_if_ne 63 61 rfl dX12_leastOf_58 (by decide) (fun _ => ?_) (fun hc => absurd hc (f_i_T (decide_eq_true hy)))
  refine a_iload_n 1 64 rfl dX12_leastOf_63 rfl rfl ?_
  refine a_iconst (x := 2) 65 rfl dX12_leastOf_64 (by decide) ?_
  refine a_icmp_ge 76 68 rfl dX12_leastOf_65 (by decide) (fun _ => ?_) (fun hc => absurd ((by decide)) hc)
  refine a_iload_n 1 77 rfl dX12_leastOf_76 rfl rfl ?_
  refine a_iconst (x := 2) 78 rfl dX12_leastOf_77 (by decide) ?_
  refine a_icmp_ne 99 81 rfl dX12_leastOf_78 (by decide) (fun hc => absurd ((by decide)) hc) (fun _ => ?_)
  refine a_aload_n 0 82 rfl dX12_leastOf_81 rfl rfl ?_
  refine a_get 0 cl_11 f_RX12_9_11 (by decide) (rfl) rfl 85 rfl dX12_leastOf_82 ?_
  refine a_iload_n 3 86 rfl dX12_leastOf_85 rfl rfl ?_
  refine a_callS (as := [.int (nI (M.1 0)), .int (nI k)]) (rest := []) (st2 := [.long (lN (f_bin (M.1 0) k))]) (u1 := 0) (v1 := 0) (u2 := 0) (v2 := 0) (r_chM (by omega) (by omega) (by omega)) oX12_choices q_1405 q_1406 rfl (by omega) (by decide) rfl (Nat.le_of_ble_eq_true rfl) 89 rfl dX12_leastOf_86 rfl ?_
  refine a_ldc2 q_1408 92 rfl dX12_leastOf_89 ?_
  refine a_lcmp 93 rfl dX12_leastOf_92 ?_
  refine a_if_le 99 96 rfl dX12_leastOf_93 (by decide) (fun hc => absurd hc (f_cmpF_le (x := f_bin (M.1 0) k) (y := 15) (by omega) (by omega) (by omega))) (fun _ => ?_)
  refine a_bipush (x := (-5)) 98 rfl dX12_leastOf_96 (by decide) ?_
  exact a_ireturn .int rfl rfl (rfl) (rfl) dX12_leastOf_98
theorem r_leM2 (hn : M.1 0 ≤ 6) (hn0 : 0 < M.1 0) (hk : k ≤ M.1 0) (hm : m ≤ f_bin (M.1 0) k) (h15 : f_bin (M.1 0) k ≤ 15) : g_Run G mX12_leastOf 5 0 0 [.ref (g_ad G 38), .int 2, .int (nI m), .int (nI k)] (g_hp G C (g_hm G M ++ ob)) (some (.int (f_lf 2 (M.1 0) k (f_bin (M.1 0) k) m (M.2.2.2.1 5) (M.2.2.2.2 2) (M.2.2.1 0)).1)) (g_hp G C (g_hm G (f_leR M 2 k (f_bin (M.1 0) k) m) ++ ob)) := by
  have hb := f_bin_20 (M.1 0) (by omega) k (by omega)
  have hp : 2 ^ M.1 0 ≤ 64 := Nat.pow_le_pow_right (by decide) hn
  have hy : (0 : Int32) ≤ nI m ∧ nI m ≤ nI (f_bin (M.1 0) k) := ⟨nI_pos' (by omega), nI_le (by omega) (by omega)⟩
  have htot := f_cn_bin (M.1 0) (by omega) k (by omega)
  unfold f_leR f_lf
  refine g_Run.of (lv := [(0, .ref (g_ad G 38)), (1, .int 2), (2, .int (nI m)), (3, .int (nI k))]) (by decide) (Nat.le_of_ble_eq_true rfl) rfl ?_
  refine a_iload_n 1 1 rfl dX12_leastOf_0 rfl rfl ?_
  refine a_i2l 2 rfl dX12_leastOf_1 ?_
  refine a_lconst (x := 0) 3 rfl dX12_leastOf_2 (by decide) ?_
  refine a_ldc2 q_1404 6 rfl dX12_leastOf_3 ?_
  refine a_callS (as := [.long ((2 : Int32).toInt64), .long 0, .long 2]) (rest := []) (st2 := [.int (f_i (decide ((0 : Int32) ≤ (2 : Int32) ∧ (2 : Int32) ≤ 2)))]) (u1 := 0) (v1 := 0) (u2 := 0) (v2 := 0) (r_isInB (y := (2 : Int32)) (a := 0) (b := 2) rfl rfl) oX12_isIn q_1242 q_1243 rfl (by omega) (by decide) rfl (Nat.le_of_ble_eq_true rfl) 9 rfl dX12_leastOf_6 rfl ?_
  refine a_if_eq 61 12 rfl dX12_leastOf_9 (by decide) (fun hc => absurd hc (f_i_T (by decide))) (fun _ => ?_)
  refine a_iload_n 1 13 rfl dX12_leastOf_12 rfl rfl ?_
  refine a_iconst (x := 2) 14 rfl dX12_leastOf_13 (by decide) ?_
  refine a_icmp_ne 31 17 rfl dX12_leastOf_14 (by decide) (fun hc => absurd ((by decide)) hc) (fun _ => ?_)
  refine a_iload_n 3 18 rfl dX12_leastOf_17 rfl rfl ?_
  refine a_i2l 19 rfl dX12_leastOf_18 ?_
  refine a_lconst (x := 0) 20 rfl dX12_leastOf_19 (by decide) ?_
  refine a_aload_n 0 21 rfl dX12_leastOf_20 rfl rfl ?_
  refine a_get 0 cl_11 f_RX12_9_11 (by decide) (rfl) rfl 24 rfl dX12_leastOf_21 ?_
  refine a_i2l 25 rfl dX12_leastOf_24 ?_
  refine a_callS (as := [.long ((nI k).toInt64), .long 0, .long ((nI (M.1 0)).toInt64)]) (rest := []) (st2 := [.int (f_i (decide ((0 : Int32) ≤ (nI k) ∧ (nI k) ≤ (nI (M.1 0)))))]) (u1 := 0) (v1 := 0) (u2 := 0) (v2 := 0) (r_isInB (y := (nI k)) (a := 0) (b := (nI (M.1 0))) rfl rfl) oX12_isIn q_1242 q_1243 rfl (by omega) (by decide) rfl (Nat.le_of_ble_eq_true rfl) 28 rfl dX12_leastOf_25 rfl ?_
  refine a_if_eq 61 31 rfl dX12_leastOf_28 (by decide) (fun hc => absurd hc (f_i_T (decide_eq_true ⟨nI_pos' (by omega), nI_le (by omega) (by omega)⟩))) (fun _ => ?_)
  refine a_iload_n 2 32 rfl dX12_leastOf_31 rfl rfl ?_
  refine a_i2l 33 rfl dX12_leastOf_32 ?_
  refine a_lconst (x := 0) 34 rfl dX12_leastOf_33 (by decide) ?_
  refine a_iload_n 1 35 rfl dX12_leastOf_34 rfl rfl ?_
  refine a_iconst (x := 2) 36 rfl dX12_leastOf_35 (by decide) ?_
  refine a_icmp_ne 50 39 rfl dX12_leastOf_36 (by decide) (fun hc => absurd ((by decide)) hc) (fun _ => ?_)
  refine a_aload_n 0 40 rfl dX12_leastOf_39 rfl rfl ?_
  refine a_get 0 cl_11 f_RX12_9_11 (by decide) (rfl) rfl 43 rfl dX12_leastOf_40 ?_
  refine a_iload_n 3 44 rfl dX12_leastOf_43 rfl rfl ?_
  refine a_callS (as := [.int (nI (M.1 0)), .int (nI k)]) (rest := [.long 0, .long ((nI m).toInt64)]) (st2 := [.long (lN (f_bin (M.1 0) k)), .long 0, .long ((nI m).toInt64)]) (u1 := 0) (v1 := 0) (u2 := 0) (v2 := 0) (r_chM (by omega) (by omega) (by omega)) oX12_choices q_1405 q_1406 rfl (by omega) (by decide) rfl (Nat.le_of_ble_eq_true rfl) 47 rfl dX12_leastOf_44 rfl ?_
  refine a_goto 55 dX12_leastOf_47 (by decide) ?_
  refine a_callS (as := [.long ((nI m).toInt64), .long 0, .long (lN (f_bin (M.1 0) k))]) (rest := []) (st2 := [.int (f_i (decide ((0:Int32) ≤ nI m ∧ nI m ≤ nI (f_bin (M.1 0) k))))]) (u1 := 0) (v1 := 0) (u2 := 0) (v2 := 0) (r_isInB (y := nI m) (a := 0) (b := nI (f_bin (M.1 0) k)) rfl (nI_l (by omega)).symm) oX12_isIn q_1242 q_1243 rfl (by omega) (by decide) rfl (Nat.le_of_ble_eq_true rfl) 58 rfl dX12_leastOf_55 rfl ?_
  refine a_if_ne 63 61 rfl dX12_leastOf_58 (by decide) (fun _ => ?_) (fun hc => absurd hc (f_i_T (decide_eq_true hy)))
  refine a_iload_n 1 64 rfl dX12_leastOf_63 rfl rfl ?_
  refine a_iconst (x := 2) 65 rfl dX12_leastOf_64 (by decide) ?_
  refine a_icmp_ge 76 68 rfl dX12_leastOf_65 (by decide) (fun _ => ?_) (fun hc => absurd ((by decide)) hc)
  refine a_iload_n 1 77 rfl dX12_leastOf_76 rfl rfl ?_
  refine a_iconst (x := 2) 78 rfl dX12_leastOf_77 (by decide) ?_
  refine a_icmp_ne 99 81 rfl dX12_leastOf_78 (by decide) (fun hc => absurd ((by decide)) hc) (fun _ => ?_)
  refine a_aload_n 0 82 rfl dX12_leastOf_81 rfl rfl ?_
  refine a_get 0 cl_11 f_RX12_9_11 (by decide) (rfl) rfl 85 rfl dX12_leastOf_82 ?_
  refine a_iload_n 3 86 rfl dX12_leastOf_85 rfl rfl ?_
  refine a_callS (as := [.int (nI (M.1 0)), .int (nI k)]) (rest := []) (st2 := [.long (lN (f_bin (M.1 0) k))]) (u1 := 0) (v1 := 0) (u2 := 0) (v2 := 0) (r_chM (by omega) (by omega) (by omega)) oX12_choices q_1405 q_1406 rfl (by omega) (by decide) rfl (Nat.le_of_ble_eq_true rfl) 89 rfl dX12_leastOf_86 rfl ?_
  refine a_ldc2 q_1408 92 rfl dX12_leastOf_89 ?_
  refine a_lcmp 93 rfl dX12_leastOf_92 ?_
  refine a_if_le 99 96 rfl dX12_leastOf_93 (by decide) (fun _ => ?_) (fun hc => absurd (f_cmpT_le (x := f_bin (M.1 0) k) (y := 15) (by omega) (by omega) (by omega)) hc)
  refine a_iconst (x := 0) 100 rfl dX12_leastOf_99 (by decide) ?_
  refine a_istore (lv' := [(4, .int 0), (0, .ref (g_ad G 38)), (1, .int 2), (2, .int (nI m)), (3, .int (nI k))]) 102 rfl dX12_leastOf_100 (by decide) rfl ?_
  refine a_iconst (x := 0) 103 rfl dX12_leastOf_102 (by decide) ?_
  refine a_istore (lv' := [(5, .int 0), (4, .int 0), (0, .ref (g_ad G 38)), (1, .int 2), (2, .int (nI m)), (3, .int (nI k))]) 105 rfl dX12_leastOf_103 (by decide) rfl ?_
  refine a_eq (h2 := g_hp G C (g_hm G (f_mL (f_mI M 5 (f_oR (f_lc 2 k) (M.2.2.2.1 5) 0)) 2 (f_tR (f_lc 2 k) (f_lt 2 (M.1 0)) (M.2.2.2.2 2) 0)) ++ ob)) rfl rfl rfl (rfl) ?_
  refine a_sub (lv' := [(5, .int (nI 0)), (4, .int (nI (f_cn (f_lc 2 k) 0))), (0, .ref (g_ad G 38)), (1, .int 2), (2, .int (nI m)), (3, .int (nI k))]) [0, 1, 2, 3, 4, 5] rfl ?_
  refine g_for (P := fun s9 => True) (2 ^ M.1 0) (fun s9 => [(5, .int (nI s9)), (4, .int (nI (f_cn (f_lc 2 k) s9))), (0, .ref (g_ad G 38)), (1, .int 2), (2, .int (nI m)), (3, .int (nI k))]) (fun s9 => g_hp G C (g_hm G (f_mL (f_mI M 5 (f_oR (f_lc 2 k) (M.2.2.2.1 5) s9)) 2 (f_tR (f_lc 2 k) (f_lt 2 (M.1 0)) (M.2.2.2.2 2) s9)) ++ ob)) (trivial) (fun s9 h_s9 p_s9 k_s9 => ?_) (fun p_s9 => ?_)
  · have hc := f_cn_le (f_lc 2 k) s9
    have hq := f_pop_le (nI s9).toInt64
    have hcl : (nI (f_cn (f_lc 2 k) s9)).toNatClampNeg = f_cn (f_lc 2 k) s9 := g_cl (by omega)
    refine a_iload 0 107 rfl dX12_leastOf_105 rfl ?_
    refine a_aload_n 2 108 rfl dX12_leastOf_107 rfl rfl ?_
    refine a_callV (as := []) (rest := [.int (nI s9)]) (st2 := [.int (nI (2 ^ M.1 0)), .int (nI s9)]) (u1 := 0) (v1 := 0) (u2 := 0) (v2 := 0) (r_allM (M := f_mL (f_mI M 5 (f_oR (f_lc 2 k) (M.2.2.2.1 5) s9)) 2 (f_tR (f_lc 2 k) (f_lt 2 (M.1 0)) (M.2.2.2.2 2) s9)) hn) (⟨_, _, _, _, rfl, rfl⟩) oX12_all q_1253 q_1255 q_85 rfl (by omega) (by decide) rfl (Nat.le_of_ble_eq_true rfl) 111 rfl dX12_leastOf_108 rfl ?_
    refine a_icmp_ge 190 114 rfl dX12_leastOf_111 (by decide) (fun hc => absurd hc (nI_ge (a := s9) (b := (2 ^ M.1 0)) (by omega) (by omega))) (fun _ => ?_)
    refine a_iload_n 3 115 rfl dX12_leastOf_114 rfl rfl ?_
    refine a_iconst (x := 2) 116 rfl dX12_leastOf_115 (by decide) ?_
    refine a_icmp_lt 129 119 rfl dX12_leastOf_116 (by decide) (fun hc => absurd hc ((by decide))) (fun _ => ?_)
    refine a_iload 0 121 rfl dX12_leastOf_119 rfl ?_
    refine a_i2l 122 rfl dX12_leastOf_121 ?_
    refine a_callS (as := [.long ((nI s9).toInt64)]) (rest := []) (st2 := [.int (nI (f_pop ((nI s9).toInt64)))]) (u1 := 0) (v1 := 0) (u2 := 0) (v2 := 0) (r_many) oX12_many q_1311 q_1312 rfl (by omega) (by decide) rfl (Nat.le_of_ble_eq_true rfl) 125 rfl dX12_leastOf_122 rfl ?_
    refine a_iload_n 5 126 rfl dX12_leastOf_125 rfl rfl ?_
    rcases Bool.eq_false_or_eq_true (decide (f_pop (nI s9).toInt64 = k)) with e1 | e1
    · have eO : f_oR (f_lc 2 k) (M.2.2.2.1 5) (s9 + 1) = upd (f_oR (f_lc 2 k) (M.2.2.2.1 5) s9) (f_cn (f_lc 2 k) s9) (nI s9) := by rw [f_oR, show f_lc 2 k s9 = true from e1, cond_true]
      have eT : f_tR (f_lc 2 k) (f_lt 2 (M.1 0)) (M.2.2.2.2 2) (s9 + 1) = vp_updL (f_tR (f_lc 2 k) (f_lt 2 (M.1 0)) (M.2.2.2.2 2) s9) (f_cn (f_lc 2 k) s9) (f_lt 2 (M.1 0) s9) := by rw [f_tR, show f_lc 2 k s9 = true from e1, cond_true]
      have eC : f_cn (f_lc 2 k) (s9 + 1) = f_cn (f_lc 2 k) s9 + 1 := by rw [f_cn, show f_lc 2 k s9 = true from e1, cond_true]
      have hmo := f_cn_mono (f_lc 2 k) (s9 + 1) (2 ^ M.1 0 - (s9 + 1))
      rw [show s9 + 1 + (2 ^ M.1 0 - (s9 + 1)) = 2 ^ M.1 0 by omega, htot, eC] at hmo
      rw [eO, eT] at k_s9
      refine a_icmp_ne 184 129 rfl dX12_leastOf_126 (by decide) (fun hc => absurd (congrArg nI (of_decide_eq_true e1)) hc) (fun _ => ?_)
      refine a_aload_n 2 130 rfl dX12_leastOf_129 rfl rfl ?_
      refine a_get 17 cl_11 f_RX12_38_11 (by decide) (rfl) rfl 133 rfl dX12_leastOf_130 ?_
      refine a_iload 1 135 rfl dX12_leastOf_133 rfl ?_
      refine a_iload 0 137 rfl dX12_leastOf_135 rfl ?_
      refine a_iast (rfl) (vp_in_nI (n := (f_cn (f_lc 2 k) s9)) (by omega) (by omega)) 138 rfl dX12_leastOf_137 ?_
      refine a_eq (h2 := g_hp G C (g_hm G (f_mI (f_mL M 2 (f_tR (f_lc 2 k) (f_lt 2 (M.1 0)) (M.2.2.2.2 2) s9)) 5 (upd (f_oR (f_lc 2 k) (M.2.2.2.1 5) s9) (f_cn (f_lc 2 k) s9) (nI s9))) ++ ob)) rfl rfl rfl (by show (((g_hp G C (g_hm G (f_mL (f_mI M 5 (f_oR (f_lc 2 k) (M.2.2.2.1 5) s9)) 2 (f_tR (f_lc 2 k) (f_lt 2 (M.1 0)) (M.2.2.2.2 2) s9)) ++ ob)).set 46 (c_I G 16 (upd (f_oR (f_lc 2 k) (M.2.2.2.1 5) s9) (nI (f_cn (f_lc 2 k) s9)).toNatClampNeg (nI s9)))) : List va_E) = _; rw [hcl]; rfl) ?_
      refine a_aload_n 2 139 rfl dX12_leastOf_138 rfl rfl ?_
      refine a_get 18 cl_11 f_RX12_41_11 (by decide) (rfl) rfl 142 rfl dX12_leastOf_139 ?_
      refine a_iload 1 144 rfl dX12_leastOf_142 rfl ?_
      refine a_iload_n 3 145 rfl dX12_leastOf_144 rfl rfl ?_
      refine a_iconst (x := 2) 146 rfl dX12_leastOf_145 (by decide) ?_
      refine a_icmp_ge 171 149 rfl dX12_leastOf_146 (by decide) (fun _ => ?_) (fun hc => absurd ((by decide)) hc)
      refine a_aload_n 2 172 rfl dX12_leastOf_171 rfl rfl ?_
      refine a_lconst (x := 1) 173 rfl dX12_leastOf_172 (by decide) ?_
      refine a_iload 0 175 rfl dX12_leastOf_173 rfl ?_
      refine a_lshl 176 rfl dX12_leastOf_175 ?_
      refine a_iconst (x := 0) 177 rfl dX12_leastOf_176 (by decide) ?_
      refine a_callV (as := [.long (f_sl (1 : Int64) (nI s9)), .int 0]) (rest := [.int (nI (f_cn (f_lc 2 k) s9)), .ref (g_ad G 47)]) (st2 := [.long (f_shM false (M.1 0) (f_sl 1 (nI s9)) (2 ^ M.1 0)), .int (nI (f_cn (f_lc 2 k) s9)), .ref (g_ad G 47)]) (u1 := 0) (v1 := 0) (u2 := 0) (v2 := 0) (r_shadow0 hn hn0) (⟨_, _, _, _, rfl, rfl⟩) oX12_shadow q_1318 q_1320 q_93 rfl (by omega) (by decide) rfl (Nat.le_of_ble_eq_true rfl) 180 rfl dX12_leastOf_177 rfl ?_
      refine a_last (rfl) (vp_in_nI (n := (f_cn (f_lc 2 k) s9)) (by omega) (by omega)) 181 rfl dX12_leastOf_180 ?_
      refine a_eq (h2 := g_hp G C (g_hm G (f_mL (f_mI M 5 (upd (f_oR (f_lc 2 k) (M.2.2.2.1 5) s9) (f_cn (f_lc 2 k) s9) (nI s9))) 2 (vp_updL (f_tR (f_lc 2 k) (f_lt 2 (M.1 0)) (M.2.2.2.2 2) s9) (f_cn (f_lc 2 k) s9) (f_lt 2 (M.1 0) s9))) ++ ob)) rfl rfl rfl (by show (((g_hp G C (g_hm G (f_mI (f_mL M 2 (f_tR (f_lc 2 k) (f_lt 2 (M.1 0)) (M.2.2.2.2 2) s9)) 5 (upd (f_oR (f_lc 2 k) (M.2.2.2.1 5) s9) (f_cn (f_lc 2 k) s9) (nI s9))) ++ ob)).set 47 (c_L G 16 (vp_updL (f_tR (f_lc 2 k) (f_lt 2 (M.1 0)) (M.2.2.2.2 2) s9) (nI (f_cn (f_lc 2 k) s9)).toNatClampNeg (f_shM false (M.1 0) (f_sl 1 (nI s9)) (2 ^ M.1 0))))) : List va_E) = _; rw [hcl]; rfl) ?_
      refine a_iinc (y := nI ((f_cn (f_lc 2 k) s9) + 1)) (lv' := [(4, .int (nI ((f_cn (f_lc 2 k) s9) + 1))), (5, .int (nI s9)), (0, .ref (g_ad G 38)), (1, .int 2), (2, .int (nI m)), (3, .int (nI k))]) 1 184 rfl dX12_leastOf_181 rfl (nI_1 (f_cn (f_lc 2 k) s9)) (by decide) rfl ?_
      refine a_iinc (y := nI (s9 + 1)) (lv' := [(5, .int (nI (s9 + 1))), (4, .int (nI ((f_cn (f_lc 2 k) s9) + 1))), (0, .ref (g_ad G 38)), (1, .int 2), (2, .int (nI m)), (3, .int (nI k))]) 1 187 rfl dX12_leastOf_184 rfl (nI_1 s9) (by decide) rfl ?_
      refine a_goto 105 dX12_leastOf_187 (by decide) ?_
      refine a_eq (lv2 := [(5, .int (nI (s9 + 1))), (4, .int (nI (f_cn (f_lc 2 k) (s9 + 1)))), (0, .ref (g_ad G 38)), (1, .int 2), (2, .int (nI m)), (3, .int (nI k))]) rfl (congrArg (fun z9 => ([(5, .int (nI (s9 + 1))), (4, .int z9), (0, .ref (g_ad G 38)), (1, .int 2), (2, .int (nI m)), (3, .int (nI k))] : List (Nat × Value))) (by rw [eC])) rfl rfl ?_
      refine a_sub (lv' := [(5, .int (nI (s9 + 1))), (4, .int (nI (f_cn (f_lc 2 k) (s9 + 1)))), (0, .ref (g_ad G 38)), (1, .int 2), (2, .int (nI m)), (3, .int (nI k))]) [0, 1, 2, 3, 4, 5] rfl ?_
      exact k_s9 trivial
    · have eO : f_oR (f_lc 2 k) (M.2.2.2.1 5) (s9 + 1) = f_oR (f_lc 2 k) (M.2.2.2.1 5) s9 := by rw [f_oR, show f_lc 2 k s9 = false from e1, cond_false]
      have eT : f_tR (f_lc 2 k) (f_lt 2 (M.1 0)) (M.2.2.2.2 2) (s9 + 1) = f_tR (f_lc 2 k) (f_lt 2 (M.1 0)) (M.2.2.2.2 2) s9 := by rw [f_tR, show f_lc 2 k s9 = false from e1, cond_false]
      have eC : f_cn (f_lc 2 k) (s9 + 1) = f_cn (f_lc 2 k) s9 := by rw [f_cn, show f_lc 2 k s9 = false from e1, cond_false]
      rw [eO, eT] at k_s9
      refine a_icmp_ne 184 129 rfl dX12_leastOf_126 (by decide) (fun _ => ?_) (fun hc => absurd hc (fun z9 => of_decide_eq_false e1 (nI_inj9 (a := (f_pop ((nI s9).toInt64))) (b := k) (by omega) (by omega) z9)))
      refine a_iinc (y := nI (s9 + 1)) (lv' := [(5, .int (nI (s9 + 1))), (4, .int (nI (f_cn (f_lc 2 k) s9))), (0, .ref (g_ad G 38)), (1, .int 2), (2, .int (nI m)), (3, .int (nI k))]) 0 187 rfl dX12_leastOf_184 rfl (nI_1 s9) (by decide) rfl ?_
      refine a_goto 105 dX12_leastOf_187 (by decide) ?_
      refine a_eq (lv2 := [(5, .int (nI (s9 + 1))), (4, .int (nI (f_cn (f_lc 2 k) (s9 + 1)))), (0, .ref (g_ad G 38)), (1, .int 2), (2, .int (nI m)), (3, .int (nI k))]) rfl (congrArg (fun z9 => ([(5, .int (nI (s9 + 1))), (4, .int z9), (0, .ref (g_ad G 38)), (1, .int 2), (2, .int (nI m)), (3, .int (nI k))] : List (Nat × Value))) (by rw [eC])) rfl rfl ?_
      refine a_sub (lv' := [(5, .int (nI (s9 + 1))), (4, .int (nI (f_cn (f_lc 2 k) (s9 + 1)))), (0, .ref (g_ad G 38)), (1, .int 2), (2, .int (nI m)), (3, .int (nI k))]) [0, 1, 2, 3, 4, 5] rfl ?_
      exact k_s9 trivial
  · skip
    refine a_eq (lv2 := [(5, .int (nI (2 ^ M.1 0))), (4, .int (nI (f_bin (M.1 0) k))), (0, .ref (g_ad G 38)), (1, .int 2), (2, .int (nI m)), (3, .int (nI k))]) rfl (congrArg (fun z9 => ([(5, .int (nI (2 ^ M.1 0))), (4, .int z9), (0, .ref (g_ad G 38)), (1, .int 2), (2, .int (nI m)), (3, .int (nI k))] : List (Nat × Value))) (by rw [htot])) rfl rfl ?_
    refine a_iload 0 107 rfl dX12_leastOf_105 rfl ?_
    refine a_aload_n 2 108 rfl dX12_leastOf_107 rfl rfl ?_
    refine a_callV (as := []) (rest := [.int (nI (2 ^ M.1 0))]) (st2 := [.int (nI (2 ^ M.1 0)), .int (nI (2 ^ M.1 0))]) (u1 := 0) (v1 := 0) (u2 := 0) (v2 := 0) (r_allM (M := f_mL (f_mI M 5 (f_oR (f_lc 2 k) (M.2.2.2.1 5) (2 ^ M.1 0))) 2 (f_tR (f_lc 2 k) (f_lt 2 (M.1 0)) (M.2.2.2.2 2) (2 ^ M.1 0))) hn) (⟨_, _, _, _, rfl, rfl⟩) oX12_all q_1253 q_1255 q_85 rfl (by omega) (by decide) rfl (Nat.le_of_ble_eq_true rfl) 111 rfl dX12_leastOf_108 rfl ?_
    refine a_icmp_ge 190 114 rfl dX12_leastOf_111 (by decide) (fun _ => ?_) (fun hc => absurd (nI_le (a := (2 ^ M.1 0)) (b := (2 ^ M.1 0)) (by omega) (by omega)) hc)
    refine a_aload_n 2 191 rfl dX12_leastOf_190 rfl rfl ?_
    refine a_iload 1 193 rfl dX12_leastOf_191 rfl ?_
    refine a_iload_n 4 194 rfl dX12_leastOf_193 rfl rfl ?_
    refine a_iload_n 3 195 rfl dX12_leastOf_194 rfl rfl ?_
    refine a_callV (as := [.int (nI (f_bin (M.1 0) k)), .int (nI m), .int 2]) (rest := []) (st2 := []) (u1 := 0) (v1 := 0) (u2 := 0) (v2 := 0) (r_finM2 (M := f_mL (f_mI M 5 (f_oR (f_lc 2 k) (M.2.2.2.1 5) (2 ^ M.1 0))) 2 (f_tR (f_lc 2 k) (f_lt 2 (M.1 0)) (M.2.2.2.2 2) (2 ^ M.1 0))) (by omega) (by omega)) (⟨_, _, _, _, rfl, rfl⟩) oX12_finds q_1409 q_1411 q_103 rfl (by omega) (by decide) rfl (Nat.le_of_ble_eq_true rfl) 198 rfl dX12_leastOf_195 rfl ?_
    refine a_aload_n 2 199 rfl dX12_leastOf_198 rfl rfl ?_
    refine a_get 15 cl_11 f_RX12_213_11 (by decide) (rfl) rfl 202 rfl dX12_leastOf_199 ?_
    exact a_ireturn .int rfl rfl (rfl) (rfl) dX12_leastOf_202
end MO2
