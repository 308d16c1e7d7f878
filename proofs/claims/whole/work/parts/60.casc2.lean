/-! The model's calls on cascades, the grid -/
section MR1
variable {G : g_G} {C : f_C} {M M2 : f_M} {ob h h2 : List va_E} {x : Int64} {y y2 y3 r9 : Int32} {a k so m o j w c : Nat}
theorem r_cascM_bad (hy : ¬ (((0 : Int32) ≤ y ∧ y ≤ 2000000000) ∧ ((1 : Int32) ≤ y2 ∧ y2 ≤ 12))) : g_Run G mX12_cascade 6 0 0 [.ref (g_ad G 38), .int y, .int y2, .int y3] (g_hp G C (g_hm G M ++ ob)) (some (.int (-1))) (g_hp G C (g_hm G M ++ ob)) := by
  refine g_Run.of (lv := [(0, .ref (g_ad G 38)), (1, .int y), (2, .int y2), (3, .int y3)]) (by decide) (Nat.le_of_ble_eq_true rfl) rfl ?_
  refine a_aload_n 0 1 rfl dX12_cascade_0 rfl rfl ?_
  refine a_iload_n 1 2 rfl dX12_cascade_1 rfl rfl ?_
  refine a_iload_n 2 3 rfl dX12_cascade_2 rfl rfl ?_
  refine a_callV (as := [.int y, .int y2]) (rest := []) (st2 := [.int 0]) (u1 := 0) (v1 := 0) (u2 := 0) (v2 := 0) (r_casM_bad hy) (⟨_, _, _, _, rfl, rfl⟩) oX12_cascades q_1425 q_1427 q_104 rfl (by omega) (by decide) rfl (Nat.le_of_ble_eq_true rfl) 6 rfl dX12_cascade_3 rfl ?_
  refine a_if_eq 14 9 rfl dX12_cascade_6 (by decide) (fun _ => ?_) (fun hc => absurd (rfl) hc)
  refine a_iconst (x := (-1)) 15 rfl dX12_cascade_14 (by decide) ?_
  exact a_ireturn .int rfl rfl (rfl) (rfl) dX12_cascade_15
theorem r_cascM_b1 (hm : m ≤ 2000000000) (hk0 : 1 ≤ k) (hk : k ≤ 12) (hp : ¬ (-1) ≤ y3) : g_Run G mX12_cascade 6 0 0 [.ref (g_ad G 38), .int (nI m), .int (nI k), .int y3] (g_hp G C (g_hm G M ++ ob)) (some (.int ((-1)))) (g_hp G C (g_hm G (f_caM M m k) ++ ob)) := by
  refine g_Run.of (lv := [(0, .ref (g_ad G 38)), (1, .int (nI m)), (2, .int (nI k)), (3, .int y3)]) (by decide) (Nat.le_of_ble_eq_true rfl) rfl ?_
  refine a_aload_n 0 1 rfl dX12_cascade_0 rfl rfl ?_
  refine a_iload_n 1 2 rfl dX12_cascade_1 rfl rfl ?_
  refine a_iload_n 2 3 rfl dX12_cascade_2 rfl rfl ?_
  refine a_callV (as := [.int (nI m), .int (nI k)]) (rest := []) (st2 := [.int 1]) (u1 := 0) (v1 := 0) (u2 := 0) (v2 := 0) (r_casM hm hk0 hk) (⟨_, _, _, _, rfl, rfl⟩) oX12_cascades q_1425 q_1427 q_104 rfl (by omega) (by decide) rfl (Nat.le_of_ble_eq_true rfl) 6 rfl dX12_cascade_3 rfl ?_
  refine a_if_eq 14 9 rfl dX12_cascade_6 (by decide) (fun hc => absurd hc ((by decide))) (fun _ => ?_)
  refine a_iload_n 3 10 rfl dX12_cascade_9 rfl rfl ?_
  refine a_iconst (x := (-1)) 11 rfl dX12_cascade_10 (by decide) ?_
  refine a_icmp_ge 16 14 rfl dX12_cascade_11 (by decide) (fun hc => absurd hc (hp)) (fun _ => ?_)
  refine a_iconst (x := (-1)) 15 rfl dX12_cascade_14 (by decide) ?_
  exact a_ireturn .int rfl rfl (rfl) (rfl) dX12_cascade_15

theorem r_cascM_N (hm : m ≤ 2000000000) (hk0 : 1 ≤ k) (hk : k ≤ 12) (hp : True) : g_Run G mX12_cascade 6 0 0 [.ref (g_ad G 38), .int (nI m), .int (nI k), .int (-1)] (g_hp G C (g_hm G M ++ ob)) (some (.int (nI (f_cas k m).length))) (g_hp G C (g_hm G (f_caM M m k) ++ ob)) := by
  refine g_Run.of (lv := [(0, .ref (g_ad G 38)), (1, .int (nI m)), (2, .int (nI k)), (3, .int ((-1)))]) (by decide) (Nat.le_of_ble_eq_true rfl) rfl ?_
  refine a_aload_n 0 1 rfl dX12_cascade_0 rfl rfl ?_
  refine a_iload_n 1 2 rfl dX12_cascade_1 rfl rfl ?_
  refine a_iload_n 2 3 rfl dX12_cascade_2 rfl rfl ?_
  refine a_callV (as := [.int (nI m), .int (nI k)]) (rest := []) (st2 := [.int 1]) (u1 := 0) (v1 := 0) (u2 := 0) (v2 := 0) (r_casM hm hk0 hk) (⟨_, _, _, _, rfl, rfl⟩) oX12_cascades q_1425 q_1427 q_104 rfl (by omega) (by decide) rfl (Nat.le_of_ble_eq_true rfl) 6 rfl dX12_cascade_3 rfl ?_
  refine a_if_eq 14 9 rfl dX12_cascade_6 (by decide) (fun hc => absurd hc ((by decide))) (fun _ => ?_)
  refine a_iload_n 3 10 rfl dX12_cascade_9 rfl rfl ?_
  refine a_iconst (x := (-1)) 11 rfl dX12_cascade_10 (by decide) ?_
  refine a_icmp_ge 16 14 rfl dX12_cascade_11 (by decide) (fun _ => ?_) (fun hc => absurd ((by decide)) hc)
  refine a_iload_n 3 17 rfl dX12_cascade_16 rfl rfl ?_
  refine a_if_ge 27 20 rfl dX12_cascade_17 (by decide) (fun hc => absurd hc ((by decide))) (fun _ => ?_)
  refine a_aload_n 0 21 rfl dX12_cascade_20 rfl rfl ?_
  refine a_get 20 cl_11 f_RX12_238_11 (by decide) (rfl) rfl 24 rfl dX12_cascade_21 ?_
  refine a_goto 46 dX12_cascade_24 (by decide) ?_
  exact a_ireturn .int rfl rfl (rfl) (rfl) dX12_cascade_46

theorem r_cascM_in (hm : m ≤ 2000000000) (hk0 : 1 ≤ k) (hk : k ≤ 12) (hj : j < (f_cas k m).length) : g_Run G mX12_cascade 6 0 0 [.ref (g_ad G 38), .int (nI m), .int (nI k), .int (nI j)] (g_hp G C (g_hm G M ++ ob)) (some (.int (nI ((f_cas k m).getD j 0)))) (g_hp G C (g_hm G (f_caM M m k) ++ ob)) := by
  have hl := f_cas_len k m
  have e9 : f_lay (M.2.2.2.1 6) 0 (f_cas k m) j = nI ((f_cas k m).getD j 0) := by
    have e8 := f_lay_at (f_cas k m) (M.2.2.2.1 6) 0 j ((f_cas k m).getD j 0) (by rw [List.getD_eq_getElem?_getD, List.getElem?_eq_getElem hj]; rfl)
    rw [Nat.zero_add] at e8
    exact e8
  refine g_Run.of (lv := [(0, .ref (g_ad G 38)), (1, .int (nI m)), (2, .int (nI k)), (3, .int (nI j))]) (by decide) (Nat.le_of_ble_eq_true rfl) rfl ?_
  refine a_aload_n 0 1 rfl dX12_cascade_0 rfl rfl ?_
  refine a_iload_n 1 2 rfl dX12_cascade_1 rfl rfl ?_
  refine a_iload_n 2 3 rfl dX12_cascade_2 rfl rfl ?_
  refine a_callV (as := [.int (nI m), .int (nI k)]) (rest := []) (st2 := [.int 1]) (u1 := 0) (v1 := 0) (u2 := 0) (v2 := 0) (r_casM hm hk0 hk) (⟨_, _, _, _, rfl, rfl⟩) oX12_cascades q_1425 q_1427 q_104 rfl (by omega) (by decide) rfl (Nat.le_of_ble_eq_true rfl) 6 rfl dX12_cascade_3 rfl ?_
  refine a_if_eq 14 9 rfl dX12_cascade_6 (by decide) (fun hc => absurd hc ((by decide))) (fun _ => ?_)
  refine a_iload_n 3 10 rfl dX12_cascade_9 rfl rfl ?_
  refine a_iconst (x := (-1)) 11 rfl dX12_cascade_10 (by decide) ?_
  refine a_icmp_ge 16 14 rfl dX12_cascade_11 (by decide) (fun _ => ?_) (fun hc => absurd ((by rw [Int32.le_iff_toInt_le, nI_toInt (by omega)]; show (-1 : Int) ≤ _; omega)) hc)
  refine a_iload_n 3 17 rfl dX12_cascade_16 rfl rfl ?_
  refine a_if_ge 27 20 rfl dX12_cascade_17 (by decide) (fun _ => ?_) (fun hc => absurd (nI_pos' (by omega)) hc)
  refine a_iload_n 3 28 rfl dX12_cascade_27 rfl rfl ?_
  refine a_aload_n 0 29 rfl dX12_cascade_28 rfl rfl ?_
  refine a_get 20 cl_11 f_RX12_238_11 (by decide) (rfl) rfl 32 rfl dX12_cascade_29 ?_
  refine a_icmp_ge 44 35 rfl dX12_cascade_32 (by decide) (fun hc => absurd hc (nI_ge (b := (f_cas k m).length) hj (by omega))) (fun _ => ?_)
  refine a_aload_n 0 36 rfl dX12_cascade_35 rfl rfl ?_
  refine a_get 19 cl_11 f_RX12_44_11 (by decide) (rfl) rfl 39 rfl dX12_cascade_36 ?_
  refine a_iload_n 3 40 rfl dX12_cascade_39 rfl rfl ?_
  refine a_iald (rfl) (vp_in_nI (n := j) (by omega) (by omega)) 41 rfl dX12_cascade_40 ?_
  refine a_eq (st2 := [.int ((f_lay (M.2.2.2.1 6) 0 (f_cas k m)) j)]) rfl rfl (congrArg (fun z9 => Value.int z9 :: []) (congrArg (f_lay (M.2.2.2.1 6) 0 (f_cas k m)) (g_cl (by omega)))) rfl ?_
  refine a_eq (st2 := [.int (nI ((f_cas k m).getD j 0))]) rfl rfl (congrArg (fun z9 => Value.int z9 :: []) (e9)) rfl ?_
  refine a_goto 46 dX12_cascade_41 (by decide) ?_
  exact a_ireturn .int rfl rfl (rfl) (rfl) dX12_cascade_46
theorem r_cascM_out (hm : m ≤ 2000000000) (hk0 : 1 ≤ k) (hk : k ≤ 12) (h0 : (0 : Int32) ≤ y3) (hj : nI (f_cas k m).length ≤ y3) : g_Run G mX12_cascade 6 0 0 [.ref (g_ad G 38), .int (nI m), .int (nI k), .int y3] (g_hp G C (g_hm G M ++ ob)) (some (.int (-2))) (g_hp G C (g_hm G (f_caM M m k) ++ ob)) := by
  refine g_Run.of (lv := [(0, .ref (g_ad G 38)), (1, .int (nI m)), (2, .int (nI k)), (3, .int y3)]) (by decide) (Nat.le_of_ble_eq_true rfl) rfl ?_
  refine a_aload_n 0 1 rfl dX12_cascade_0 rfl rfl ?_
  refine a_iload_n 1 2 rfl dX12_cascade_1 rfl rfl ?_
  refine a_iload_n 2 3 rfl dX12_cascade_2 rfl rfl ?_
  refine a_callV (as := [.int (nI m), .int (nI k)]) (rest := []) (st2 := [.int 1]) (u1 := 0) (v1 := 0) (u2 := 0) (v2 := 0) (r_casM hm hk0 hk) (⟨_, _, _, _, rfl, rfl⟩) oX12_cascades q_1425 q_1427 q_104 rfl (by omega) (by decide) rfl (Nat.le_of_ble_eq_true rfl) 6 rfl dX12_cascade_3 rfl ?_
  refine a_if_eq 14 9 rfl dX12_cascade_6 (by decide) (fun hc => absurd hc ((by decide))) (fun _ => ?_)
  refine a_iload_n 3 10 rfl dX12_cascade_9 rfl rfl ?_
  refine a_iconst (x := (-1)) 11 rfl dX12_cascade_10 (by decide) ?_
  refine a_icmp_ge 16 14 rfl dX12_cascade_11 (by decide) (fun _ => ?_) (fun hc => absurd ((Int32.le_trans (by decide) h0)) hc)
  refine a_iload_n 3 17 rfl dX12_cascade_16 rfl rfl ?_
  refine a_if_ge 27 20 rfl dX12_cascade_17 (by decide) (fun _ => ?_) (fun hc => absurd (h0) hc)
  refine a_iload_n 3 28 rfl dX12_cascade_27 rfl rfl ?_
  refine a_aload_n 0 29 rfl dX12_cascade_28 rfl rfl ?_
  refine a_get 20 cl_11 f_RX12_238_11 (by decide) (rfl) rfl 32 rfl dX12_cascade_29 ?_
  refine a_icmp_ge 44 35 rfl dX12_cascade_32 (by decide) (fun _ => ?_) (fun hc => absurd (hj) hc)
  refine a_bipush (x := (-2)) 46 rfl dX12_cascade_44 (by decide) ?_
  exact a_ireturn .int rfl rfl (rfl) (rfl) dX12_cascade_46
theorem r_bndM_bad (hy : ¬ (((0 : Int32) ≤ y ∧ y ≤ 2000000000) ∧ ((1 : Int32) ≤ y2 ∧ y2 ≤ 12))) : g_Run G mX12_bound 6 0 0 [.ref (g_ad G 38), .int y, .int y2] (g_hp G C (g_hm G M ++ ob)) (some (.int (-1))) (g_hp G C (g_hm G M ++ ob)) := by
  refine g_Run.of (lv := [(0, .ref (g_ad G 38)), (1, .int y), (2, .int y2)]) (by decide) (Nat.le_of_ble_eq_true rfl) rfl ?_
  refine a_aload_n 0 1 rfl dX12_bound_0 rfl rfl ?_
  refine a_iload_n 1 2 rfl dX12_bound_1 rfl rfl ?_
  refine a_iload_n 2 3 rfl dX12_bound_2 rfl rfl ?_
  refine a_callV (as := [.int y, .int y2]) (rest := []) (st2 := [.int 0]) (u1 := 0) (v1 := 0) (u2 := 0) (v2 := 0) (r_casM_bad hy) (⟨_, _, _, _, rfl, rfl⟩) oX12_cascades q_1425 q_1427 q_104 rfl (by omega) (by decide) rfl (Nat.le_of_ble_eq_true rfl) 6 rfl dX12_bound_3 rfl ?_
  refine a_if_eq 17 9 rfl dX12_bound_6 (by decide) (fun _ => ?_) (fun hc => absurd (rfl) hc)
  refine a_iconst (x := (-1)) 18 rfl dX12_bound_17 (by decide) ?_
  exact a_ireturn .int rfl rfl (rfl) (rfl) dX12_bound_18
theorem r_bndM (hm : m ≤ 2000000000) (hk0 : 1 ≤ k) (hk : k ≤ 12) : g_Run G mX12_bound 6 0 0 [.ref (g_ad G 38), .int (nI m), .int (nI k)] (g_hp G C (g_hm G M ++ ob)) (some (.int (nI (f_cab k m)))) (g_hp G C (g_hm G (f_caM M m k) ++ ob)) := by
  refine g_Run.of (lv := [(0, .ref (g_ad G 38)), (1, .int (nI m)), (2, .int (nI k))]) (by decide) (Nat.le_of_ble_eq_true rfl) rfl ?_
  refine a_aload_n 0 1 rfl dX12_bound_0 rfl rfl ?_
  refine a_iload_n 1 2 rfl dX12_bound_1 rfl rfl ?_
  refine a_iload_n 2 3 rfl dX12_bound_2 rfl rfl ?_
  refine a_callV (as := [.int (nI m), .int (nI k)]) (rest := []) (st2 := [.int 1]) (u1 := 0) (v1 := 0) (u2 := 0) (v2 := 0) (r_casM hm hk0 hk) (⟨_, _, _, _, rfl, rfl⟩) oX12_cascades q_1425 q_1427 q_104 rfl (by omega) (by decide) rfl (Nat.le_of_ble_eq_true rfl) 6 rfl dX12_bound_3 rfl ?_
  refine a_if_eq 17 9 rfl dX12_bound_6 (by decide) (fun hc => absurd hc ((by decide))) (fun _ => ?_)
  refine a_aload_n 0 10 rfl dX12_bound_9 rfl rfl ?_
  refine a_get 21 cl_11 f_RX12_241_11 (by decide) (rfl) rfl 13 rfl dX12_bound_10 ?_
  refine a_l2i 14 rfl dX12_bound_13 ?_
  refine a_eq (st2 := [.int (nI (f_cab k m))]) rfl rfl (congrArg (fun z9 => Value.int z9 :: []) (lN_i _)) rfl ?_
  refine a_goto 18 dX12_bound_14 (by decide) ?_
  exact a_ireturn .int rfl rfl (rfl) (rfl) dX12_bound_18
theorem r_sclM_bad (hy : ¬ (((0 : Int32) ≤ y ∧ y ≤ 2000000000) ∧ ((1 : Int32) ≤ y2 ∧ y2 ≤ 12))) : g_Run G mX12_scaled 6 0 0 [.ref (g_ad G 38), .int y, .int y2, .int y3] (g_hp G C (g_hm G M ++ ob)) (some (.int (-1))) (g_hp G C (g_hm G M ++ ob)) := by
  refine g_Run.of (lv := [(0, .ref (g_ad G 38)), (1, .int y), (2, .int y2), (3, .int y3)]) (by decide) (Nat.le_of_ble_eq_true rfl) rfl ?_
  refine a_aload_n 0 1 rfl dX12_scaled_0 rfl rfl ?_
  refine a_iload_n 1 2 rfl dX12_scaled_1 rfl rfl ?_
  refine a_iload_n 2 3 rfl dX12_scaled_2 rfl rfl ?_
  refine a_callV (as := [.int y, .int y2]) (rest := []) (st2 := [.int 0]) (u1 := 0) (v1 := 0) (u2 := 0) (v2 := 0) (r_casM_bad hy) (⟨_, _, _, _, rfl, rfl⟩) oX12_cascades q_1425 q_1427 q_104 rfl (by omega) (by decide) rfl (Nat.le_of_ble_eq_true rfl) 6 rfl dX12_scaled_3 rfl ?_
  refine a_if_eq 21 9 rfl dX12_scaled_6 (by decide) (fun _ => ?_) (fun hc => absurd (rfl) hc)
  refine a_iconst (x := (-1)) 22 rfl dX12_scaled_21 (by decide) ?_
  exact a_ireturn .int rfl rfl (rfl) (rfl) dX12_scaled_22
theorem r_sclM_b1 (hm : m ≤ 2000000000) (hk0 : 1 ≤ k) (hk : k ≤ 12) (hy : ¬ ((1 : Int32) ≤ y3 ∧ y3 ≤ 2000000000)) : g_Run G mX12_scaled 6 0 0 [.ref (g_ad G 38), .int (nI m), .int (nI k), .int y3] (g_hp G C (g_hm G M ++ ob)) (some (.int (-1))) (g_hp G C (g_hm G (f_caM M m k) ++ ob)) := by
  refine g_Run.of (lv := [(0, .ref (g_ad G 38)), (1, .int (nI m)), (2, .int (nI k)), (3, .int y3)]) (by decide) (Nat.le_of_ble_eq_true rfl) rfl ?_
  refine a_aload_n 0 1 rfl dX12_scaled_0 rfl rfl ?_
  refine a_iload_n 1 2 rfl dX12_scaled_1 rfl rfl ?_
  refine a_iload_n 2 3 rfl dX12_scaled_2 rfl rfl ?_
  refine a_callV (as := [.int (nI m), .int (nI k)]) (rest := []) (st2 := [.int 1]) (u1 := 0) (v1 := 0) (u2 := 0) (v2 := 0) (r_casM hm hk0 hk) (⟨_, _, _, _, rfl, rfl⟩) oX12_cascades q_1425 q_1427 q_104 rfl (by omega) (by decide) rfl (Nat.le_of_ble_eq_true rfl) 6 rfl dX12_scaled_3 rfl ?_
  refine a_if_eq 21 9 rfl dX12_scaled_6 (by decide) (fun hc => absurd hc ((by decide))) (fun _ => ?_)
  refine a_iload_n 3 10 rfl dX12_scaled_9 rfl rfl ?_
  refine a_i2l 11 rfl dX12_scaled_10 ?_
  refine a_lconst (x := 1) 12 rfl dX12_scaled_11 (by decide) ?_
  refine a_ldc2 q_1429 15 rfl dX12_scaled_12 ?_
  refine a_callS (as := [.long y3.toInt64, .long 1, .long 2000000000]) (rest := []) (st2 := [.int (f_i (decide ((1 : Int32) ≤ y3 ∧ y3 ≤ 2000000000)))]) (u1 := 0) (v1 := 0) (u2 := 0) (v2 := 0) (r_isInB (y := y3) (a := 1) (b := 2000000000) rfl rfl) oX12_isIn q_1242 q_1243 rfl (by omega) (by decide) rfl (Nat.le_of_ble_eq_true rfl) 18 rfl dX12_scaled_15 rfl ?_
  refine a_if_ne 23 21 rfl dX12_scaled_18 (by decide) (fun hc => absurd (f_i_F (decide_eq_false hy)) hc) (fun _ => ?_)
  refine a_iconst (x := (-1)) 22 rfl dX12_scaled_21 (by decide) ?_
  exact a_ireturn .int rfl rfl (rfl) (rfl) dX12_scaled_22
theorem r_sclM {b : Nat} (hm : m ≤ 2000000000) (hk0 : 1 ≤ k) (hk : k ≤ 12) (hb0 : 1 ≤ b) (hb : b ≤ 2000000000) : g_Run G mX12_scaled 6 0 0 [.ref (g_ad G 38), .int (nI m), .int (nI k), .int (nI b)] (g_hp G C (g_hm G M ++ ob)) (some (.int (cond (decide (lN (f_cab k m) * lN b = (lN (f_cab k m) * lN b).toInt32.toInt64)) (lN (f_cab k m) * lN b).toInt32 (-6)))) (g_hp G C (g_hm G (f_caM M m k) ++ ob)) := by
  refine g_Run.of (lv := [(0, .ref (g_ad G 38)), (1, .int (nI m)), (2, .int (nI k)), (3, .int (nI b))]) (by decide) (Nat.le_of_ble_eq_true rfl) rfl ?_
  refine a_aload_n 0 1 rfl dX12_scaled_0 rfl rfl ?_
  refine a_iload_n 1 2 rfl dX12_scaled_1 rfl rfl ?_
  refine a_iload_n 2 3 rfl dX12_scaled_2 rfl rfl ?_
  refine a_callV (as := [.int (nI m), .int (nI k)]) (rest := []) (st2 := [.int 1]) (u1 := 0) (v1 := 0) (u2 := 0) (v2 := 0) (r_casM hm hk0 hk) (⟨_, _, _, _, rfl, rfl⟩) oX12_cascades q_1425 q_1427 q_104 rfl (by omega) (by decide) rfl (Nat.le_of_ble_eq_true rfl) 6 rfl dX12_scaled_3 rfl ?_
  refine a_if_eq 21 9 rfl dX12_scaled_6 (by decide) (fun hc => absurd hc ((by decide))) (fun _ => ?_)
  refine a_iload_n 3 10 rfl dX12_scaled_9 rfl rfl ?_
  refine a_i2l 11 rfl dX12_scaled_10 ?_
  refine a_lconst (x := 1) 12 rfl dX12_scaled_11 (by decide) ?_
  refine a_ldc2 q_1429 15 rfl dX12_scaled_12 ?_
  refine a_callS (as := [.long ((nI b).toInt64), .long 1, .long 2000000000]) (rest := []) (st2 := [.int (f_i (decide ((1 : Int32) ≤ (nI b) ∧ (nI b) ≤ 2000000000)))]) (u1 := 0) (v1 := 0) (u2 := 0) (v2 := 0) (r_isInB (y := (nI b)) (a := 1) (b := 2000000000) rfl rfl) oX12_isIn q_1242 q_1243 rfl (by omega) (by decide) rfl (Nat.le_of_ble_eq_true rfl) 18 rfl dX12_scaled_15 rfl ?_
  refine a_if_ne 23 21 rfl dX12_scaled_18 (by decide) (fun _ => ?_) (fun hc => absurd hc (f_i_T (decide_eq_true ⟨nI_le (a := 1) (by omega) (by omega), nI_le (b := 2000000000) (by omega) (by omega)⟩)))
  refine a_aload_n 0 24 rfl dX12_scaled_23 rfl rfl ?_
  refine a_get 21 cl_11 f_RX12_241_11 (by decide) (rfl) rfl 27 rfl dX12_scaled_24 ?_
  refine a_iload_n 3 28 rfl dX12_scaled_27 rfl rfl ?_
  refine a_i2l 29 rfl dX12_scaled_28 ?_
  refine a_eq (st2 := [.long (lN b), .long (lN (f_cab k m))]) rfl rfl (congrArg (fun z9 => Value.long z9 :: [.long (lN (f_cab k m))]) (nI_l (by omega))) rfl ?_
  refine a_lmul 30 rfl dX12_scaled_29 ?_
  refine a_lstore (lv' := [(4, .long ((lN (f_cab k m)) * (lN b))), (0, .ref (g_ad G 38)), (1, .int (nI m)), (2, .int (nI k)), (3, .int (nI b))]) 32 rfl dX12_scaled_30 (by decide) rfl ?_
  refine a_lload 0 34 rfl dX12_scaled_32 rfl ?_
  refine a_lload 0 36 rfl dX12_scaled_34 rfl ?_
  refine a_l2i 37 rfl dX12_scaled_36 ?_
  refine a_i2l 38 rfl dX12_scaled_37 ?_
  refine a_lcmp 39 rfl dX12_scaled_38 ?_
  refine g_sfx (pc := 50) (lv := [(4, .long ((lN (f_cab k m)) * (lN b))), (0, .ref (g_ad G 38)), (1, .int (nI m)), (2, .int (nI k)), (3, .int (nI b))]) (st := [.int (cond (decide (((lN (f_cab k m)) * (lN b)) = ((((lN (f_cab k m)) * (lN b)).toInt32).toInt64))) (((lN (f_cab k m)) * (lN b)).toInt32) (-6))]) (h := (g_hp G C (g_hm G (f_ml (f_mn (f_mI M 6 (f_lay (M.2.2.2.1 6) 0 (f_cas k m))) 6 ((f_cas k m).length)) 1 (lN (f_cab k m))) ++ ob))) (fun key => ?_) ?_
  · skip
    rcases Bool.eq_false_or_eq_true (decide (((lN (f_cab k m)) * (lN b)) = ((((lN (f_cab k m)) * (lN b)).toInt32).toInt64))) with c39_1 | c39_1
    · skip
      have dc39_1 := of_decide_eq_true c39_1
      refine a_if_ne 48 42 rfl dX12_scaled_39 (by decide) (fun hc => absurd (g_cmp_eq.mpr (of_decide_eq_true c39_1)) hc) (fun _ => ?_)
      refine a_lload 0 44 rfl dX12_scaled_42 rfl ?_
      refine a_l2i 45 rfl dX12_scaled_44 ?_
      refine a_goto 50 dX12_scaled_45 (by decide) ?_
      exact a_eq rfl (rfl) (by rw [c39_1]; rfl) rfl key
    · skip
      have dc39_1 := of_decide_eq_false c39_1
      refine a_if_ne 48 42 rfl dX12_scaled_39 (by decide) (fun _ => ?_) (fun hc => absurd hc (g_cmp_ne.mpr (of_decide_eq_false c39_1)))
      refine a_bipush (x := (-6)) 50 rfl dX12_scaled_48 (by decide) ?_
      exact a_eq rfl (rfl) (by rw [c39_1]; rfl) rfl key
  exact a_ireturn .int rfl rfl (rfl) (rfl) dX12_scaled_50
-- the grid
theorem r_cellsM : g_Run G mX12_manyCells 1 0 0 [.ref (g_ad G 38)] (g_hp G C (g_hm G M ++ ob)) (some (.int (nI (M.1 7 * M.1 8)))) (g_hp G C (g_hm G M ++ ob)) := by
  refine g_Run.of (lv := [(0, .ref (g_ad G 38))]) (by decide) (Nat.le_of_ble_eq_true rfl) rfl ?_
  refine a_aload_n 0 1 rfl dX12_manyCells_0 rfl rfl ?_
  refine a_get 22 cl_11 f_RX12_47_11 (by decide) (rfl) rfl 4 rfl dX12_manyCells_1 ?_
  refine a_aload_n 0 5 rfl dX12_manyCells_4 rfl rfl ?_
  refine a_get 23 cl_11 f_RX12_50_11 (by decide) (rfl) rfl 8 rfl dX12_manyCells_5 ?_
  refine a_imul 9 rfl dX12_manyCells_8 ?_
  refine a_eq (st2 := [.int (nI ((M.1 7) * (M.1 8)))]) rfl rfl (congrArg (fun z9 => Value.int z9 :: []) (pk_mul (M.1 7) (M.1 8))) rfl ?_
  exact a_ireturn .int rfl rfl (rfl) (rfl) dX12_manyCells_9
theorem r_gridM_bad (hy : ¬ (((1 : Int32) ≤ y ∧ y ≤ 8) ∧ ((1 : Int32) ≤ y2 ∧ y2 ≤ 8))) : g_Run G mX12_grid 6 0 0 [.ref (g_ad G 38), .int y, .int y2] (g_hp G C (g_hm G M ++ ob)) (some (.int (-1))) (g_hp G C (g_hm G M ++ ob)) := by
  refine g_Run.of (lv := [(0, .ref (g_ad G 38)), (1, .int y), (2, .int y2)]) (by decide) (Nat.le_of_ble_eq_true rfl) rfl ?_
  refine a_iload_n 1 1 rfl dX12_grid_0 rfl rfl ?_
  refine a_i2l 2 rfl dX12_grid_1 ?_
  refine a_lconst (x := 1) 3 rfl dX12_grid_2 (by decide) ?_
  refine a_ldc2 q_1446 6 rfl dX12_grid_3 ?_
  refine a_callS (as := [.long y.toInt64, .long 1, .long 8]) (rest := []) (st2 := [.int (f_i (decide ((1 : Int32) ≤ y ∧ y ≤ 8)))]) (u1 := 0) (v1 := 0) (u2 := 0) (v2 := 0) (r_isInB (y := y) (a := 1) (b := 8) rfl rfl) oX12_isIn q_1242 q_1243 rfl (by omega) (by decide) rfl (Nat.le_of_ble_eq_true rfl) 9 rfl dX12_grid_6 rfl ?_
  rcases Bool.eq_false_or_eq_true (decide ((1 : Int32) ≤ y ∧ y ≤ 8)) with e1 | e1
  · skip
    refine a_if_eq 24 12 rfl dX12_grid_9 (by decide) (fun hc => absurd hc (f_i_T e1)) (fun _ => ?_)
    refine a_iload_n 2 13 rfl dX12_grid_12 rfl rfl ?_
    refine a_i2l 14 rfl dX12_grid_13 ?_
    refine a_lconst (x := 1) 15 rfl dX12_grid_14 (by decide) ?_
    refine a_ldc2 q_1446 18 rfl dX12_grid_15 ?_
    refine a_callS (as := [.long y2.toInt64, .long 1, .long 8]) (rest := []) (st2 := [.int (f_i (decide ((1 : Int32) ≤ y2 ∧ y2 ≤ 8)))]) (u1 := 0) (v1 := 0) (u2 := 0) (v2 := 0) (r_isInB (y := y2) (a := 1) (b := 8) rfl rfl) oX12_isIn q_1242 q_1243 rfl (by omega) (by decide) rfl (Nat.le_of_ble_eq_true rfl) 21 rfl dX12_grid_18 rfl ?_
    refine a_if_ne 26 24 rfl dX12_grid_21 (by decide) (fun hc => absurd (f_i_F (decide_eq_false (fun z9 => hy ⟨of_decide_eq_true e1, z9⟩))) hc) (fun _ => ?_)
    refine a_iconst (x := (-1)) 25 rfl dX12_grid_24 (by decide) ?_
    exact a_ireturn .int rfl rfl (rfl) (rfl) dX12_grid_25
  · skip
    refine a_if_eq 24 12 rfl dX12_grid_9 (by decide) (fun _ => ?_) (fun hc => absurd (f_i_F e1) hc)
    refine a_iconst (x := (-1)) 25 rfl dX12_grid_24 (by decide) ?_
    exact a_ireturn .int rfl rfl (rfl) (rfl) dX12_grid_25
theorem r_gridM {w9 t9 : Nat} (h1 : 1 ≤ w9) (h2 : w9 ≤ 8) (h3 : 1 ≤ t9) (h4 : t9 ≤ 8) : g_Run G mX12_grid 6 0 0 [.ref (g_ad G 38), .int (nI w9), .int (nI t9)] (g_hp G C (g_hm G M ++ ob)) (some (.int (nI (10 * M.1 7 + M.1 8)))) (g_hp G C (g_hm G (f_mn (f_mn M 7 w9) 8 t9) ++ ob)) := by
  refine g_Run.of (lv := [(0, .ref (g_ad G 38)), (1, .int (nI w9)), (2, .int (nI t9))]) (by decide) (Nat.le_of_ble_eq_true rfl) rfl ?_
  refine a_iload_n 1 1 rfl dX12_grid_0 rfl rfl ?_
  refine a_i2l 2 rfl dX12_grid_1 ?_
  refine a_lconst (x := 1) 3 rfl dX12_grid_2 (by decide) ?_
  refine a_ldc2 q_1446 6 rfl dX12_grid_3 ?_
  refine a_callS (as := [.long ((nI w9).toInt64), .long 1, .long 8]) (rest := []) (st2 := [.int (f_i (decide ((1 : Int32) ≤ (nI w9) ∧ (nI w9) ≤ 8)))]) (u1 := 0) (v1 := 0) (u2 := 0) (v2 := 0) (r_isInB (y := (nI w9)) (a := 1) (b := 8) rfl rfl) oX12_isIn q_1242 q_1243 rfl (by omega) (by decide) rfl (Nat.le_of_ble_eq_true rfl) 9 rfl dX12_grid_6 rfl ?_
  refine a_if_eq 24 12 rfl dX12_grid_9 (by decide) (fun hc => absurd hc (f_i_T (decide_eq_true ⟨nI_le (a := 1) (by omega) (by omega), nI_le (b := 8) (by omega) (by omega)⟩))) (fun _ => ?_)
  refine a_iload_n 2 13 rfl dX12_grid_12 rfl rfl ?_
  refine a_i2l 14 rfl dX12_grid_13 ?_
  refine a_lconst (x := 1) 15 rfl dX12_grid_14 (by decide) ?_
  refine a_ldc2 q_1446 18 rfl dX12_grid_15 ?_
  refine a_callS (as := [.long ((nI t9).toInt64), .long 1, .long 8]) (rest := []) (st2 := [.int (f_i (decide ((1 : Int32) ≤ (nI t9) ∧ (nI t9) ≤ 8)))]) (u1 := 0) (v1 := 0) (u2 := 0) (v2 := 0) (r_isInB (y := (nI t9)) (a := 1) (b := 8) rfl rfl) oX12_isIn q_1242 q_1243 rfl (by omega) (by decide) rfl (Nat.le_of_ble_eq_true rfl) 21 rfl dX12_grid_18 rfl ?_
  refine a_if_ne 26 24 rfl dX12_grid_21 (by decide) (fun _ => ?_) (fun hc => absurd hc (f_i_T (decide_eq_true ⟨nI_le (a := 1) (by omega) (by omega), nI_le (b := 8) (by omega) (by omega)⟩)))
  refine a_bipush (x := 10) 28 rfl dX12_grid_26 (by decide) ?_
  refine a_aload_n 0 29 rfl dX12_grid_28 rfl rfl ?_
  refine a_get 22 cl_11 f_RX12_47_11 (by decide) (rfl) rfl 32 rfl dX12_grid_29 ?_
  refine a_imul 33 rfl dX12_grid_32 ?_
  refine a_eq (st2 := [.int (nI (10 * (M.1 7)))]) rfl rfl (congrArg (fun z9 => Value.int z9 :: []) (pk_mul 10 (M.1 7))) rfl ?_
  refine a_aload_n 0 34 rfl dX12_grid_33 rfl rfl ?_
  refine a_get 23 cl_11 f_RX12_50_11 (by decide) (rfl) rfl 37 rfl dX12_grid_34 ?_
  refine a_iadd 38 rfl dX12_grid_37 ?_
  refine a_eq (st2 := [.int (nI ((10 * (M.1 7)) + (M.1 8)))]) rfl rfl (congrArg (fun z9 => Value.int z9 :: []) (nI_add (10 * (M.1 7)) (M.1 8))) rfl ?_
  refine a_istore_n (lv' := [(3, .int (nI ((10 * (M.1 7)) + (M.1 8)))), (0, .ref (g_ad G 38)), (1, .int (nI w9)), (2, .int (nI t9))]) 39 rfl dX12_grid_38 rfl (by decide) rfl ?_
  refine a_aload_n 1 40 rfl dX12_grid_39 rfl rfl ?_
  refine a_iload_n 2 41 rfl dX12_grid_40 rfl rfl ?_
  refine a_put (fs' := [.int (nI (M.1 0)), .int (nI (M.1 1)), .int (nI (M.1 2)), .int (nI (M.1 3)), .ref (g_ad G 39), .ref (g_ad G 40), .ref (g_ad G 41), .ref (g_ad G 42), .ref (g_ad G 43), .ref (g_ad G 44), .int (M.2.1 0), .ref (g_ad G 45), .int (nI (M.1 4)), .int (nI (M.1 5)), .int (M.2.1 1), .int (M.2.1 2), .long (M.2.2.1 0), .ref (g_ad G 46), .ref (g_ad G 47), .ref (g_ad G 48), .int (nI (M.1 6)), .long (M.2.2.1 1), .int (nI w9), .int (nI (M.1 8)), .ref (g_ad G 49), .ref (g_ad G 50), .int (nI (M.1 9)), .int (nI (M.1 10)), .int (nI (M.1 11)), .long (M.2.2.1 2), .ref (g_ad G 51), .ref (g_ad G 52), .ref (g_ad G 53), .ref (g_ad G 54), .ref (g_ad G 55), .ref (g_ad G 56), .ref (g_ad G 57), .ref (g_ad G 58), .ref (g_ad G 59), .ref (g_ad G 60), .ref (g_ad G 61), .ref (g_ad G 62), .int (nI (M.1 12))]) 22 cl_11 f_RX12_47_11 (by decide) (rfl) rfl rfl rfl (Nat.le_of_ble_eq_true rfl) rfl 44 rfl dX12_grid_41 ?_
  refine a_eq (h2 := g_hp G C (g_hm G (f_mn M 7 w9) ++ ob)) rfl rfl rfl (rfl) ?_
  refine a_aload_n 1 45 rfl dX12_grid_44 rfl rfl ?_
  refine a_iload_n 3 46 rfl dX12_grid_45 rfl rfl ?_
  refine a_put (fs' := [.int (nI (M.1 0)), .int (nI (M.1 1)), .int (nI (M.1 2)), .int (nI (M.1 3)), .ref (g_ad G 39), .ref (g_ad G 40), .ref (g_ad G 41), .ref (g_ad G 42), .ref (g_ad G 43), .ref (g_ad G 44), .int (M.2.1 0), .ref (g_ad G 45), .int (nI (M.1 4)), .int (nI (M.1 5)), .int (M.2.1 1), .int (M.2.1 2), .long (M.2.2.1 0), .ref (g_ad G 46), .ref (g_ad G 47), .ref (g_ad G 48), .int (nI (M.1 6)), .long (M.2.2.1 1), .int (nI w9), .int (nI t9), .ref (g_ad G 49), .ref (g_ad G 50), .int (nI (M.1 9)), .int (nI (M.1 10)), .int (nI (M.1 11)), .long (M.2.2.1 2), .ref (g_ad G 51), .ref (g_ad G 52), .ref (g_ad G 53), .ref (g_ad G 54), .ref (g_ad G 55), .ref (g_ad G 56), .ref (g_ad G 57), .ref (g_ad G 58), .ref (g_ad G 59), .ref (g_ad G 60), .ref (g_ad G 61), .ref (g_ad G 62), .int (nI (M.1 12))]) 23 cl_11 f_RX12_50_11 (by decide) (rfl) rfl rfl rfl (Nat.le_of_ble_eq_true rfl) rfl 49 rfl dX12_grid_46 ?_
  refine a_eq (h2 := g_hp G C (g_hm G (f_mn (f_mn M 7 w9) 8 t9) ++ ob)) rfl rfl rfl (rfl) ?_
  refine a_iload_n 0 50 rfl dX12_grid_49 rfl rfl ?_
  exact a_ireturn .int rfl rfl (rfl) (rfl) dX12_grid_50
/-- the cells beside one -/
def f_besM (w t c : Nat) : Int64 := cond (decide (c % w ≤ 0)) 0 (f_sl 1 (nI (c - 1))) ||| cond (decide (c % w < w - 1)) (f_sl 1 (nI (c + 1))) 0 ||| cond (decide (c < w)) 0 (f_sl 1 (nI (c - w))) ||| cond (decide (c + w < w * t)) (f_sl 1 (nI (c + w))) 0
theorem r_besM (hc : c < 64) (hw0 : 0 < M.1 7) (hw : M.1 7 ≤ 8) (ht : M.1 8 ≤ 8) : g_Run G mX12_beside 2 0 0 [.ref (g_ad G 38), .int (nI c)] (g_hp G C (g_hm G M ++ ob)) (some (.long (f_besM (M.1 7) (M.1 8) c))) (g_hp G C (g_hm G M ++ ob)) := by
  have hwt : M.1 7 * M.1 8 ≤ 64 := Nat.mul_le_mul hw ht
  have hmod : c % M.1 7 ≤ c := Nat.mod_le _ _
  have hnz : ¬ nI (M.1 7) = 0 := nI_ne0 hw0 (by omega)
  refine g_Run.of (lv := [(0, .ref (g_ad G 38)), (1, .int (nI c))]) (by decide) (Nat.le_of_ble_eq_true rfl) rfl ?_
  refine a_iload_n 1 1 rfl dX12_beside_0 rfl rfl ?_
  refine a_aload_n 0 2 rfl dX12_beside_1 rfl rfl ?_
  refine a_get 22 cl_11 f_RX12_47_11 (by decide) (rfl) rfl 5 rfl dX12_beside_2 ?_
  refine a_irem 6 rfl dX12_beside_5 (hnz) ?_
  refine a_eq (st2 := [.int (nI (c % (M.1 7)))]) rfl rfl (congrArg (fun z9 => Value.int z9 :: []) (pk_rem (a := c) (d := (M.1 7)) (by omega) (by omega) (by omega))) rfl ?_
  refine a_istore_n (lv' := [(2, .int (nI (c % (M.1 7)))), (0, .ref (g_ad G 38)), (1, .int (nI c))]) 7 rfl dX12_beside_6 rfl (by decide) rfl ?_
  refine a_iload_n 0 8 rfl dX12_beside_7 rfl rfl ?_
  refine g_sfx (pc := 20) (lv := [(2, .int (nI (c % (M.1 7)))), (0, .ref (g_ad G 38)), (1, .int (nI c))]) (st := [.long (cond (decide ((c % (M.1 7)) ≤ 0)) 0 (f_sl (1 : Int64) (nI (c - 1))))]) (h := (g_hp G C (g_hm G M ++ ob))) (fun key => ?_) ?_
  · skip
    rcases Bool.eq_false_or_eq_true (decide ((c % (M.1 7)) ≤ 0)) with c8_1 | c8_1
    · skip
      have dc8_1 := of_decide_eq_true c8_1
      refine a_if_le 19 11 rfl dX12_beside_8 (by decide) (fun _ => ?_) (fun hc => absurd (nI_le (a := (c % (M.1 7))) (b := 0) (of_decide_eq_true c8_1) (by omega)) hc)
      refine a_lconst (x := 0) 20 rfl dX12_beside_19 (by decide) ?_
      exact a_eq rfl (rfl) (by rw [c8_1]; rfl) rfl key
    · skip
      have dc8_1 := of_decide_eq_false c8_1
      refine a_if_le 19 11 rfl dX12_beside_8 (by decide) (fun hc => absurd hc (nI_ge (a := 0) (b := (c % (M.1 7))) (by have := of_decide_eq_false c8_1; omega) (by omega))) (fun _ => ?_)
      refine a_lconst (x := 1) 12 rfl dX12_beside_11 (by decide) ?_
      refine a_iload_n 2 13 rfl dX12_beside_12 rfl rfl ?_
      refine a_iconst (x := 1) 14 rfl dX12_beside_13 (by decide) ?_
      refine a_isub 15 rfl dX12_beside_14 ?_
      refine a_eq (st2 := [.int (nI (c - 1)), .long 1]) rfl rfl (congrArg (fun z9 => Value.int z9 :: [.long 1]) (pk_sub (a := c) (b := 1) (by omega))) rfl ?_
      refine a_lshl 16 rfl dX12_beside_15 ?_
      refine a_goto 20 dX12_beside_16 (by decide) ?_
      exact a_eq rfl (rfl) (by rw [c8_1]; rfl) rfl key
  refine a_lstore_n (lv' := [(3, .long (cond (decide ((c % (M.1 7)) ≤ 0)) 0 (f_sl (1 : Int64) (nI (c - 1))))), (2, .int (nI (c % (M.1 7)))), (0, .ref (g_ad G 38)), (1, .int (nI c))]) 21 rfl dX12_beside_20 rfl (by decide) rfl ?_
  refine a_lload_n 0 22 rfl dX12_beside_21 rfl rfl ?_
  refine a_iload_n 1 23 rfl dX12_beside_22 rfl rfl ?_
  refine a_aload_n 2 24 rfl dX12_beside_23 rfl rfl ?_
  refine a_get 22 cl_11 f_RX12_47_11 (by decide) (rfl) rfl 27 rfl dX12_beside_24 ?_
  refine a_iconst (x := 1) 28 rfl dX12_beside_27 (by decide) ?_
  refine a_isub 29 rfl dX12_beside_28 ?_
  refine a_eq (st2 := [.int (nI ((M.1 7) - 1)), .int (nI (c % (M.1 7))), .long (cond (decide ((c % (M.1 7)) ≤ 0)) 0 (f_sl (1 : Int64) (nI (c - 1))))]) rfl rfl (congrArg (fun z9 => Value.int z9 :: [.int (nI (c % (M.1 7))), .long (cond (decide ((c % (M.1 7)) ≤ 0)) 0 (f_sl (1 : Int64) (nI (c - 1))))]) (pk_sub (a := (M.1 7)) (b := 1) (by omega))) rfl ?_
  refine g_sfx (pc := 41) (lv := [(3, .long (cond (decide ((c % (M.1 7)) ≤ 0)) 0 (f_sl (1 : Int64) (nI (c - 1))))), (2, .int (nI (c % (M.1 7)))), (0, .ref (g_ad G 38)), (1, .int (nI c))]) (st := [.long (cond (decide ((c % (M.1 7)) < ((M.1 7) - 1))) (f_sl (1 : Int64) (nI (c + 1))) 0), .long (cond (decide ((c % (M.1 7)) ≤ 0)) 0 (f_sl (1 : Int64) (nI (c - 1))))]) (h := (g_hp G C (g_hm G M ++ ob))) (fun key => ?_) ?_
  · skip
    rcases Bool.eq_false_or_eq_true (decide ((c % (M.1 7)) < ((M.1 7) - 1))) with c29_1 | c29_1
    · skip
      have dc29_1 := of_decide_eq_true c29_1
      refine a_icmp_ge 40 32 rfl dX12_beside_29 (by decide) (fun hc => absurd hc (nI_ge (a := (c % (M.1 7))) (b := ((M.1 7) - 1)) (of_decide_eq_true c29_1) (by omega))) (fun _ => ?_)
      refine a_lconst (x := 1) 33 rfl dX12_beside_32 (by decide) ?_
      refine a_iload_n 3 34 rfl dX12_beside_33 rfl rfl ?_
      refine a_iconst (x := 1) 35 rfl dX12_beside_34 (by decide) ?_
      refine a_iadd 36 rfl dX12_beside_35 ?_
      refine a_eq (st2 := [.int (nI (c + 1)), .long 1, .long (cond (decide ((c % (M.1 7)) ≤ 0)) 0 (f_sl (1 : Int64) (nI (c - 1))))]) rfl rfl (congrArg (fun z9 => Value.int z9 :: [.long 1, .long (cond (decide ((c % (M.1 7)) ≤ 0)) 0 (f_sl (1 : Int64) (nI (c - 1))))]) (nI_add c 1)) rfl ?_
      refine a_lshl 37 rfl dX12_beside_36 ?_
      refine a_goto 41 dX12_beside_37 (by decide) ?_
      exact a_eq rfl (rfl) (by rw [c29_1]; rfl) rfl key
    · skip
      have dc29_1 := of_decide_eq_false c29_1
      refine a_icmp_ge 40 32 rfl dX12_beside_29 (by decide) (fun _ => ?_) (fun hc => absurd (nI_le (a := ((M.1 7) - 1)) (b := (c % (M.1 7))) (by have := of_decide_eq_false c29_1; omega) (by omega)) hc)
      refine a_lconst (x := 0) 41 rfl dX12_beside_40 (by decide) ?_
      exact a_eq rfl (rfl) (by rw [c29_1]; rfl) rfl key
  refine a_lor 42 rfl dX12_beside_41 ?_
  refine a_lstore_n (lv' := [(3, .long ((cond (decide ((c % (M.1 7)) ≤ 0)) 0 (f_sl (1 : Int64) (nI (c - 1)))) ||| (cond (decide ((c % (M.1 7)) < ((M.1 7) - 1))) (f_sl (1 : Int64) (nI (c + 1))) 0))), (2, .int (nI (c % (M.1 7)))), (0, .ref (g_ad G 38)), (1, .int (nI c))]) 43 rfl dX12_beside_42 rfl (by decide) rfl ?_
  refine a_lload_n 0 44 rfl dX12_beside_43 rfl rfl ?_
  refine a_iload_n 3 45 rfl dX12_beside_44 rfl rfl ?_
  refine a_aload_n 2 46 rfl dX12_beside_45 rfl rfl ?_
  refine a_get 22 cl_11 f_RX12_47_11 (by decide) (rfl) rfl 49 rfl dX12_beside_46 ?_
  refine g_sfx (pc := 64) (lv := [(3, .long ((cond (decide ((c % (M.1 7)) ≤ 0)) 0 (f_sl (1 : Int64) (nI (c - 1)))) ||| (cond (decide ((c % (M.1 7)) < ((M.1 7) - 1))) (f_sl (1 : Int64) (nI (c + 1))) 0))), (2, .int (nI (c % (M.1 7)))), (0, .ref (g_ad G 38)), (1, .int (nI c))]) (st := [.long (cond (decide (c < (M.1 7))) 0 (f_sl (1 : Int64) (nI (c - (M.1 7))))), .long ((cond (decide ((c % (M.1 7)) ≤ 0)) 0 (f_sl (1 : Int64) (nI (c - 1)))) ||| (cond (decide ((c % (M.1 7)) < ((M.1 7) - 1))) (f_sl (1 : Int64) (nI (c + 1))) 0))]) (h := (g_hp G C (g_hm G M ++ ob))) (fun key => ?_) ?_
  · skip
    rcases Bool.eq_false_or_eq_true (decide (c < (M.1 7))) with c49_1 | c49_1
    · skip
      have dc49_1 := of_decide_eq_true c49_1
      refine a_icmp_lt 63 52 rfl dX12_beside_49 (by decide) (fun _ => ?_) (fun hc => absurd (nI_lt (a := c) (b := (M.1 7)) (of_decide_eq_true c49_1) (by omega)) hc)
      refine a_lconst (x := 0) 64 rfl dX12_beside_63 (by decide) ?_
      exact a_eq rfl (rfl) (by rw [c49_1]; rfl) rfl key
    · skip
      have dc49_1 := of_decide_eq_false c49_1
      refine a_icmp_lt 63 52 rfl dX12_beside_49 (by decide) (fun hc => absurd hc (nI_nlt (a := c) (b := (M.1 7)) (by have := of_decide_eq_false c49_1; omega) (by omega))) (fun _ => ?_)
      refine a_lconst (x := 1) 53 rfl dX12_beside_52 (by decide) ?_
      refine a_iload_n 3 54 rfl dX12_beside_53 rfl rfl ?_
      refine a_aload_n 2 55 rfl dX12_beside_54 rfl rfl ?_
      refine a_get 22 cl_11 f_RX12_47_11 (by decide) (rfl) rfl 58 rfl dX12_beside_55 ?_
      refine a_isub 59 rfl dX12_beside_58 ?_
      refine a_eq (st2 := [.int (nI (c - (M.1 7))), .long 1, .long ((cond (decide ((c % (M.1 7)) ≤ 0)) 0 (f_sl (1 : Int64) (nI (c - 1)))) ||| (cond (decide ((c % (M.1 7)) < ((M.1 7) - 1))) (f_sl (1 : Int64) (nI (c + 1))) 0))]) rfl rfl (congrArg (fun z9 => Value.int z9 :: [.long 1, .long ((cond (decide ((c % (M.1 7)) ≤ 0)) 0 (f_sl (1 : Int64) (nI (c - 1)))) ||| (cond (decide ((c % (M.1 7)) < ((M.1 7) - 1))) (f_sl (1 : Int64) (nI (c + 1))) 0))]) (pk_sub (a := c) (b := (M.1 7)) (by omega))) rfl ?_
      refine a_lshl 60 rfl dX12_beside_59 ?_
      refine a_goto 64 dX12_beside_60 (by decide) ?_
      exact a_eq rfl (rfl) (by rw [c49_1]; rfl) rfl key
  refine a_lor 65 rfl dX12_beside_64 ?_
  refine a_lstore_n (lv' := [(3, .long (((cond (decide ((c % (M.1 7)) ≤ 0)) 0 (f_sl (1 : Int64) (nI (c - 1)))) ||| (cond (decide ((c % (M.1 7)) < ((M.1 7) - 1))) (f_sl (1 : Int64) (nI (c + 1))) 0)) ||| (cond (decide (c < (M.1 7))) 0 (f_sl (1 : Int64) (nI (c - (M.1 7))))))), (2, .int (nI (c % (M.1 7)))), (0, .ref (g_ad G 38)), (1, .int (nI c))]) 66 rfl dX12_beside_65 rfl (by decide) rfl ?_
  refine a_lload_n 0 67 rfl dX12_beside_66 rfl rfl ?_
  refine a_iload_n 3 68 rfl dX12_beside_67 rfl rfl ?_
  refine a_aload_n 2 69 rfl dX12_beside_68 rfl rfl ?_
  refine a_get 22 cl_11 f_RX12_47_11 (by decide) (rfl) rfl 72 rfl dX12_beside_69 ?_
  refine a_iadd 73 rfl dX12_beside_72 ?_
  refine a_eq (st2 := [.int (nI (c + (M.1 7))), .long (((cond (decide ((c % (M.1 7)) ≤ 0)) 0 (f_sl (1 : Int64) (nI (c - 1)))) ||| (cond (decide ((c % (M.1 7)) < ((M.1 7) - 1))) (f_sl (1 : Int64) (nI (c + 1))) 0)) ||| (cond (decide (c < (M.1 7))) 0 (f_sl (1 : Int64) (nI (c - (M.1 7))))))]) rfl rfl (congrArg (fun z9 => Value.int z9 :: [.long (((cond (decide ((c % (M.1 7)) ≤ 0)) 0 (f_sl (1 : Int64) (nI (c - 1)))) ||| (cond (decide ((c % (M.1 7)) < ((M.1 7) - 1))) (f_sl (1 : Int64) (nI (c + 1))) 0)) ||| (cond (decide (c < (M.1 7))) 0 (f_sl (1 : Int64) (nI (c - (M.1 7))))))]) (nI_add c (M.1 7))) rfl ?_
  refine a_aload_n 2 74 rfl dX12_beside_73 rfl rfl ?_
  refine a_callV (as := []) (rest := [.int (nI (c + (M.1 7))), .long (((cond (decide ((c % (M.1 7)) ≤ 0)) 0 (f_sl (1 : Int64) (nI (c - 1)))) ||| (cond (decide ((c % (M.1 7)) < ((M.1 7) - 1))) (f_sl (1 : Int64) (nI (c + 1))) 0)) ||| (cond (decide (c < (M.1 7))) 0 (f_sl (1 : Int64) (nI (c - (M.1 7))))))]) (st2 := [.int (nI (M.1 7 * M.1 8)), .int (nI (c + (M.1 7))), .long (((cond (decide ((c % (M.1 7)) ≤ 0)) 0 (f_sl (1 : Int64) (nI (c - 1)))) ||| (cond (decide ((c % (M.1 7)) < ((M.1 7) - 1))) (f_sl (1 : Int64) (nI (c + 1))) 0)) ||| (cond (decide (c < (M.1 7))) 0 (f_sl (1 : Int64) (nI (c - (M.1 7))))))]) (u1 := 0) (v1 := 0) (u2 := 0) (v2 := 0) (r_cellsM) (⟨_, _, _, _, rfl, rfl⟩) oX12_manyCells q_1455 q_1457 q_106 rfl (by omega) (by decide) rfl (Nat.le_of_ble_eq_true rfl) 77 rfl dX12_beside_74 rfl ?_
  refine g_sfx (pc := 92) (lv := [(3, .long (((cond (decide ((c % (M.1 7)) ≤ 0)) 0 (f_sl (1 : Int64) (nI (c - 1)))) ||| (cond (decide ((c % (M.1 7)) < ((M.1 7) - 1))) (f_sl (1 : Int64) (nI (c + 1))) 0)) ||| (cond (decide (c < (M.1 7))) 0 (f_sl (1 : Int64) (nI (c - (M.1 7))))))), (2, .int (nI (c % (M.1 7)))), (0, .ref (g_ad G 38)), (1, .int (nI c))]) (st := [.long (cond (decide ((c + (M.1 7)) < (M.1 7 * M.1 8))) (f_sl (1 : Int64) (nI (c + (M.1 7)))) 0), .long (((cond (decide ((c % (M.1 7)) ≤ 0)) 0 (f_sl (1 : Int64) (nI (c - 1)))) ||| (cond (decide ((c % (M.1 7)) < ((M.1 7) - 1))) (f_sl (1 : Int64) (nI (c + 1))) 0)) ||| (cond (decide (c < (M.1 7))) 0 (f_sl (1 : Int64) (nI (c - (M.1 7))))))]) (h := (g_hp G C (g_hm G M ++ ob))) (fun key => ?_) ?_
  · skip
    rcases Bool.eq_false_or_eq_true (decide ((c + (M.1 7)) < (M.1 7 * M.1 8))) with c77_1 | c77_1
    · skip
      have dc77_1 := of_decide_eq_true c77_1
      refine a_icmp_ge 91 80 rfl dX12_beside_77 (by decide) (fun hc => absurd hc (nI_ge (a := (c + (M.1 7))) (b := (M.1 7 * M.1 8)) (of_decide_eq_true c77_1) (by omega))) (fun _ => ?_)
      refine a_lconst (x := 1) 81 rfl dX12_beside_80 (by decide) ?_
      refine a_iload_n 3 82 rfl dX12_beside_81 rfl rfl ?_
      refine a_aload_n 2 83 rfl dX12_beside_82 rfl rfl ?_
      refine a_get 22 cl_11 f_RX12_47_11 (by decide) (rfl) rfl 86 rfl dX12_beside_83 ?_
      refine a_iadd 87 rfl dX12_beside_86 ?_
      refine a_eq (st2 := [.int (nI (c + (M.1 7))), .long 1, .long (((cond (decide ((c % (M.1 7)) ≤ 0)) 0 (f_sl (1 : Int64) (nI (c - 1)))) ||| (cond (decide ((c % (M.1 7)) < ((M.1 7) - 1))) (f_sl (1 : Int64) (nI (c + 1))) 0)) ||| (cond (decide (c < (M.1 7))) 0 (f_sl (1 : Int64) (nI (c - (M.1 7))))))]) rfl rfl (congrArg (fun z9 => Value.int z9 :: [.long 1, .long (((cond (decide ((c % (M.1 7)) ≤ 0)) 0 (f_sl (1 : Int64) (nI (c - 1)))) ||| (cond (decide ((c % (M.1 7)) < ((M.1 7) - 1))) (f_sl (1 : Int64) (nI (c + 1))) 0)) ||| (cond (decide (c < (M.1 7))) 0 (f_sl (1 : Int64) (nI (c - (M.1 7))))))]) (nI_add c (M.1 7))) rfl ?_
      refine a_lshl 88 rfl dX12_beside_87 ?_
      refine a_goto 92 dX12_beside_88 (by decide) ?_
      exact a_eq rfl (rfl) (by rw [c77_1]; rfl) rfl key
    · skip
      have dc77_1 := of_decide_eq_false c77_1
      refine a_icmp_ge 91 80 rfl dX12_beside_77 (by decide) (fun _ => ?_) (fun hc => absurd (nI_le (a := (M.1 7 * M.1 8)) (b := (c + (M.1 7))) (by have := of_decide_eq_false c77_1; omega) (by omega)) hc)
      refine a_lconst (x := 0) 92 rfl dX12_beside_91 (by decide) ?_
      exact a_eq rfl (rfl) (by rw [c77_1]; rfl) rfl key
  refine a_lor 93 rfl dX12_beside_92 ?_
  exact a_lreturn rfl (rfl) (rfl) dX12_beside_93
def f_boC (w t : Nat) (x : Int64) : Int64 := f_or (fun c => cond (f_b x c) (f_besM w t c) 0) (w * t) &&& (x ^^^ (-1))
def f_edC (w t : Nat) (x : Int64) : Nat → Nat
  | 0 => 0
  | c + 1 => f_edC w t x c + cond (f_b x c) (f_pop (f_besM w t c &&& (x ^^^ (-1)))) 0
def f_rkM (w o c : Nat) : Nat := match o with
  | 0 => c
  | 1 => 64 * (c % w + c / w) + c % w
  | _ => 64 * (cond (decide (c % w < c / w)) (c / w) (c % w)) + c
def f_akM (w o c : Nat) : Nat → Nat
  | 0 => 0
  | t + 1 => f_akM w o c t + Bool.toNat (decide (f_rkM w o t < f_rkM w o c))
theorem f_akM_le (w o c : Nat) : ∀ t, f_akM w o c t ≤ t := by
  intro t
  induction t with
  | zero => exact Nat.le_refl _
  | succ t ih => rw [f_akM]; have := Bool.toNat_le (decide (f_rkM w o t < f_rkM w o c)); omega
def f_fcM (w t o m : Nat) : Int64 := f_or (fun c => cond (decide (f_akM w o c (w * t) < m)) (f_sl 1 (nI c)) 0) (w * t)
theorem f_rk_lt {w o c : Nat} (hw : 0 < w) (hc : c < 64) : f_rkM w o c < 100000 := by
  have e1 : c % w ≤ c := Nat.mod_le _ _
  have e2 : c / w ≤ c := Nat.div_le_self _ _
  unfold f_rkM
  match o with
  | 0 => show c < _; omega
  | 1 => show 64 * (c % w + c / w) + c % w < _; omega
  | o + 2 =>
    show 64 * (cond (decide (c % w < c / w)) (c / w) (c % w)) + c < _
    cases decide (c % w < c / w) <;> simp only [cond_true, cond_false] <;> omega
theorem r_boC (hw0 : 0 < M.1 7) (hw : M.1 7 ≤ 8) (ht : M.1 8 ≤ 8) : g_Run G mX12_borderCells 3 0 0 [.ref (g_ad G 38), .long x] (g_hp G C (g_hm G M ++ ob)) (some (.long (f_boC (M.1 7) (M.1 8) x))) (g_hp G C (g_hm G M ++ ob)) := by
  have hwt : M.1 7 * M.1 8 ≤ 64 := Nat.mul_le_mul hw ht
  refine g_Run.of (lv := [(0, .ref (g_ad G 38)), (1, .long x)]) (by decide) (Nat.le_of_ble_eq_true rfl) rfl ?_
  refine a_lconst (x := 0) 1 rfl dX12_borderCells_0 (by decide) ?_
  refine a_lstore_n (lv' := [(3, .long 0), (0, .ref (g_ad G 38)), (1, .long x)]) 2 rfl dX12_borderCells_1 rfl (by decide) rfl ?_
  refine a_iconst (x := 0) 3 rfl dX12_borderCells_2 (by decide) ?_
  refine a_istore (lv' := [(5, .int 0), (3, .long 0), (0, .ref (g_ad G 38)), (1, .long x)]) 5 rfl dX12_borderCells_3 (by decide) rfl ?_
  refine a_sub (lv' := [(5, .int (nI 0)), (3, .long (f_or (fun c => cond (f_b x c) (f_besM (M.1 7) (M.1 8) c) 0) 0)), (0, .ref (g_ad G 38)), (1, .long x)]) [0, 1, 2, 3] rfl ?_
  refine g_for (P := fun c9 => True) (M.1 7 * M.1 8) (fun c9 => [(5, .int (nI c9)), (3, .long (f_or (fun c => cond (f_b x c) (f_besM (M.1 7) (M.1 8) c) 0) c9)), (0, .ref (g_ad G 38)), (1, .long x)]) (fun c9 => (g_hp G C (g_hm G M ++ ob))) (trivial) (fun c9 h_c9 p_c9 k_c9 => ?_) (fun p_c9 => ?_)
  · skip
    refine a_iload 0 7 rfl dX12_borderCells_5 rfl ?_
    refine a_aload_n 2 8 rfl dX12_borderCells_7 rfl rfl ?_
    refine a_callV (as := []) (rest := [.int (nI c9)]) (st2 := [.int (nI (M.1 7 * M.1 8)), .int (nI c9)]) (u1 := 0) (v1 := 0) (u2 := 0) (v2 := 0) (r_cellsM) (⟨_, _, _, _, rfl, rfl⟩) oX12_manyCells q_1455 q_1457 q_106 rfl (by omega) (by decide) rfl (Nat.le_of_ble_eq_true rfl) 11 rfl dX12_borderCells_8 rfl ?_
    refine a_icmp_ge 42 14 rfl dX12_borderCells_11 (by decide) (fun hc => absurd hc (nI_ge (a := c9) (b := (M.1 7 * M.1 8)) (by omega) (by omega))) (fun _ => ?_)
    refine a_lload_n 1 15 rfl dX12_borderCells_14 rfl rfl ?_
    refine a_lload_n 3 16 rfl dX12_borderCells_15 rfl rfl ?_
    refine a_iload 0 18 rfl dX12_borderCells_16 rfl ?_
    refine a_callS (as := [.long x, .int (nI c9)]) (rest := [.long (f_or (fun c => cond (f_b x c) (f_besM (M.1 7) (M.1 8) c) 0) c9)]) (st2 := [.int (f_i (f_b x c9)), .long (f_or (fun c => cond (f_b x c) (f_besM (M.1 7) (M.1 8) c) 0) c9)]) (u1 := 0) (v1 := 0) (u2 := 0) (v2 := 0) (r_hasB (s := c9) (by omega)) oX12_has q_1304 q_1305 rfl (by omega) (by decide) rfl (Nat.le_of_ble_eq_true rfl) 21 rfl dX12_borderCells_18 rfl ?_
    refine g_sfx (pc := 34) (lv := [(5, .int (nI c9)), (3, .long (f_or (fun c => cond (f_b x c) (f_besM (M.1 7) (M.1 8) c) 0) c9)), (0, .ref (g_ad G 38)), (1, .long x)]) (st := [.long (cond (f_b x c9) (f_besM (M.1 7) (M.1 8) c9) 0), .long (f_or (fun c => cond (f_b x c) (f_besM (M.1 7) (M.1 8) c) 0) c9)]) (h := (g_hp G C (g_hm G M ++ ob))) (fun key => ?_) ?_
    · skip
      rcases Bool.eq_false_or_eq_true ((f_b x c9)) with c21_1 | c21_1
      · skip
        refine a_if_eq 33 24 rfl dX12_borderCells_21 (by decide) (fun hc => absurd hc (f_i_T c21_1)) (fun _ => ?_)
        refine a_aload_n 2 25 rfl dX12_borderCells_24 rfl rfl ?_
        refine a_iload 0 27 rfl dX12_borderCells_25 rfl ?_
        refine a_callV (as := [.int (nI c9)]) (rest := [.long (f_or (fun c => cond (f_b x c) (f_besM (M.1 7) (M.1 8) c) 0) c9)]) (st2 := [.long (f_besM (M.1 7) (M.1 8) c9), .long (f_or (fun c => cond (f_b x c) (f_besM (M.1 7) (M.1 8) c) 0) c9)]) (u1 := 0) (v1 := 0) (u2 := 0) (v2 := 0) (r_besM (by omega) hw0 hw ht) (⟨_, _, _, _, rfl, rfl⟩) oX12_beside q_1463 q_1465 q_108 rfl (by omega) (by decide) rfl (Nat.le_of_ble_eq_true rfl) 30 rfl dX12_borderCells_27 rfl ?_
        refine a_goto 34 dX12_borderCells_30 (by decide) ?_
        exact a_eq rfl (rfl) (by rw [c21_1]; rfl) rfl key
      · skip
        refine a_if_eq 33 24 rfl dX12_borderCells_21 (by decide) (fun _ => ?_) (fun hc => absurd (f_i_F c21_1) hc)
        refine a_lconst (x := 0) 34 rfl dX12_borderCells_33 (by decide) ?_
        exact a_eq rfl (rfl) (by rw [c21_1]; rfl) rfl key
    refine a_lor 35 rfl dX12_borderCells_34 ?_
    refine a_lstore_n (lv' := [(3, .long ((f_or (fun c => cond (f_b x c) (f_besM (M.1 7) (M.1 8) c) 0) c9) ||| (cond (f_b x c9) (f_besM (M.1 7) (M.1 8) c9) 0))), (5, .int (nI c9)), (0, .ref (g_ad G 38)), (1, .long x)]) 36 rfl dX12_borderCells_35 rfl (by decide) rfl ?_
    refine a_iinc (y := nI (c9 + 1)) (lv' := [(5, .int (nI (c9 + 1))), (3, .long ((f_or (fun c => cond (f_b x c) (f_besM (M.1 7) (M.1 8) c) 0) c9) ||| (cond (f_b x c9) (f_besM (M.1 7) (M.1 8) c9) 0))), (0, .ref (g_ad G 38)), (1, .long x)]) 1 39 rfl dX12_borderCells_36 rfl (nI_1 c9) (by decide) rfl ?_
    refine a_goto 5 dX12_borderCells_39 (by decide) ?_
    refine a_sub (lv' := [(5, .int (nI (c9 + 1))), (3, .long (f_or (fun c => cond (f_b x c) (f_besM (M.1 7) (M.1 8) c) 0) (c9 + 1))), (0, .ref (g_ad G 38)), (1, .long x)]) [0, 1, 2, 3] rfl ?_
    exact k_c9 trivial
  · skip
    refine a_iload 0 7 rfl dX12_borderCells_5 rfl ?_
    refine a_aload_n 2 8 rfl dX12_borderCells_7 rfl rfl ?_
    refine a_callV (as := []) (rest := [.int (nI (M.1 7 * M.1 8))]) (st2 := [.int (nI (M.1 7 * M.1 8)), .int (nI (M.1 7 * M.1 8))]) (u1 := 0) (v1 := 0) (u2 := 0) (v2 := 0) (r_cellsM) (⟨_, _, _, _, rfl, rfl⟩) oX12_manyCells q_1455 q_1457 q_106 rfl (by omega) (by decide) rfl (Nat.le_of_ble_eq_true rfl) 11 rfl dX12_borderCells_8 rfl ?_
    refine a_icmp_ge 42 14 rfl dX12_borderCells_11 (by decide) (fun _ => ?_) (fun hc => absurd (nI_le (a := (M.1 7 * M.1 8)) (b := (M.1 7 * M.1 8)) (by omega) (by omega)) hc)
    refine a_lload_n 1 43 rfl dX12_borderCells_42 rfl rfl ?_
    refine a_lload_n 3 44 rfl dX12_borderCells_43 rfl rfl ?_
    refine a_ldc2 q_1260 47 rfl dX12_borderCells_44 ?_
    refine a_lxor 48 rfl dX12_borderCells_47 ?_
    refine a_land 49 rfl dX12_borderCells_48 ?_
    exact a_lreturn rfl (rfl) (rfl) dX12_borderCells_49
theorem r_edC (hw0 : 0 < M.1 7) (hw : M.1 7 ≤ 8) (ht : M.1 8 ≤ 8) : g_Run G mX12_edgesOfCells 3 0 0 [.ref (g_ad G 38), .long x] (g_hp G C (g_hm G M ++ ob)) (some (.int (nI (f_edC (M.1 7) (M.1 8) x (M.1 7 * M.1 8))))) (g_hp G C (g_hm G M ++ ob)) := by
  have hwt : M.1 7 * M.1 8 ≤ 64 := Nat.mul_le_mul hw ht
  refine g_Run.of (lv := [(0, .ref (g_ad G 38)), (1, .long x)]) (by decide) (Nat.le_of_ble_eq_true rfl) rfl ?_
  refine a_iconst (x := 0) 1 rfl dX12_edgesOfCells_0 (by decide) ?_
  refine a_istore_n (lv' := [(3, .int 0), (0, .ref (g_ad G 38)), (1, .long x)]) 2 rfl dX12_edgesOfCells_1 rfl (by decide) rfl ?_
  refine a_iconst (x := 0) 3 rfl dX12_edgesOfCells_2 (by decide) ?_
  refine a_istore (lv' := [(4, .int 0), (3, .int 0), (0, .ref (g_ad G 38)), (1, .long x)]) 5 rfl dX12_edgesOfCells_3 (by decide) rfl ?_
  refine a_sub (lv' := [(4, .int (nI 0)), (3, .int (nI (f_edC (M.1 7) (M.1 8) x 0))), (0, .ref (g_ad G 38)), (1, .long x)]) [0, 1, 2, 3] rfl ?_
  refine g_for (P := fun c9 => True) (M.1 7 * M.1 8) (fun c9 => [(4, .int (nI c9)), (3, .int (nI (f_edC (M.1 7) (M.1 8) x c9))), (0, .ref (g_ad G 38)), (1, .long x)]) (fun c9 => (g_hp G C (g_hm G M ++ ob))) (trivial) (fun c9 h_c9 p_c9 k_c9 => ?_) (fun p_c9 => ?_)
  · skip
    refine a_iload 0 7 rfl dX12_edgesOfCells_5 rfl ?_
    refine a_aload_n 2 8 rfl dX12_edgesOfCells_7 rfl rfl ?_
    refine a_callV (as := []) (rest := [.int (nI c9)]) (st2 := [.int (nI (M.1 7 * M.1 8)), .int (nI c9)]) (u1 := 0) (v1 := 0) (u2 := 0) (v2 := 0) (r_cellsM) (⟨_, _, _, _, rfl, rfl⟩) oX12_manyCells q_1455 q_1457 q_106 rfl (by omega) (by decide) rfl (Nat.le_of_ble_eq_true rfl) 11 rfl dX12_edgesOfCells_8 rfl ?_
    refine a_icmp_ge 51 14 rfl dX12_edgesOfCells_11 (by decide) (fun hc => absurd hc (nI_ge (a := c9) (b := (M.1 7 * M.1 8)) (by omega) (by omega))) (fun _ => ?_)
    refine a_iload_n 1 15 rfl dX12_edgesOfCells_14 rfl rfl ?_
    refine a_lload_n 3 16 rfl dX12_edgesOfCells_15 rfl rfl ?_
    refine a_iload 0 18 rfl dX12_edgesOfCells_16 rfl ?_
    refine a_callS (as := [.long x, .int (nI c9)]) (rest := [.int (nI (f_edC (M.1 7) (M.1 8) x c9))]) (st2 := [.int (f_i (f_b x c9)), .int (nI (f_edC (M.1 7) (M.1 8) x c9))]) (u1 := 0) (v1 := 0) (u2 := 0) (v2 := 0) (r_hasB (s := c9) (by omega)) oX12_has q_1304 q_1305 rfl (by omega) (by decide) rfl (Nat.le_of_ble_eq_true rfl) 21 rfl dX12_edgesOfCells_18 rfl ?_
    refine g_sfx (pc := 43) (lv := [(4, .int (nI c9)), (3, .int (nI (f_edC (M.1 7) (M.1 8) x c9))), (0, .ref (g_ad G 38)), (1, .long x)]) (st := [.int (nI (cond (f_b x c9) (f_pop ((f_besM (M.1 7) (M.1 8) c9) &&& (x ^^^ (-1)))) 0)), .int (nI (f_edC (M.1 7) (M.1 8) x c9))]) (h := (g_hp G C (g_hm G M ++ ob))) (fun key => ?_) ?_
    · skip
      rcases Bool.eq_false_or_eq_true ((f_b x c9)) with c21_1 | c21_1
      · skip
        refine a_if_eq 42 24 rfl dX12_edgesOfCells_21 (by decide) (fun hc => absurd hc (f_i_T c21_1)) (fun _ => ?_)
        refine a_aload_n 2 25 rfl dX12_edgesOfCells_24 rfl rfl ?_
        refine a_iload 0 27 rfl dX12_edgesOfCells_25 rfl ?_
        refine a_callV (as := [.int (nI c9)]) (rest := [.int (nI (f_edC (M.1 7) (M.1 8) x c9))]) (st2 := [.long (f_besM (M.1 7) (M.1 8) c9), .int (nI (f_edC (M.1 7) (M.1 8) x c9))]) (u1 := 0) (v1 := 0) (u2 := 0) (v2 := 0) (r_besM (by omega) hw0 hw ht) (⟨_, _, _, _, rfl, rfl⟩) oX12_beside q_1463 q_1465 q_108 rfl (by omega) (by decide) rfl (Nat.le_of_ble_eq_true rfl) 30 rfl dX12_edgesOfCells_27 rfl ?_
        refine a_lload_n 3 31 rfl dX12_edgesOfCells_30 rfl rfl ?_
        refine a_ldc2 q_1260 34 rfl dX12_edgesOfCells_31 ?_
        refine a_lxor 35 rfl dX12_edgesOfCells_34 ?_
        refine a_land 36 rfl dX12_edgesOfCells_35 ?_
        refine a_callS (as := [.long ((f_besM (M.1 7) (M.1 8) c9) &&& (x ^^^ (-1)))]) (rest := [.int (nI (f_edC (M.1 7) (M.1 8) x c9))]) (st2 := [.int (nI (f_pop ((f_besM (M.1 7) (M.1 8) c9) &&& (x ^^^ (-1))))), .int (nI (f_edC (M.1 7) (M.1 8) x c9))]) (u1 := 0) (v1 := 0) (u2 := 0) (v2 := 0) (r_many) oX12_many q_1311 q_1312 rfl (by omega) (by decide) rfl (Nat.le_of_ble_eq_true rfl) 39 rfl dX12_edgesOfCells_36 rfl ?_
        refine a_goto 43 dX12_edgesOfCells_39 (by decide) ?_
        exact a_eq rfl (rfl) (by rw [c21_1]; rfl) rfl key
      · skip
        refine a_if_eq 42 24 rfl dX12_edgesOfCells_21 (by decide) (fun _ => ?_) (fun hc => absurd (f_i_F c21_1) hc)
        refine a_iconst (x := 0) 43 rfl dX12_edgesOfCells_42 (by decide) ?_
        exact a_eq rfl (rfl) (by rw [c21_1]; rfl) rfl key
    refine a_iadd 44 rfl dX12_edgesOfCells_43 ?_
    refine a_eq (st2 := [.int (nI ((f_edC (M.1 7) (M.1 8) x c9) + (cond (f_b x c9) (f_pop ((f_besM (M.1 7) (M.1 8) c9) &&& (x ^^^ (-1)))) 0)))]) rfl rfl (congrArg (fun z9 => Value.int z9 :: []) (nI_add (f_edC (M.1 7) (M.1 8) x c9) (cond (f_b x c9) (f_pop ((f_besM (M.1 7) (M.1 8) c9) &&& (x ^^^ (-1)))) 0))) rfl ?_
    refine a_istore_n (lv' := [(3, .int (nI ((f_edC (M.1 7) (M.1 8) x c9) + (cond (f_b x c9) (f_pop ((f_besM (M.1 7) (M.1 8) c9) &&& (x ^^^ (-1)))) 0)))), (4, .int (nI c9)), (0, .ref (g_ad G 38)), (1, .long x)]) 45 rfl dX12_edgesOfCells_44 rfl (by decide) rfl ?_
    refine a_iinc (y := nI (c9 + 1)) (lv' := [(4, .int (nI (c9 + 1))), (3, .int (nI ((f_edC (M.1 7) (M.1 8) x c9) + (cond (f_b x c9) (f_pop ((f_besM (M.1 7) (M.1 8) c9) &&& (x ^^^ (-1)))) 0)))), (0, .ref (g_ad G 38)), (1, .long x)]) 1 48 rfl dX12_edgesOfCells_45 rfl (nI_1 c9) (by decide) rfl ?_
    refine a_goto 5 dX12_edgesOfCells_48 (by decide) ?_
    refine a_sub (lv' := [(4, .int (nI (c9 + 1))), (3, .int (nI (f_edC (M.1 7) (M.1 8) x (c9 + 1)))), (0, .ref (g_ad G 38)), (1, .long x)]) [0, 1, 2, 3] rfl ?_
    exact k_c9 trivial
  · skip
    refine a_iload 0 7 rfl dX12_edgesOfCells_5 rfl ?_
    refine a_aload_n 2 8 rfl dX12_edgesOfCells_7 rfl rfl ?_
    refine a_callV (as := []) (rest := [.int (nI (M.1 7 * M.1 8))]) (st2 := [.int (nI (M.1 7 * M.1 8)), .int (nI (M.1 7 * M.1 8))]) (u1 := 0) (v1 := 0) (u2 := 0) (v2 := 0) (r_cellsM) (⟨_, _, _, _, rfl, rfl⟩) oX12_manyCells q_1455 q_1457 q_106 rfl (by omega) (by decide) rfl (Nat.le_of_ble_eq_true rfl) 11 rfl dX12_edgesOfCells_8 rfl ?_
    refine a_icmp_ge 51 14 rfl dX12_edgesOfCells_11 (by decide) (fun _ => ?_) (fun hc => absurd (nI_le (a := (M.1 7 * M.1 8)) (b := (M.1 7 * M.1 8)) (by omega) (by omega)) hc)
    refine a_iload_n 1 52 rfl dX12_edgesOfCells_51 rfl rfl ?_
    exact a_ireturn .int rfl rfl (rfl) (rfl) dX12_edgesOfCells_52
theorem r_areC (hwt : M.1 7 * M.1 8 ≤ 64) : g_Run G mX12_areCells 2 0 0 [.ref (g_ad G 38), .long x] (g_hp G C (g_hm G M ++ ob)) (some (.int (f_i (decide (x &&& (f_all (M.1 7 * M.1 8) ^^^ (-1)) = 0))))) (g_hp G C (g_hm G M ++ ob)) := by
  refine g_Run.of (lv := [(0, .ref (g_ad G 38)), (1, .long x)]) (by decide) (Nat.le_of_ble_eq_true rfl) rfl ?_
  refine a_lload_n 1 1 rfl dX12_areCells_0 rfl rfl ?_
  refine a_aload_n 0 2 rfl dX12_areCells_1 rfl rfl ?_
  refine a_callV (as := []) (rest := [.long x]) (st2 := [.int (nI (M.1 7 * M.1 8)), .long x]) (u1 := 0) (v1 := 0) (u2 := 0) (v2 := 0) (r_cellsM) (⟨_, _, _, _, rfl, rfl⟩) oX12_manyCells q_1455 q_1457 q_106 rfl (by omega) (by decide) rfl (Nat.le_of_ble_eq_true rfl) 5 rfl dX12_areCells_2 rfl ?_
  refine a_callS (as := [.int (nI (M.1 7 * M.1 8))]) (rest := [.long x]) (st2 := [.long (f_all (M.1 7 * M.1 8)), .long x]) (u1 := 0) (v1 := 0) (u2 := 0) (v2 := 0) (r_bits hwt) oX12_bits q_1257 q_1258 rfl (by omega) (by decide) rfl (Nat.le_of_ble_eq_true rfl) 8 rfl dX12_areCells_5 rfl ?_
  refine a_ldc2 q_1260 11 rfl dX12_areCells_8 ?_
  refine a_lxor 12 rfl dX12_areCells_11 ?_
  refine a_land 13 rfl dX12_areCells_12 ?_
  refine a_lconst (x := 0) 14 rfl dX12_areCells_13 (by decide) ?_
  refine a_lcmp 15 rfl dX12_areCells_14 ?_
  refine g_sfx (pc := 23) (lv := [(0, .ref (g_ad G 38)), (1, .long x)]) (st := [.int (f_i (decide ((x &&& ((f_all (M.1 7 * M.1 8)) ^^^ (-1))) = 0)))]) (h := (g_hp G C (g_hm G M ++ ob))) (fun key => ?_) ?_
  · skip
    rcases Bool.eq_false_or_eq_true (decide ((x &&& ((f_all (M.1 7 * M.1 8)) ^^^ (-1))) = 0)) with c15_1 | c15_1
    · skip
      have dc15_1 := of_decide_eq_true c15_1
      refine a_if_ne 22 18 rfl dX12_areCells_15 (by decide) (fun hc => absurd (g_cmp_eq.mpr (of_decide_eq_true c15_1)) hc) (fun _ => ?_)
      refine a_iconst (x := 1) 19 rfl dX12_areCells_18 (by decide) ?_
      refine a_goto 23 dX12_areCells_19 (by decide) ?_
      exact a_eq rfl (rfl) (by rw [c15_1]; rfl) rfl key
    · skip
      have dc15_1 := of_decide_eq_false c15_1
      refine a_if_ne 22 18 rfl dX12_areCells_15 (by decide) (fun _ => ?_) (fun hc => absurd hc (g_cmp_ne.mpr (of_decide_eq_false c15_1)))
      refine a_iconst (x := 0) 23 rfl dX12_areCells_22 (by decide) ?_
      exact a_eq rfl (rfl) (by rw [c15_1]; rfl) rfl key
  exact a_ireturn .boolean rfl (f_i_nar _) (rfl) (rfl) dX12_areCells_23
theorem r_cellM_b0 (hwt : M.1 7 * M.1 8 ≤ 64) (hx : ¬ x &&& (f_all (M.1 7 * M.1 8) ^^^ (-1)) = 0) : g_Run G mX12_cells 6 0 0 [.ref (g_ad G 38), .long x, .int y] (g_hp G C (g_hm G M ++ ob)) (some (.int (-1))) (g_hp G C (g_hm G M ++ ob)) := by
  refine g_Run.of (lv := [(0, .ref (g_ad G 38)), (1, .long x), (3, .int y)]) (by decide) (Nat.le_of_ble_eq_true rfl) rfl ?_
  refine a_aload_n 0 1 rfl dX12_cells_0 rfl rfl ?_
  refine a_lload_n 1 2 rfl dX12_cells_1 rfl rfl ?_
  refine a_callV (as := [.long x]) (rest := []) (st2 := [.int (f_i (decide (x &&& (f_all (M.1 7 * M.1 8) ^^^ (-1)) = 0)))]) (u1 := 0) (v1 := 0) (u2 := 0) (v2 := 0) (r_areC hwt) (⟨_, _, _, _, rfl, rfl⟩) oX12_areCells q_1451 q_1453 q_105 rfl (by omega) (by decide) rfl (Nat.le_of_ble_eq_true rfl) 5 rfl dX12_cells_2 rfl ?_
  refine a_if_eq 18 8 rfl dX12_cells_5 (by decide) (fun _ => ?_) (fun hc => absurd (f_i_F (decide_eq_false hx)) hc)
  refine a_iconst (x := (-1)) 19 rfl dX12_cells_18 (by decide) ?_
  exact a_ireturn .int rfl rfl (rfl) (rfl) dX12_cells_19
theorem r_cellM_b1 (hwt : M.1 7 * M.1 8 ≤ 64) (hx : x &&& (f_all (M.1 7 * M.1 8) ^^^ (-1)) = 0) (hy : ¬ ((0 : Int32) ≤ y ∧ y ≤ 1)) : g_Run G mX12_cells 6 0 0 [.ref (g_ad G 38), .long x, .int y] (g_hp G C (g_hm G M ++ ob)) (some (.int (-1))) (g_hp G C (g_hm G M ++ ob)) := by
  refine g_Run.of (lv := [(0, .ref (g_ad G 38)), (1, .long x), (3, .int y)]) (by decide) (Nat.le_of_ble_eq_true rfl) rfl ?_
  refine a_aload_n 0 1 rfl dX12_cells_0 rfl rfl ?_
  refine a_lload_n 1 2 rfl dX12_cells_1 rfl rfl ?_
  refine a_callV (as := [.long x]) (rest := []) (st2 := [.int (f_i (decide (x &&& (f_all (M.1 7 * M.1 8) ^^^ (-1)) = 0)))]) (u1 := 0) (v1 := 0) (u2 := 0) (v2 := 0) (r_areC hwt) (⟨_, _, _, _, rfl, rfl⟩) oX12_areCells q_1451 q_1453 q_105 rfl (by omega) (by decide) rfl (Nat.le_of_ble_eq_true rfl) 5 rfl dX12_cells_2 rfl ?_
  refine a_if_eq 18 8 rfl dX12_cells_5 (by decide) (fun hc => absurd hc (f_i_T (decide_eq_true hx))) (fun _ => ?_)
  refine a_iload_n 2 9 rfl dX12_cells_8 rfl rfl ?_
  refine a_i2l 10 rfl dX12_cells_9 ?_
  refine a_lconst (x := 0) 11 rfl dX12_cells_10 (by decide) ?_
  refine a_lconst (x := 1) 12 rfl dX12_cells_11 (by decide) ?_
  refine a_callS (as := [.long y.toInt64, .long 0, .long 1]) (rest := []) (st2 := [.int (f_i (decide ((0 : Int32) ≤ y ∧ y ≤ 1)))]) (u1 := 0) (v1 := 0) (u2 := 0) (v2 := 0) (r_isInB (y := y) (a := 0) (b := 1) rfl rfl) oX12_isIn q_1242 q_1243 rfl (by omega) (by decide) rfl (Nat.le_of_ble_eq_true rfl) 15 rfl dX12_cells_12 rfl ?_
  refine a_if_ne 20 18 rfl dX12_cells_15 (by decide) (fun hc => absurd (f_i_F (decide_eq_false hy)) hc) (fun _ => ?_)
  refine a_iconst (x := (-1)) 19 rfl dX12_cells_18 (by decide) ?_
  exact a_ireturn .int rfl rfl (rfl) (rfl) dX12_cells_19
theorem r_cellM0 (hw0 : 0 < M.1 7) (hw : M.1 7 ≤ 8) (ht : M.1 8 ≤ 8) (hx : x &&& (f_all (M.1 7 * M.1 8) ^^^ (-1)) = 0) : g_Run G mX12_cells 6 0 0 [.ref (g_ad G 38), .long x, .int 0] (g_hp G C (g_hm G M ++ ob)) (some (.int (nI (f_pop (f_boC (M.1 7) (M.1 8) x))))) (g_hp G C (g_hm G M ++ ob)) := by
  have hwt : M.1 7 * M.1 8 ≤ 64 := Nat.mul_le_mul hw ht
  refine g_Run.of (lv := [(0, .ref (g_ad G 38)), (1, .long x), (3, .int 0)]) (by decide) (Nat.le_of_ble_eq_true rfl) rfl ?_
  refine a_aload_n 0 1 rfl dX12_cells_0 rfl rfl ?_
  refine a_lload_n 1 2 rfl dX12_cells_1 rfl rfl ?_
  refine a_callV (as := [.long x]) (rest := []) (st2 := [.int (f_i (decide (x &&& (f_all (M.1 7 * M.1 8) ^^^ (-1)) = 0)))]) (u1 := 0) (v1 := 0) (u2 := 0) (v2 := 0) (r_areC hwt) (⟨_, _, _, _, rfl, rfl⟩) oX12_areCells q_1451 q_1453 q_105 rfl (by omega) (by decide) rfl (Nat.le_of_ble_eq_true rfl) 5 rfl dX12_cells_2 rfl ?_
  refine a_if_eq 18 8 rfl dX12_cells_5 (by decide) (fun hc => absurd hc (f_i_T (decide_eq_true hx))) (fun _ => ?_)
  refine a_iload_n 2 9 rfl dX12_cells_8 rfl rfl ?_
  refine a_i2l 10 rfl dX12_cells_9 ?_
  refine a_lconst (x := 0) 11 rfl dX12_cells_10 (by decide) ?_
  refine a_lconst (x := 1) 12 rfl dX12_cells_11 (by decide) ?_
  refine a_callS (as := [.long ((0 : Int32).toInt64), .long 0, .long 1]) (rest := []) (st2 := [.int (f_i (decide ((0 : Int32) ≤ (0 : Int32) ∧ (0 : Int32) ≤ 1)))]) (u1 := 0) (v1 := 0) (u2 := 0) (v2 := 0) (r_isInB (y := (0 : Int32)) (a := 0) (b := 1) rfl rfl) oX12_isIn q_1242 q_1243 rfl (by omega) (by decide) rfl (Nat.le_of_ble_eq_true rfl) 15 rfl dX12_cells_12 rfl ?_
  refine a_if_ne 20 18 rfl dX12_cells_15 (by decide) (fun _ => ?_) (fun hc => absurd hc (f_i_T (by decide)))
  refine a_iload_n 2 21 rfl dX12_cells_20 rfl rfl ?_
  refine a_if_ne 35 24 rfl dX12_cells_21 (by decide) (fun hc => absurd (rfl) hc) (fun _ => ?_)
  refine a_aload_n 0 25 rfl dX12_cells_24 rfl rfl ?_
  refine a_lload_n 1 26 rfl dX12_cells_25 rfl rfl ?_
  refine a_callV (as := [.long x]) (rest := []) (st2 := [.long (f_boC (M.1 7) (M.1 8) x)]) (u1 := 0) (v1 := 0) (u2 := 0) (v2 := 0) (r_boC hw0 hw ht) (⟨_, _, _, _, rfl, rfl⟩) oX12_borderCells q_1459 q_1461 q_107 rfl (by omega) (by decide) rfl (Nat.le_of_ble_eq_true rfl) 29 rfl dX12_cells_26 rfl ?_
  refine a_callS (as := [.long (f_boC (M.1 7) (M.1 8) x)]) (rest := []) (st2 := [.int (nI (f_pop (f_boC (M.1 7) (M.1 8) x)))]) (u1 := 0) (v1 := 0) (u2 := 0) (v2 := 0) (r_many) oX12_many q_1311 q_1312 rfl (by omega) (by decide) rfl (Nat.le_of_ble_eq_true rfl) 32 rfl dX12_cells_29 rfl ?_
  refine a_goto 40 dX12_cells_32 (by decide) ?_
  exact a_ireturn .int rfl rfl (rfl) (rfl) dX12_cells_40

theorem r_cellM1 (hw0 : 0 < M.1 7) (hw : M.1 7 ≤ 8) (ht : M.1 8 ≤ 8) (hx : x &&& (f_all (M.1 7 * M.1 8) ^^^ (-1)) = 0) : g_Run G mX12_cells 6 0 0 [.ref (g_ad G 38), .long x, .int 1] (g_hp G C (g_hm G M ++ ob)) (some (.int (nI (f_edC (M.1 7) (M.1 8) x (M.1 7 * M.1 8))))) (g_hp G C (g_hm G M ++ ob)) := by
  have hwt : M.1 7 * M.1 8 ≤ 64 := Nat.mul_le_mul hw ht
  refine g_Run.of (lv := [(0, .ref (g_ad G 38)), (1, .long x), (3, .int 1)]) (by decide) (Nat.le_of_ble_eq_true rfl) rfl ?_
  refine a_aload_n 0 1 rfl dX12_cells_0 rfl rfl ?_
  refine a_lload_n 1 2 rfl dX12_cells_1 rfl rfl ?_
  refine a_callV (as := [.long x]) (rest := []) (st2 := [.int (f_i (decide (x &&& (f_all (M.1 7 * M.1 8) ^^^ (-1)) = 0)))]) (u1 := 0) (v1 := 0) (u2 := 0) (v2 := 0) (r_areC hwt) (⟨_, _, _, _, rfl, rfl⟩) oX12_areCells q_1451 q_1453 q_105 rfl (by omega) (by decide) rfl (Nat.le_of_ble_eq_true rfl) 5 rfl dX12_cells_2 rfl ?_
  refine a_if_eq 18 8 rfl dX12_cells_5 (by decide) (fun hc => absurd hc (f_i_T (decide_eq_true hx))) (fun _ => ?_)
  refine a_iload_n 2 9 rfl dX12_cells_8 rfl rfl ?_
  refine a_i2l 10 rfl dX12_cells_9 ?_
  refine a_lconst (x := 0) 11 rfl dX12_cells_10 (by decide) ?_
  refine a_lconst (x := 1) 12 rfl dX12_cells_11 (by decide) ?_
  refine a_callS (as := [.long ((1 : Int32).toInt64), .long 0, .long 1]) (rest := []) (st2 := [.int (f_i (decide ((0 : Int32) ≤ (1 : Int32) ∧ (1 : Int32) ≤ 1)))]) (u1 := 0) (v1 := 0) (u2 := 0) (v2 := 0) (r_isInB (y := (1 : Int32)) (a := 0) (b := 1) rfl rfl) oX12_isIn q_1242 q_1243 rfl (by omega) (by decide) rfl (Nat.le_of_ble_eq_true rfl) 15 rfl dX12_cells_12 rfl ?_
  refine a_if_ne 20 18 rfl dX12_cells_15 (by decide) (fun _ => ?_) (fun hc => absurd hc (f_i_T (by decide)))
  refine a_iload_n 2 21 rfl dX12_cells_20 rfl rfl ?_
  refine a_if_ne 35 24 rfl dX12_cells_21 (by decide) (fun _ => ?_) (fun hc => absurd hc ((by decide)))
  refine a_aload_n 0 36 rfl dX12_cells_35 rfl rfl ?_
  refine a_lload_n 1 37 rfl dX12_cells_36 rfl rfl ?_
  refine a_callV (as := [.long x]) (rest := []) (st2 := [.int (nI (f_edC (M.1 7) (M.1 8) x (M.1 7 * M.1 8)))]) (u1 := 0) (v1 := 0) (u2 := 0) (v2 := 0) (r_edC hw0 hw ht) (⟨_, _, _, _, rfl, rfl⟩) oX12_edgesOfCells q_1467 q_1469 q_109 rfl (by omega) (by decide) rfl (Nat.le_of_ble_eq_true rfl) 40 rfl dX12_cells_37 rfl ?_
  exact a_ireturn .int rfl rfl (rfl) (rfl) dX12_cells_40

theorem r_bordM_b (hwt : M.1 7 * M.1 8 ≤ 64) (hx : ¬ x &&& (f_all (M.1 7 * M.1 8) ^^^ (-1)) = 0) : g_Run G mX12_border 6 0 0 [.ref (g_ad G 38), .long x] (g_hp G C (g_hm G M ++ ob)) (some (.long (-9223372036854775808))) (g_hp G C (g_hm G M ++ ob)) := by
  refine g_Run.of (lv := [(0, .ref (g_ad G 38)), (1, .long x)]) (by decide) (Nat.le_of_ble_eq_true rfl) rfl ?_
  refine a_aload_n 0 1 rfl dX12_border_0 rfl rfl ?_
  refine a_lload_n 1 2 rfl dX12_border_1 rfl rfl ?_
  refine a_callV (as := [.long x]) (rest := []) (st2 := [.int (f_i (decide (x &&& (f_all (M.1 7 * M.1 8) ^^^ (-1)) = 0)))]) (u1 := 0) (v1 := 0) (u2 := 0) (v2 := 0) (r_areC hwt) (⟨_, _, _, _, rfl, rfl⟩) oX12_areCells q_1451 q_1453 q_105 rfl (by omega) (by decide) rfl (Nat.le_of_ble_eq_true rfl) 5 rfl dX12_border_2 rfl ?_
  refine a_if_eq 16 8 rfl dX12_border_5 (by decide) (fun _ => ?_) (fun hc => absurd (f_i_F (decide_eq_false hx)) hc)
  refine a_ldc2 q_1295 19 rfl dX12_border_16 ?_
  exact a_lreturn rfl (rfl) (rfl) dX12_border_19
theorem r_bordM (hw0 : 0 < M.1 7) (hw : M.1 7 ≤ 8) (ht : M.1 8 ≤ 8) (hx : x &&& (f_all (M.1 7 * M.1 8) ^^^ (-1)) = 0) : g_Run G mX12_border 6 0 0 [.ref (g_ad G 38), .long x] (g_hp G C (g_hm G M ++ ob)) (some (.long (f_boC (M.1 7) (M.1 8) x))) (g_hp G C (g_hm G M ++ ob)) := by
  have hwt : M.1 7 * M.1 8 ≤ 64 := Nat.mul_le_mul hw ht
  refine g_Run.of (lv := [(0, .ref (g_ad G 38)), (1, .long x)]) (by decide) (Nat.le_of_ble_eq_true rfl) rfl ?_
  refine a_aload_n 0 1 rfl dX12_border_0 rfl rfl ?_
  refine a_lload_n 1 2 rfl dX12_border_1 rfl rfl ?_
  refine a_callV (as := [.long x]) (rest := []) (st2 := [.int (f_i (decide (x &&& (f_all (M.1 7 * M.1 8) ^^^ (-1)) = 0)))]) (u1 := 0) (v1 := 0) (u2 := 0) (v2 := 0) (r_areC hwt) (⟨_, _, _, _, rfl, rfl⟩) oX12_areCells q_1451 q_1453 q_105 rfl (by omega) (by decide) rfl (Nat.le_of_ble_eq_true rfl) 5 rfl dX12_border_2 rfl ?_
  refine a_if_eq 16 8 rfl dX12_border_5 (by decide) (fun hc => absurd hc (f_i_T (decide_eq_true hx))) (fun _ => ?_)
  refine a_aload_n 0 9 rfl dX12_border_8 rfl rfl ?_
  refine a_lload_n 1 10 rfl dX12_border_9 rfl rfl ?_
  refine a_callV (as := [.long x]) (rest := []) (st2 := [.long (f_boC (M.1 7) (M.1 8) x)]) (u1 := 0) (v1 := 0) (u2 := 0) (v2 := 0) (r_boC hw0 hw ht) (⟨_, _, _, _, rfl, rfl⟩) oX12_borderCells q_1459 q_1461 q_107 rfl (by omega) (by decide) rfl (Nat.le_of_ble_eq_true rfl) 13 rfl dX12_border_10 rfl ?_
  refine a_goto 19 dX12_border_13 (by decide) ?_
  exact a_lreturn rfl (rfl) (rfl) dX12_border_19
theorem r_rkM0 (hc : c < 64) (hw0 : 0 < M.1 7) (hw : M.1 7 ≤ 8) : g_Run G mX12_rank 4 0 0 [.ref (g_ad G 38), .int 0, .int (nI c)] (g_hp G C (g_hm G M ++ ob)) (some (.int (nI (f_rkM (M.1 7) 0 c)))) (g_hp G C (g_hm G M ++ ob)) := by
  have hm1 : c % M.1 7 ≤ c := Nat.mod_le _ _
  have hm2 : c / M.1 7 ≤ c := Nat.div_le_self _ _
  have hnz : ¬ nI (M.1 7) = 0 := nI_ne0 hw0 (by omega)
  have hmx : (if nI (c % M.1 7) < nI (c / M.1 7) then nI (c / M.1 7) else nI (c % M.1 7)) = nI (cond (decide (c % M.1 7 < c / M.1 7)) (c / M.1 7) (c % M.1 7)) := by
    by_cases e1 : c % M.1 7 < c / M.1 7
    · rw [if_pos (nI_lt e1 (by omega)), decide_eq_true e1, cond_true]
    · rw [if_neg (nI_nlt (by omega) (by omega)), decide_eq_false e1, cond_false]
  refine g_Run.of (lv := [(0, .ref (g_ad G 38)), (1, .int 0), (2, .int (nI c))]) (by decide) (Nat.le_of_ble_eq_true rfl) rfl ?_
  skip
  refine a_iload_n 2 1 rfl dX12_rank_0 rfl rfl ?_
  refine a_aload_n 0 2 rfl dX12_rank_1 rfl rfl ?_
  refine a_get 22 cl_11 f_RX12_47_11 (by decide) (rfl) rfl 5 rfl dX12_rank_2 ?_
  refine a_irem 6 rfl dX12_rank_5 (hnz) ?_
  refine a_eq (st2 := [.int (nI (c % (M.1 7)))]) rfl rfl (congrArg (fun z9 => Value.int z9 :: []) (pk_rem (a := c) (d := (M.1 7)) (by omega) (by omega) (by omega))) rfl ?_
  refine a_istore_n (lv' := [(3, .int (nI (c % (M.1 7)))), (0, .ref (g_ad G 38)), (1, .int 0), (2, .int (nI c))]) 7 rfl dX12_rank_6 rfl (by decide) rfl ?_
  refine a_iload_n 3 8 rfl dX12_rank_7 rfl rfl ?_
  refine a_aload_n 1 9 rfl dX12_rank_8 rfl rfl ?_
  refine a_get 22 cl_11 f_RX12_47_11 (by decide) (rfl) rfl 12 rfl dX12_rank_9 ?_
  refine a_idiv 13 rfl dX12_rank_12 (hnz) ?_
  refine a_eq (st2 := [.int (nI (c / (M.1 7)))]) rfl rfl (congrArg (fun z9 => Value.int z9 :: []) (pk_div (a := c) (d := (M.1 7)) (by omega) (by omega) (by omega))) rfl ?_
  refine a_istore (lv' := [(4, .int (nI (c / (M.1 7)))), (3, .int (nI (c % (M.1 7)))), (0, .ref (g_ad G 38)), (1, .int 0), (2, .int (nI c))]) 15 rfl dX12_rank_13 (by decide) rfl ?_
  refine a_iload_n 3 16 rfl dX12_rank_15 rfl rfl ?_
  refine a_if_ne 23 19 rfl dX12_rank_16 (by decide) (fun hc => absurd (rfl) hc) (fun _ => ?_)
  refine a_iload_n 4 20 rfl dX12_rank_19 rfl rfl ?_
  refine a_goto 51 dX12_rank_20 (by decide) ?_
  exact a_ireturn .int rfl rfl (rfl) (rfl) dX12_rank_51

theorem r_rkM1 (hc : c < 64) (hw0 : 0 < M.1 7) (hw : M.1 7 ≤ 8) : g_Run G mX12_rank 4 0 0 [.ref (g_ad G 38), .int 1, .int (nI c)] (g_hp G C (g_hm G M ++ ob)) (some (.int (nI (f_rkM (M.1 7) 1 c)))) (g_hp G C (g_hm G M ++ ob)) := by
  have hm1 : c % M.1 7 ≤ c := Nat.mod_le _ _
  have hm2 : c / M.1 7 ≤ c := Nat.div_le_self _ _
  have hnz : ¬ nI (M.1 7) = 0 := nI_ne0 hw0 (by omega)
  have hmx : (if nI (c % M.1 7) < nI (c / M.1 7) then nI (c / M.1 7) else nI (c % M.1 7)) = nI (cond (decide (c % M.1 7 < c / M.1 7)) (c / M.1 7) (c % M.1 7)) := by
    by_cases e1 : c % M.1 7 < c / M.1 7
    · rw [if_pos (nI_lt e1 (by omega)), decide_eq_true e1, cond_true]
    · rw [if_neg (nI_nlt (by omega) (by omega)), decide_eq_false e1, cond_false]
  refine g_Run.of (lv := [(0, .ref (g_ad G 38)), (1, .int 1), (2, .int (nI c))]) (by decide) (Nat.le_of_ble_eq_true rfl) rfl ?_
  skip
  refine a_iload_n 2 1 rfl dX12_rank_0 rfl rfl ?_
  refine a_aload_n 0 2 rfl dX12_rank_1 rfl rfl ?_
  refine a_get 22 cl_11 f_RX12_47_11 (by decide) (rfl) rfl 5 rfl dX12_rank_2 ?_
  refine a_irem 6 rfl dX12_rank_5 (hnz) ?_
  refine a_eq (st2 := [.int (nI (c % (M.1 7)))]) rfl rfl (congrArg (fun z9 => Value.int z9 :: []) (pk_rem (a := c) (d := (M.1 7)) (by omega) (by omega) (by omega))) rfl ?_
  refine a_istore_n (lv' := [(3, .int (nI (c % (M.1 7)))), (0, .ref (g_ad G 38)), (1, .int 1), (2, .int (nI c))]) 7 rfl dX12_rank_6 rfl (by decide) rfl ?_
  refine a_iload_n 3 8 rfl dX12_rank_7 rfl rfl ?_
  refine a_aload_n 1 9 rfl dX12_rank_8 rfl rfl ?_
  refine a_get 22 cl_11 f_RX12_47_11 (by decide) (rfl) rfl 12 rfl dX12_rank_9 ?_
  refine a_idiv 13 rfl dX12_rank_12 (hnz) ?_
  refine a_eq (st2 := [.int (nI (c / (M.1 7)))]) rfl rfl (congrArg (fun z9 => Value.int z9 :: []) (pk_div (a := c) (d := (M.1 7)) (by omega) (by omega) (by omega))) rfl ?_
  refine a_istore (lv' := [(4, .int (nI (c / (M.1 7)))), (3, .int (nI (c % (M.1 7)))), (0, .ref (g_ad G 38)), (1, .int 1), (2, .int (nI c))]) 15 rfl dX12_rank_13 (by decide) rfl ?_
  refine a_iload_n 3 16 rfl dX12_rank_15 rfl rfl ?_
  refine a_if_ne 23 19 rfl dX12_rank_16 (by decide) (fun _ => ?_) (fun hc => absurd hc ((by decide)))
  refine a_iload_n 3 24 rfl dX12_rank_23 rfl rfl ?_
  refine a_iconst (x := 1) 25 rfl dX12_rank_24 (by decide) ?_
  refine a_icmp_ne 40 28 rfl dX12_rank_25 (by decide) (fun hc => absurd (rfl) hc) (fun _ => ?_)
  refine a_bipush (x := 64) 30 rfl dX12_rank_28 (by decide) ?_
  refine a_iload_n 1 31 rfl dX12_rank_30 rfl rfl ?_
  refine a_iload 0 33 rfl dX12_rank_31 rfl ?_
  refine a_iadd 34 rfl dX12_rank_33 ?_
  refine a_eq (st2 := [.int (nI ((c % (M.1 7)) + (c / (M.1 7)))), .int 64]) rfl rfl (congrArg (fun z9 => Value.int z9 :: [.int 64]) (nI_add (c % (M.1 7)) (c / (M.1 7)))) rfl ?_
  refine a_imul 35 rfl dX12_rank_34 ?_
  refine a_eq (st2 := [.int (nI (64 * ((c % (M.1 7)) + (c / (M.1 7)))))]) rfl rfl (congrArg (fun z9 => Value.int z9 :: []) (pk_mul 64 ((c % (M.1 7)) + (c / (M.1 7))))) rfl ?_
  refine a_iload_n 1 36 rfl dX12_rank_35 rfl rfl ?_
  refine a_iadd 37 rfl dX12_rank_36 ?_
  refine a_eq (st2 := [.int (nI ((64 * ((c % (M.1 7)) + (c / (M.1 7)))) + (c % (M.1 7))))]) rfl rfl (congrArg (fun z9 => Value.int z9 :: []) (nI_add (64 * ((c % (M.1 7)) + (c / (M.1 7)))) (c % (M.1 7)))) rfl ?_
  refine a_goto 51 dX12_rank_37 (by decide) ?_
  exact a_ireturn .int rfl rfl (rfl) (rfl) dX12_rank_51

theorem r_rkM2 (hc : c < 64) (hw0 : 0 < M.1 7) (hw : M.1 7 ≤ 8) : g_Run G mX12_rank 4 0 0 [.ref (g_ad G 38), .int 2, .int (nI c)] (g_hp G C (g_hm G M ++ ob)) (some (.int (nI (f_rkM (M.1 7) 2 c)))) (g_hp G C (g_hm G M ++ ob)) := by
  have hm1 : c % M.1 7 ≤ c := Nat.mod_le _ _
  have hm2 : c / M.1 7 ≤ c := Nat.div_le_self _ _
  have hnz : ¬ nI (M.1 7) = 0 := nI_ne0 hw0 (by omega)
  have hmx : (if nI (c % M.1 7) < nI (c / M.1 7) then nI (c / M.1 7) else nI (c % M.1 7)) = nI (cond (decide (c % M.1 7 < c / M.1 7)) (c / M.1 7) (c % M.1 7)) := by
    by_cases e1 : c % M.1 7 < c / M.1 7
    · rw [if_pos (nI_lt e1 (by omega)), decide_eq_true e1, cond_true]
    · rw [if_neg (nI_nlt (by omega) (by omega)), decide_eq_false e1, cond_false]
  refine g_Run.of (lv := [(0, .ref (g_ad G 38)), (1, .int 2), (2, .int (nI c))]) (by decide) (Nat.le_of_ble_eq_true rfl) rfl ?_
  refine a_iload_n 2 1 rfl dX12_rank_0 rfl rfl ?_
  refine a_aload_n 0 2 rfl dX12_rank_1 rfl rfl ?_
  refine a_get 22 cl_11 f_RX12_47_11 (by decide) (rfl) rfl 5 rfl dX12_rank_2 ?_
  refine a_irem 6 rfl dX12_rank_5 (hnz) ?_
  refine a_eq (st2 := [.int (nI (c % (M.1 7)))]) rfl rfl (congrArg (fun z9 => Value.int z9 :: []) (pk_rem (a := c) (d := (M.1 7)) (by omega) (by omega) (by omega))) rfl ?_
  refine a_istore_n (lv' := [(3, .int (nI (c % (M.1 7)))), (0, .ref (g_ad G 38)), (1, .int 2), (2, .int (nI c))]) 7 rfl dX12_rank_6 rfl (by decide) rfl ?_
  refine a_iload_n 3 8 rfl dX12_rank_7 rfl rfl ?_
  refine a_aload_n 1 9 rfl dX12_rank_8 rfl rfl ?_
  refine a_get 22 cl_11 f_RX12_47_11 (by decide) (rfl) rfl 12 rfl dX12_rank_9 ?_
  refine a_idiv 13 rfl dX12_rank_12 (hnz) ?_
  refine a_eq (st2 := [.int (nI (c / (M.1 7)))]) rfl rfl (congrArg (fun z9 => Value.int z9 :: []) (pk_div (a := c) (d := (M.1 7)) (by omega) (by omega) (by omega))) rfl ?_
  refine a_istore (lv' := [(4, .int (nI (c / (M.1 7)))), (3, .int (nI (c % (M.1 7)))), (0, .ref (g_ad G 38)), (1, .int 2), (2, .int (nI c))]) 15 rfl dX12_rank_13 (by decide) rfl ?_
  refine a_iload_n 3 16 rfl dX12_rank_15 rfl rfl ?_
  refine a_if_ne 23 19 rfl dX12_rank_16 (by decide) (fun _ => ?_) (fun hc => absurd hc ((by decide)))
  refine a_iload_n 3 24 rfl dX12_rank_23 rfl rfl ?_
  refine a_iconst (x := 1) 25 rfl dX12_rank_24 (by decide) ?_
  refine a_icmp_ne 40 28 rfl dX12_rank_25 (by decide) (fun _ => ?_) (fun hc => absurd hc ((by decide)))
  refine a_bipush (x := 64) 42 rfl dX12_rank_40 (by decide) ?_
  refine a_iload_n 1 43 rfl dX12_rank_42 rfl rfl ?_
  refine a_iload 0 45 rfl dX12_rank_43 rfl ?_
  refine a_maxII q_1487 q_613 q_134 q_614 (by omega) (Nat.le_of_ble_eq_true rfl) 48 rfl dX12_rank_45 ?_
  refine a_eq (st2 := [.int (nI (cond (decide (c % M.1 7 < c / M.1 7)) (c / M.1 7) (c % M.1 7))), .int 64]) rfl rfl (congrArg (fun z9 => Value.int z9 :: [.int 64]) (hmx)) rfl ?_
  refine a_imul 49 rfl dX12_rank_48 ?_
  refine a_eq (st2 := [.int (nI (64 * (cond (decide (c % M.1 7 < c / M.1 7)) (c / M.1 7) (c % M.1 7))))]) rfl rfl (congrArg (fun z9 => Value.int z9 :: []) (pk_mul 64 (cond (decide (c % M.1 7 < c / M.1 7)) (c / M.1 7) (c % M.1 7)))) rfl ?_
  refine a_iload_n 4 50 rfl dX12_rank_49 rfl rfl ?_
  refine a_iadd 51 rfl dX12_rank_50 ?_
  refine a_eq (st2 := [.int (nI ((64 * (cond (decide (c % M.1 7 < c / M.1 7)) (c / M.1 7) (c % M.1 7))) + c))]) rfl rfl (congrArg (fun z9 => Value.int z9 :: []) (nI_add (64 * (cond (decide (c % M.1 7 < c / M.1 7)) (c / M.1 7) (c % M.1 7))) c)) rfl ?_
  exact a_ireturn .int rfl rfl (rfl) (rfl) dX12_rank_51

theorem r_rkM (ho : o < 3) (hc : c < 64) (hw0 : 0 < M.1 7) (hw : M.1 7 ≤ 8) : g_Run G mX12_rank 4 0 0 [.ref (g_ad G 38), .int (nI o), .int (nI c)] (g_hp G C (g_hm G M ++ ob)) (some (.int (nI (f_rkM (M.1 7) o c)))) (g_hp G C (g_hm G M ++ ob)) := by
  match o, ho with
  | 0, _ => exact r_rkM0 hc hw0 hw
  | 1, _ => exact r_rkM1 hc hw0 hw
  | 2, _ => exact r_rkM2 hc hw0 hw
theorem r_fcM (ho : o < 3) (hm : m ≤ 64) (hw0 : 0 < M.1 7) (hw : M.1 7 ≤ 8) (ht : M.1 8 ≤ 8) : g_Run G mX12_firstsOfCells 5 0 0 [.ref (g_ad G 38), .int (nI o), .int (nI m)] (g_hp G C (g_hm G M ++ ob)) (some (.long (f_fcM (M.1 7) (M.1 8) o m))) (g_hp G C (g_hm G M ++ ob)) := by
  have hwt : M.1 7 * M.1 8 ≤ 64 := Nat.mul_le_mul hw ht
  refine g_Run.of (lv := [(0, .ref (g_ad G 38)), (1, .int (nI o)), (2, .int (nI m))]) (by decide) (Nat.le_of_ble_eq_true rfl) rfl ?_
  refine a_lconst (x := 0) 1 rfl dX12_firstsOfCells_0 (by decide) ?_
  refine a_lstore_n (lv' := [(3, .long 0), (0, .ref (g_ad G 38)), (1, .int (nI o)), (2, .int (nI m))]) 2 rfl dX12_firstsOfCells_1 rfl (by decide) rfl ?_
  refine a_iconst (x := 0) 3 rfl dX12_firstsOfCells_2 (by decide) ?_
  refine a_istore (lv' := [(5, .int 0), (3, .long 0), (0, .ref (g_ad G 38)), (1, .int (nI o)), (2, .int (nI m))]) 5 rfl dX12_firstsOfCells_3 (by decide) rfl ?_
  refine a_sub (lv' := [(5, .int (nI 0)), (3, .long (f_or (fun c => cond (decide (f_akM (M.1 7) o c (M.1 7 * M.1 8) < m)) (f_sl 1 (nI c)) 0) 0)), (0, .ref (g_ad G 38)), (1, .int (nI o)), (2, .int (nI m))]) [0, 1, 2, 3, 4] rfl ?_
  refine g_for (P := fun c9 => True) (M.1 7 * M.1 8) (fun c9 => [(5, .int (nI c9)), (3, .long (f_or (fun c => cond (decide (f_akM (M.1 7) o c (M.1 7 * M.1 8) < m)) (f_sl 1 (nI c)) 0) c9)), (0, .ref (g_ad G 38)), (1, .int (nI o)), (2, .int (nI m))]) (fun c9 => (g_hp G C (g_hm G M ++ ob))) (trivial) (fun c9 h_c9 p_c9 k_c9 => ?_) (fun p_c9 => ?_)
  · skip
    have hl := f_akM_le (M.1 7) o c9 (M.1 7 * M.1 8)
    have hr1 := f_rk_lt (w := M.1 7) (o := o) (c := c9) hw0 (by omega)
    refine a_iload 0 7 rfl dX12_firstsOfCells_5 rfl ?_
    refine a_aload_n 2 8 rfl dX12_firstsOfCells_7 rfl rfl ?_
    refine a_callV (as := []) (rest := [.int (nI c9)]) (st2 := [.int (nI (M.1 7 * M.1 8)), .int (nI c9)]) (u1 := 0) (v1 := 0) (u2 := 0) (v2 := 0) (r_cellsM) (⟨_, _, _, _, rfl, rfl⟩) oX12_manyCells q_1455 q_1457 q_106 rfl (by omega) (by decide) rfl (Nat.le_of_ble_eq_true rfl) 11 rfl dX12_firstsOfCells_8 rfl ?_
    refine a_icmp_ge 85 14 rfl dX12_firstsOfCells_11 (by decide) (fun hc => absurd hc (nI_ge (a := c9) (b := (M.1 7 * M.1 8)) (by omega) (by omega))) (fun _ => ?_)
    refine a_iconst (x := 0) 15 rfl dX12_firstsOfCells_14 (by decide) ?_
    refine a_istore (lv' := [(6, .int 0), (5, .int (nI c9)), (3, .long (f_or (fun c => cond (decide (f_akM (M.1 7) o c (M.1 7 * M.1 8) < m)) (f_sl 1 (nI c)) 0) c9)), (0, .ref (g_ad G 38)), (1, .int (nI o)), (2, .int (nI m))]) 17 rfl dX12_firstsOfCells_15 (by decide) rfl ?_
    refine a_iconst (x := 0) 18 rfl dX12_firstsOfCells_17 (by decide) ?_
    refine a_istore (lv' := [(7, .int 0), (6, .int 0), (5, .int (nI c9)), (3, .long (f_or (fun c => cond (decide (f_akM (M.1 7) o c (M.1 7 * M.1 8) < m)) (f_sl 1 (nI c)) 0) c9)), (0, .ref (g_ad G 38)), (1, .int (nI o)), (2, .int (nI m))]) 20 rfl dX12_firstsOfCells_18 (by decide) rfl ?_
    refine a_sub (lv' := [(7, .int (nI 0)), (6, .int (nI (f_akM (M.1 7) o c9 0))), (5, .int (nI c9)), (3, .long (f_or (fun c => cond (decide (f_akM (M.1 7) o c (M.1 7 * M.1 8) < m)) (f_sl 1 (nI c)) 0) c9)), (0, .ref (g_ad G 38)), (1, .int (nI o)), (2, .int (nI m))]) [0, 1, 2, 3, 4, 5, 6] rfl ?_
    refine g_for (P := fun t9 => True) (M.1 7 * M.1 8) (fun t9 => [(7, .int (nI t9)), (6, .int (nI (f_akM (M.1 7) o c9 t9))), (5, .int (nI c9)), (3, .long (f_or (fun c => cond (decide (f_akM (M.1 7) o c (M.1 7 * M.1 8) < m)) (f_sl 1 (nI c)) 0) c9)), (0, .ref (g_ad G 38)), (1, .int (nI o)), (2, .int (nI m))]) (fun t9 => (g_hp G C (g_hm G M ++ ob))) (trivial) (fun t9 h_t9 p_t9 k_t9 => ?_) (fun p_t9 => ?_)
    · skip
      have hr2 := f_rk_lt (w := M.1 7) (o := o) (c := t9) hw0 (by omega)
      refine a_iload 0 22 rfl dX12_firstsOfCells_20 rfl ?_
      refine a_aload_n 4 23 rfl dX12_firstsOfCells_22 rfl rfl ?_
      refine a_callV (as := []) (rest := [.int (nI t9)]) (st2 := [.int (nI (M.1 7 * M.1 8)), .int (nI t9)]) (u1 := 0) (v1 := 0) (u2 := 0) (v2 := 0) (r_cellsM) (⟨_, _, _, _, rfl, rfl⟩) oX12_manyCells q_1455 q_1457 q_106 rfl (by omega) (by decide) rfl (Nat.le_of_ble_eq_true rfl) 26 rfl dX12_firstsOfCells_23 rfl ?_
      refine a_icmp_ge 62 29 rfl dX12_firstsOfCells_26 (by decide) (fun hc => absurd hc (nI_ge (a := t9) (b := (M.1 7 * M.1 8)) (by omega) (by omega))) (fun _ => ?_)
      refine a_iload 1 31 rfl dX12_firstsOfCells_29 rfl ?_
      refine a_aload_n 4 32 rfl dX12_firstsOfCells_31 rfl rfl ?_
      refine a_iload_n 5 33 rfl dX12_firstsOfCells_32 rfl rfl ?_
      refine a_iload 0 35 rfl dX12_firstsOfCells_33 rfl ?_
      refine a_callV (as := [.int (nI o), .int (nI t9)]) (rest := [.int (nI (f_akM (M.1 7) o c9 t9))]) (st2 := [.int (nI (f_rkM (M.1 7) o t9)), .int (nI (f_akM (M.1 7) o c9 t9))]) (u1 := 0) (v1 := 0) (u2 := 0) (v2 := 0) (r_rkM ho (c := t9) (by omega) hw0 hw) (⟨_, _, _, _, rfl, rfl⟩) oX12_rank q_1483 q_1485 q_111 rfl (by omega) (by decide) rfl (Nat.le_of_ble_eq_true rfl) 38 rfl dX12_firstsOfCells_35 rfl ?_
      refine a_aload_n 4 39 rfl dX12_firstsOfCells_38 rfl rfl ?_
      refine a_iload_n 5 40 rfl dX12_firstsOfCells_39 rfl rfl ?_
      refine a_iload 2 42 rfl dX12_firstsOfCells_40 rfl ?_
      refine a_callV (as := [.int (nI o), .int (nI c9)]) (rest := [.int (nI (f_rkM (M.1 7) o t9)), .int (nI (f_akM (M.1 7) o c9 t9))]) (st2 := [.int (nI (f_rkM (M.1 7) o c9)), .int (nI (f_rkM (M.1 7) o t9)), .int (nI (f_akM (M.1 7) o c9 t9))]) (u1 := 0) (v1 := 0) (u2 := 0) (v2 := 0) (r_rkM ho (c := c9) (by omega) hw0 hw) (⟨_, _, _, _, rfl, rfl⟩) oX12_rank q_1483 q_1485 q_111 rfl (by omega) (by decide) rfl (Nat.le_of_ble_eq_true rfl) 45 rfl dX12_firstsOfCells_42 rfl ?_
      refine g_sfx (pc := 53) (lv := [(7, .int (nI t9)), (6, .int (nI (f_akM (M.1 7) o c9 t9))), (5, .int (nI c9)), (3, .long (f_or (fun c => cond (decide (f_akM (M.1 7) o c (M.1 7 * M.1 8) < m)) (f_sl 1 (nI c)) 0) c9)), (0, .ref (g_ad G 38)), (1, .int (nI o)), (2, .int (nI m))]) (st := [.int (f_i (decide ((f_rkM (M.1 7) o t9) < (f_rkM (M.1 7) o c9)))), .int (nI (f_akM (M.1 7) o c9 t9))]) (h := (g_hp G C (g_hm G M ++ ob))) (fun key => ?_) ?_
      · skip
        rcases Bool.eq_false_or_eq_true (decide ((f_rkM (M.1 7) o t9) < (f_rkM (M.1 7) o c9))) with c45_1 | c45_1
        · skip
          have dc45_1 := of_decide_eq_true c45_1
          refine a_icmp_ge 52 48 rfl dX12_firstsOfCells_45 (by decide) (fun hc => absurd hc (nI_ge (a := (f_rkM (M.1 7) o t9)) (b := (f_rkM (M.1 7) o c9)) (of_decide_eq_true c45_1) (by omega))) (fun _ => ?_)
          refine a_iconst (x := 1) 49 rfl dX12_firstsOfCells_48 (by decide) ?_
          refine a_goto 53 dX12_firstsOfCells_49 (by decide) ?_
          exact a_eq rfl (rfl) (by rw [c45_1]; rfl) rfl key
        · skip
          have dc45_1 := of_decide_eq_false c45_1
          refine a_icmp_ge 52 48 rfl dX12_firstsOfCells_45 (by decide) (fun _ => ?_) (fun hc => absurd (nI_le (a := (f_rkM (M.1 7) o c9)) (b := (f_rkM (M.1 7) o t9)) (by have := of_decide_eq_false c45_1; omega) (by omega)) hc)
          refine a_iconst (x := 0) 53 rfl dX12_firstsOfCells_52 (by decide) ?_
          exact a_eq rfl (rfl) (by rw [c45_1]; rfl) rfl key
      refine a_iadd 54 rfl dX12_firstsOfCells_53 ?_
      refine a_eq (st2 := [.int (nI ((f_akM (M.1 7) o c9 t9) + Bool.toNat (decide ((f_rkM (M.1 7) o t9) < (f_rkM (M.1 7) o c9)))))]) rfl rfl (congrArg (fun z9 => Value.int z9 :: []) (f_i_add (f_akM (M.1 7) o c9 t9) (decide ((f_rkM (M.1 7) o t9) < (f_rkM (M.1 7) o c9))))) rfl ?_
      refine a_istore (lv' := [(6, .int (nI ((f_akM (M.1 7) o c9 t9) + Bool.toNat (decide ((f_rkM (M.1 7) o t9) < (f_rkM (M.1 7) o c9)))))), (7, .int (nI t9)), (5, .int (nI c9)), (3, .long (f_or (fun c => cond (decide (f_akM (M.1 7) o c (M.1 7 * M.1 8) < m)) (f_sl 1 (nI c)) 0) c9)), (0, .ref (g_ad G 38)), (1, .int (nI o)), (2, .int (nI m))]) 56 rfl dX12_firstsOfCells_54 (by decide) rfl ?_
      refine a_iinc (y := nI (t9 + 1)) (lv' := [(7, .int (nI (t9 + 1))), (6, .int (nI ((f_akM (M.1 7) o c9 t9) + Bool.toNat (decide ((f_rkM (M.1 7) o t9) < (f_rkM (M.1 7) o c9)))))), (5, .int (nI c9)), (3, .long (f_or (fun c => cond (decide (f_akM (M.1 7) o c (M.1 7 * M.1 8) < m)) (f_sl 1 (nI c)) 0) c9)), (0, .ref (g_ad G 38)), (1, .int (nI o)), (2, .int (nI m))]) 1 59 rfl dX12_firstsOfCells_56 rfl (nI_1 t9) (by decide) rfl ?_
      refine a_goto 20 dX12_firstsOfCells_59 (by decide) ?_
      refine a_sub (lv' := [(7, .int (nI (t9 + 1))), (6, .int (nI (f_akM (M.1 7) o c9 (t9 + 1)))), (5, .int (nI c9)), (3, .long (f_or (fun c => cond (decide (f_akM (M.1 7) o c (M.1 7 * M.1 8) < m)) (f_sl 1 (nI c)) 0) c9)), (0, .ref (g_ad G 38)), (1, .int (nI o)), (2, .int (nI m))]) [0, 1, 2, 3, 4, 5, 6] rfl ?_
      exact k_t9 trivial
    · skip
      refine a_iload 0 22 rfl dX12_firstsOfCells_20 rfl ?_
      refine a_aload_n 4 23 rfl dX12_firstsOfCells_22 rfl rfl ?_
      refine a_callV (as := []) (rest := [.int (nI (M.1 7 * M.1 8))]) (st2 := [.int (nI (M.1 7 * M.1 8)), .int (nI (M.1 7 * M.1 8))]) (u1 := 0) (v1 := 0) (u2 := 0) (v2 := 0) (r_cellsM) (⟨_, _, _, _, rfl, rfl⟩) oX12_manyCells q_1455 q_1457 q_106 rfl (by omega) (by decide) rfl (Nat.le_of_ble_eq_true rfl) 26 rfl dX12_firstsOfCells_23 rfl ?_
      refine a_icmp_ge 62 29 rfl dX12_firstsOfCells_26 (by decide) (fun _ => ?_) (fun hc => absurd (nI_le (a := (M.1 7 * M.1 8)) (b := (M.1 7 * M.1 8)) (by omega) (by omega)) hc)
      refine a_lload_n 3 63 rfl dX12_firstsOfCells_62 rfl rfl ?_
      refine a_iload 1 65 rfl dX12_firstsOfCells_63 rfl ?_
      refine a_iload_n 6 66 rfl dX12_firstsOfCells_65 rfl rfl ?_
      refine g_sfx (pc := 77) (lv := [(7, .int (nI (M.1 7 * M.1 8))), (6, .int (nI (f_akM (M.1 7) o c9 (M.1 7 * M.1 8)))), (5, .int (nI c9)), (3, .long (f_or (fun c => cond (decide (f_akM (M.1 7) o c (M.1 7 * M.1 8) < m)) (f_sl 1 (nI c)) 0) c9)), (0, .ref (g_ad G 38)), (1, .int (nI o)), (2, .int (nI m))]) (st := [.long (cond (decide ((f_akM (M.1 7) o c9 (M.1 7 * M.1 8)) < m)) (f_sl (1 : Int64) (nI c9)) 0), .long (f_or (fun c => cond (decide (f_akM (M.1 7) o c (M.1 7 * M.1 8) < m)) (f_sl 1 (nI c)) 0) c9)]) (h := (g_hp G C (g_hm G M ++ ob))) (fun key => ?_) ?_
      · skip
        rcases Bool.eq_false_or_eq_true (decide ((f_akM (M.1 7) o c9 (M.1 7 * M.1 8)) < m)) with c66_1 | c66_1
        · skip
          have dc66_1 := of_decide_eq_true c66_1
          refine a_icmp_ge 76 69 rfl dX12_firstsOfCells_66 (by decide) (fun hc => absurd hc (nI_ge (a := (f_akM (M.1 7) o c9 (M.1 7 * M.1 8))) (b := m) (of_decide_eq_true c66_1) (by omega))) (fun _ => ?_)
          refine a_lconst (x := 1) 70 rfl dX12_firstsOfCells_69 (by decide) ?_
          refine a_iload 2 72 rfl dX12_firstsOfCells_70 rfl ?_
          refine a_lshl 73 rfl dX12_firstsOfCells_72 ?_
          refine a_goto 77 dX12_firstsOfCells_73 (by decide) ?_
          exact a_eq rfl (rfl) (by rw [c66_1]; rfl) rfl key
        · skip
          have dc66_1 := of_decide_eq_false c66_1
          refine a_icmp_ge 76 69 rfl dX12_firstsOfCells_66 (by decide) (fun _ => ?_) (fun hc => absurd (nI_le (a := m) (b := (f_akM (M.1 7) o c9 (M.1 7 * M.1 8))) (by have := of_decide_eq_false c66_1; omega) (by omega)) hc)
          refine a_lconst (x := 0) 77 rfl dX12_firstsOfCells_76 (by decide) ?_
          exact a_eq rfl (rfl) (by rw [c66_1]; rfl) rfl key
      refine a_lor 78 rfl dX12_firstsOfCells_77 ?_
      refine a_lstore_n (lv' := [(3, .long ((f_or (fun c => cond (decide (f_akM (M.1 7) o c (M.1 7 * M.1 8) < m)) (f_sl 1 (nI c)) 0) c9) ||| (cond (decide ((f_akM (M.1 7) o c9 (M.1 7 * M.1 8)) < m)) (f_sl (1 : Int64) (nI c9)) 0))), (7, .int (nI (M.1 7 * M.1 8))), (6, .int (nI (f_akM (M.1 7) o c9 (M.1 7 * M.1 8)))), (5, .int (nI c9)), (0, .ref (g_ad G 38)), (1, .int (nI o)), (2, .int (nI m))]) 79 rfl dX12_firstsOfCells_78 rfl (by decide) rfl ?_
      refine a_iinc (y := nI (c9 + 1)) (lv' := [(5, .int (nI (c9 + 1))), (3, .long ((f_or (fun c => cond (decide (f_akM (M.1 7) o c (M.1 7 * M.1 8) < m)) (f_sl 1 (nI c)) 0) c9) ||| (cond (decide ((f_akM (M.1 7) o c9 (M.1 7 * M.1 8)) < m)) (f_sl (1 : Int64) (nI c9)) 0))), (7, .int (nI (M.1 7 * M.1 8))), (6, .int (nI (f_akM (M.1 7) o c9 (M.1 7 * M.1 8)))), (0, .ref (g_ad G 38)), (1, .int (nI o)), (2, .int (nI m))]) 3 82 rfl dX12_firstsOfCells_79 rfl (nI_1 c9) (by decide) rfl ?_
      refine a_goto 5 dX12_firstsOfCells_82 (by decide) ?_
      refine a_sub (lv' := [(5, .int (nI (c9 + 1))), (3, .long (f_or (fun c => cond (decide (f_akM (M.1 7) o c (M.1 7 * M.1 8) < m)) (f_sl 1 (nI c)) 0) (c9 + 1))), (0, .ref (g_ad G 38)), (1, .int (nI o)), (2, .int (nI m))]) [0, 1, 4, 5, 6] rfl ?_
      exact k_c9 trivial
  · skip
    refine a_iload 0 7 rfl dX12_firstsOfCells_5 rfl ?_
    refine a_aload_n 2 8 rfl dX12_firstsOfCells_7 rfl rfl ?_
    refine a_callV (as := []) (rest := [.int (nI (M.1 7 * M.1 8))]) (st2 := [.int (nI (M.1 7 * M.1 8)), .int (nI (M.1 7 * M.1 8))]) (u1 := 0) (v1 := 0) (u2 := 0) (v2 := 0) (r_cellsM) (⟨_, _, _, _, rfl, rfl⟩) oX12_manyCells q_1455 q_1457 q_106 rfl (by omega) (by decide) rfl (Nat.le_of_ble_eq_true rfl) 11 rfl dX12_firstsOfCells_8 rfl ?_
    refine a_icmp_ge 85 14 rfl dX12_firstsOfCells_11 (by decide) (fun _ => ?_) (fun hc => absurd (nI_le (a := (M.1 7 * M.1 8)) (b := (M.1 7 * M.1 8)) (by omega) (by omega)) hc)
    refine a_lload_n 1 86 rfl dX12_firstsOfCells_85 rfl rfl ?_
    exact a_lreturn rfl (rfl) (rfl) dX12_firstsOfCells_86
theorem r_fcsM_bad (hy : ¬ (((0 : Int32) ≤ y ∧ y ≤ 2) ∧ ((0 : Int32) ≤ y2 ∧ y2 ≤ nI (M.1 7 * M.1 8)))) : g_Run G mX12_firstCells 6 0 0 [.ref (g_ad G 38), .int y, .int y2] (g_hp G C (g_hm G M ++ ob)) (some (.long (-9223372036854775808))) (g_hp G C (g_hm G M ++ ob)) := by
  refine g_Run.of (lv := [(0, .ref (g_ad G 38)), (1, .int y), (2, .int y2)]) (by decide) (Nat.le_of_ble_eq_true rfl) rfl ?_
  refine a_iload_n 1 1 rfl dX12_firstCells_0 rfl rfl ?_
  refine a_i2l 2 rfl dX12_firstCells_1 ?_
  refine a_lconst (x := 0) 3 rfl dX12_firstCells_2 (by decide) ?_
  refine a_ldc2 q_1404 6 rfl dX12_firstCells_3 ?_
  refine a_callS (as := [.long y.toInt64, .long 0, .long 2]) (rest := []) (st2 := [.int (f_i (decide ((0 : Int32) ≤ y ∧ y ≤ 2)))]) (u1 := 0) (v1 := 0) (u2 := 0) (v2 := 0) (r_isInB (y := y) (a := 0) (b := 2) rfl rfl) oX12_isIn q_1242 q_1243 rfl (by omega) (by decide) rfl (Nat.le_of_ble_eq_true rfl) 9 rfl dX12_firstCells_6 rfl ?_
  rcases Bool.eq_false_or_eq_true (decide ((0 : Int32) ≤ y ∧ y ≤ 2)) with e1 | e1
  · skip
    refine a_if_eq 35 12 rfl dX12_firstCells_9 (by decide) (fun hc => absurd hc (f_i_T e1)) (fun _ => ?_)
    refine a_iload_n 2 13 rfl dX12_firstCells_12 rfl rfl ?_
    refine a_i2l 14 rfl dX12_firstCells_13 ?_
    refine a_lconst (x := 0) 15 rfl dX12_firstCells_14 (by decide) ?_
    refine a_aload_n 0 16 rfl dX12_firstCells_15 rfl rfl ?_
    refine a_callV (as := []) (rest := [.long 0, .long y2.toInt64]) (st2 := [.int (nI (M.1 7 * M.1 8)), .long 0, .long y2.toInt64]) (u1 := 0) (v1 := 0) (u2 := 0) (v2 := 0) (r_cellsM) (⟨_, _, _, _, rfl, rfl⟩) oX12_manyCells q_1455 q_1457 q_106 rfl (by omega) (by decide) rfl (Nat.le_of_ble_eq_true rfl) 19 rfl dX12_firstCells_16 rfl ?_
    refine a_i2l 20 rfl dX12_firstCells_19 ?_
    refine a_callS (as := [.long y2.toInt64, .long 0, .long ((nI (M.1 7 * M.1 8)).toInt64)]) (rest := []) (st2 := [.int (f_i (decide ((0 : Int32) ≤ y2 ∧ y2 ≤ (nI (M.1 7 * M.1 8)))))]) (u1 := 0) (v1 := 0) (u2 := 0) (v2 := 0) (r_isInB (y := y2) (a := 0) (b := (nI (M.1 7 * M.1 8))) rfl rfl) oX12_isIn q_1242 q_1243 rfl (by omega) (by decide) rfl (Nat.le_of_ble_eq_true rfl) 23 rfl dX12_firstCells_20 rfl ?_
    refine a_if_eq 35 26 rfl dX12_firstCells_23 (by decide) (fun _ => ?_) (fun hc => absurd (f_i_F (decide_eq_false (fun z9 => hy ⟨of_decide_eq_true e1, z9⟩))) hc)
    refine a_ldc2 q_1295 38 rfl dX12_firstCells_35 ?_
    exact a_lreturn rfl (rfl) (rfl) dX12_firstCells_38
  · skip
    refine a_if_eq 35 12 rfl dX12_firstCells_9 (by decide) (fun _ => ?_) (fun hc => absurd (f_i_F e1) hc)
    refine a_ldc2 q_1295 38 rfl dX12_firstCells_35 ?_
    exact a_lreturn rfl (rfl) (rfl) dX12_firstCells_38
theorem f_or2 {o : Nat} (ho : o < 3) : decide ((0 : Int32) ≤ nI o ∧ nI o ≤ 2) = true := decide_eq_true ⟨nI_pos' (by omega), nI_le (b := 2) (by omega) (by omega)⟩
theorem r_fcsM (ho : o < 3) (hw0 : 0 < M.1 7) (hw : M.1 7 ≤ 8) (ht : M.1 8 ≤ 8) (hm : m ≤ M.1 7 * M.1 8) : g_Run G mX12_firstCells 6 0 0 [.ref (g_ad G 38), .int (nI o), .int (nI m)] (g_hp G C (g_hm G M ++ ob)) (some (.long (f_fcM (M.1 7) (M.1 8) o m))) (g_hp G C (g_hm G M ++ ob)) := by
  have hwt : M.1 7 * M.1 8 ≤ 64 := Nat.mul_le_mul hw ht
  have hy : (0 : Int32) ≤ nI m ∧ nI m ≤ nI (M.1 7 * M.1 8) := ⟨nI_pos' (by omega), nI_le (by omega) (by omega)⟩
  refine g_Run.of (lv := [(0, .ref (g_ad G 38)), (1, .int (nI o)), (2, .int (nI m))]) (by decide) (Nat.le_of_ble_eq_true rfl) rfl ?_
  refine a_iload_n 1 1 rfl dX12_firstCells_0 rfl rfl ?_
  refine a_i2l 2 rfl dX12_firstCells_1 ?_
  refine a_lconst (x := 0) 3 rfl dX12_firstCells_2 (by decide) ?_
  refine a_ldc2 q_1404 6 rfl dX12_firstCells_3 ?_
  refine a_callS (as := [.long ((nI o).toInt64), .long 0, .long 2]) (rest := []) (st2 := [.int (f_i (decide ((0 : Int32) ≤ (nI o) ∧ (nI o) ≤ 2)))]) (u1 := 0) (v1 := 0) (u2 := 0) (v2 := 0) (r_isInB (y := (nI o)) (a := 0) (b := 2) rfl rfl) oX12_isIn q_1242 q_1243 rfl (by omega) (by decide) rfl (Nat.le_of_ble_eq_true rfl) 9 rfl dX12_firstCells_6 rfl ?_
  refine a_if_eq 35 12 rfl dX12_firstCells_9 (by decide) (fun hc => absurd hc (f_i_T (f_or2 ho))) (fun _ => ?_)
  refine a_iload_n 2 13 rfl dX12_firstCells_12 rfl rfl ?_
  refine a_i2l 14 rfl dX12_firstCells_13 ?_
  refine a_lconst (x := 0) 15 rfl dX12_firstCells_14 (by decide) ?_
  refine a_aload_n 0 16 rfl dX12_firstCells_15 rfl rfl ?_
  refine a_callV (as := []) (rest := [.long 0, .long ((nI m).toInt64)]) (st2 := [.int (nI (M.1 7 * M.1 8)), .long 0, .long ((nI m).toInt64)]) (u1 := 0) (v1 := 0) (u2 := 0) (v2 := 0) (r_cellsM) (⟨_, _, _, _, rfl, rfl⟩) oX12_manyCells q_1455 q_1457 q_106 rfl (by omega) (by decide) rfl (Nat.le_of_ble_eq_true rfl) 19 rfl dX12_firstCells_16 rfl ?_
  refine a_i2l 20 rfl dX12_firstCells_19 ?_
  refine a_callS (as := [.long ((nI m).toInt64), .long 0, .long ((nI (M.1 7 * M.1 8)).toInt64)]) (rest := []) (st2 := [.int (f_i (decide ((0 : Int32) ≤ (nI m) ∧ (nI m) ≤ (nI (M.1 7 * M.1 8)))))]) (u1 := 0) (v1 := 0) (u2 := 0) (v2 := 0) (r_isInB (y := (nI m)) (a := 0) (b := (nI (M.1 7 * M.1 8))) rfl rfl) oX12_isIn q_1242 q_1243 rfl (by omega) (by decide) rfl (Nat.le_of_ble_eq_true rfl) 23 rfl dX12_firstCells_20 rfl ?_
  refine a_if_eq 35 26 rfl dX12_firstCells_23 (by decide) (fun hc => absurd hc (f_i_T (decide_eq_true hy))) (fun _ => ?_)
  refine a_aload_n 0 27 rfl dX12_firstCells_26 rfl rfl ?_
  refine a_iload_n 1 28 rfl dX12_firstCells_27 rfl rfl ?_
  refine a_iload_n 2 29 rfl dX12_firstCells_28 rfl rfl ?_
  refine a_callV (as := [.int (nI o), .int (nI m)]) (rest := []) (st2 := [.long (f_fcM (M.1 7) (M.1 8) o m)]) (u1 := 0) (v1 := 0) (u2 := 0) (v2 := 0) (r_fcM ho (by omega) hw0 hw ht) (⟨_, _, _, _, rfl, rfl⟩) oX12_firstsOfCells q_1479 q_1481 q_110 rfl (by omega) (by decide) rfl (Nat.le_of_ble_eq_true rfl) 32 rfl dX12_firstCells_29 rfl ?_
  refine a_goto 38 dX12_firstCells_32 (by decide) ?_
  exact a_lreturn rfl (rfl) (rfl) dX12_firstCells_38
def f_ocR (O : Nat → Int32) : Nat → Nat → Int32
  | 0 => O
  | c + 1 => upd (f_ocR O c) c (nI c)
def f_tcR (w t : Nat) (L : Nat → Int64) : Nat → Nat → Int64
  | 0 => L
  | c + 1 => vp_updL (f_tcR w t L c) c (f_besM w t c)
def f_lcf (w t K m : Nat) (O : Nat → Int32) (L : Nat → Int64) (ff : Int64) : Int32 × Int64 := f_fin K (f_ocR O (w * t)) (f_tcR w t L (w * t)) (w * t) m ff (2 ^ (w * t))
def f_lcR (M : f_M) (K m : Nat) : f_M := f_ml (f_mi (f_mL (f_mI M 5 (f_ocR (M.2.2.2.1 5) (M.1 7 * M.1 8))) 2 (f_tcR (M.1 7) (M.1 8) (M.2.2.2.2 2) (M.1 7 * M.1 8))) 2 (f_lcf (M.1 7) (M.1 8) K m (M.2.2.2.1 5) (M.2.2.2.2 2) (M.2.2.1 0)).1) 0 (f_lcf (M.1 7) (M.1 8) K m (M.2.2.2.1 5) (M.2.2.2.2 2) (M.2.2.1 0)).2
theorem r_lcM_bad (hy : ¬ (((0 : Int32) ≤ y ∧ y ≤ 1) ∧ ((0 : Int32) ≤ y2 ∧ y2 ≤ nI (M.1 7 * M.1 8)))) : g_Run G mX12_leastCells 6 0 0 [.ref (g_ad G 38), .int y, .int y2] (g_hp G C (g_hm G M ++ ob)) (some (.int (-1))) (g_hp G C (g_hm G M ++ ob)) := by
  refine g_Run.of (lv := [(0, .ref (g_ad G 38)), (1, .int y), (2, .int y2)]) (by decide) (Nat.le_of_ble_eq_true rfl) rfl ?_
  refine a_iload_n 1 1 rfl dX12_leastCells_0 rfl rfl ?_
  refine a_i2l 2 rfl dX12_leastCells_1 ?_
  refine a_lconst (x := 0) 3 rfl dX12_leastCells_2 (by decide) ?_
  refine a_lconst (x := 1) 4 rfl dX12_leastCells_3 (by decide) ?_
  refine a_callS (as := [.long y.toInt64, .long 0, .long 1]) (rest := []) (st2 := [.int (f_i (decide ((0 : Int32) ≤ y ∧ y ≤ 1)))]) (u1 := 0) (v1 := 0) (u2 := 0) (v2 := 0) (r_isInB (y := y) (a := 0) (b := 1) rfl rfl) oX12_isIn q_1242 q_1243 rfl (by omega) (by decide) rfl (Nat.le_of_ble_eq_true rfl) 7 rfl dX12_leastCells_4 rfl ?_
  rcases Bool.eq_false_or_eq_true (decide ((0 : Int32) ≤ y ∧ y ≤ 1)) with e1 | e1
  · skip
    refine a_if_eq 24 10 rfl dX12_leastCells_7 (by decide) (fun hc => absurd hc (f_i_T e1)) (fun _ => ?_)
    refine a_iload_n 2 11 rfl dX12_leastCells_10 rfl rfl ?_
    refine a_i2l 12 rfl dX12_leastCells_11 ?_
    refine a_lconst (x := 0) 13 rfl dX12_leastCells_12 (by decide) ?_
    refine a_aload_n 0 14 rfl dX12_leastCells_13 rfl rfl ?_
    refine a_callV (as := []) (rest := [.long 0, .long y2.toInt64]) (st2 := [.int (nI (M.1 7 * M.1 8)), .long 0, .long y2.toInt64]) (u1 := 0) (v1 := 0) (u2 := 0) (v2 := 0) (r_cellsM) (⟨_, _, _, _, rfl, rfl⟩) oX12_manyCells q_1455 q_1457 q_106 rfl (by omega) (by decide) rfl (Nat.le_of_ble_eq_true rfl) 17 rfl dX12_leastCells_14 rfl ?_
    refine a_i2l 18 rfl dX12_leastCells_17 ?_
    refine a_callS (as := [.long y2.toInt64, .long 0, .long ((nI (M.1 7 * M.1 8)).toInt64)]) (rest := []) (st2 := [.int (f_i (decide ((0 : Int32) ≤ y2 ∧ y2 ≤ (nI (M.1 7 * M.1 8)))))]) (u1 := 0) (v1 := 0) (u2 := 0) (v2 := 0) (r_isInB (y := y2) (a := 0) (b := (nI (M.1 7 * M.1 8))) rfl rfl) oX12_isIn q_1242 q_1243 rfl (by omega) (by decide) rfl (Nat.le_of_ble_eq_true rfl) 21 rfl dX12_leastCells_18 rfl ?_
    refine a_if_ne 26 24 rfl dX12_leastCells_21 (by decide) (fun hc => absurd (f_i_F (decide_eq_false (fun z9 => hy ⟨of_decide_eq_true e1, z9⟩))) hc) (fun _ => ?_)
    refine a_iconst (x := (-1)) 25 rfl dX12_leastCells_24 (by decide) ?_
    exact a_ireturn .int rfl rfl (rfl) (rfl) dX12_leastCells_25
  · skip
    refine a_if_eq 24 10 rfl dX12_leastCells_7 (by decide) (fun _ => ?_) (fun hc => absurd (f_i_F e1) hc)
    refine a_iconst (x := (-1)) 25 rfl dX12_leastCells_24 (by decide) ?_
    exact a_ireturn .int rfl rfl (rfl) (rfl) dX12_leastCells_25
theorem r_lcM_st (hy : ((0 : Int32) ≤ y ∧ y ≤ 1) ∧ ((0 : Int32) ≤ y2 ∧ y2 ≤ nI (M.1 7 * M.1 8))) (hwt : M.1 7 * M.1 8 ≤ 64) (h16 : 16 < M.1 7 * M.1 8) : g_Run G mX12_leastCells 6 0 0 [.ref (g_ad G 38), .int y, .int y2] (g_hp G C (g_hm G M ++ ob)) (some (.int (-5))) (g_hp G C (g_hm G M ++ ob)) := by
  refine g_Run.of (lv := [(0, .ref (g_ad G 38)), (1, .int y), (2, .int y2)]) (by decide) (Nat.le_of_ble_eq_true rfl) rfl ?_
  refine a_iload_n 1 1 rfl dX12_leastCells_0 rfl rfl ?_
  refine a_i2l 2 rfl dX12_leastCells_1 ?_
  refine a_lconst (x := 0) 3 rfl dX12_leastCells_2 (by decide) ?_
  refine a_lconst (x := 1) 4 rfl dX12_leastCells_3 (by decide) ?_
  refine a_callS (as := [.long y.toInt64, .long 0, .long 1]) (rest := []) (st2 := [.int (f_i (decide ((0 : Int32) ≤ y ∧ y ≤ 1)))]) (u1 := 0) (v1 := 0) (u2 := 0) (v2 := 0) (r_isInB (y := y) (a := 0) (b := 1) rfl rfl) oX12_isIn q_1242 q_1243 rfl (by omega) (by decide) rfl (Nat.le_of_ble_eq_true rfl) 7 rfl dX12_leastCells_4 rfl ?_
  refine a_if_eq 24 10 rfl dX12_leastCells_7 (by decide) (fun hc => absurd hc (f_i_T (decide_eq_true hy.1))) (fun _ => ?_)
  refine a_iload_n 2 11 rfl dX12_leastCells_10 rfl rfl ?_
  refine a_i2l 12 rfl dX12_leastCells_11 ?_
  refine a_lconst (x := 0) 13 rfl dX12_leastCells_12 (by decide) ?_
  refine a_aload_n 0 14 rfl dX12_leastCells_13 rfl rfl ?_
  refine a_callV (as := []) (rest := [.long 0, .long y2.toInt64]) (st2 := [.int (nI (M.1 7 * M.1 8)), .long 0, .long y2.toInt64]) (u1 := 0) (v1 := 0) (u2 := 0) (v2 := 0) (r_cellsM) (⟨_, _, _, _, rfl, rfl⟩) oX12_manyCells q_1455 q_1457 q_106 rfl (by omega) (by decide) rfl (Nat.le_of_ble_eq_true rfl) 17 rfl dX12_leastCells_14 rfl ?_
  refine a_i2l 18 rfl dX12_leastCells_17 ?_
  refine a_callS (as := [.long y2.toInt64, .long 0, .long ((nI (M.1 7 * M.1 8)).toInt64)]) (rest := []) (st2 := [.int (f_i (decide ((0 : Int32) ≤ y2 ∧ y2 ≤ (nI (M.1 7 * M.1 8)))))]) (u1 := 0) (v1 := 0) (u2 := 0) (v2 := 0) (r_isInB (y := y2) (a := 0) (b := (nI (M.1 7 * M.1 8))) rfl rfl) oX12_isIn q_1242 q_1243 rfl (by omega) (by decide) rfl (Nat.le_of_ble_eq_true rfl) 21 rfl dX12_leastCells_18 rfl ?_
  refine a_if_ne 26 24 rfl dX12_leastCells_21 (by decide) (fun _ => ?_) (fun hc => absurd hc (f_i_T (decide_eq_true hy.2)))
  refine a_aload_n 0 27 rfl dX12_leastCells_26 rfl rfl ?_
  refine a_callV (as := []) (rest := []) (st2 := [.int (nI (M.1 7 * M.1 8))]) (u1 := 0) (v1 := 0) (u2 := 0) (v2 := 0) (r_cellsM) (⟨_, _, _, _, rfl, rfl⟩) oX12_manyCells q_1455 q_1457 q_106 rfl (by omega) (by decide) rfl (Nat.le_of_ble_eq_true rfl) 30 rfl dX12_leastCells_27 rfl ?_
  refine a_bipush (x := 16) 32 rfl dX12_leastCells_30 (by decide) ?_
  refine a_icmp_le 38 35 rfl dX12_leastCells_32 (by decide) (fun hc => absurd hc (nI_ge (a := 16) (b := (M.1 7 * M.1 8)) (by omega) (by omega))) (fun _ => ?_)
  refine a_bipush (x := (-5)) 37 rfl dX12_leastCells_35 (by decide) ?_
  exact a_ireturn .int rfl rfl (rfl) (rfl) dX12_leastCells_37
theorem r_lcM0 (hw0 : 0 < M.1 7) (hw : M.1 7 ≤ 8) (ht : M.1 8 ≤ 8) (h16 : M.1 7 * M.1 8 ≤ 16) (hm : m ≤ M.1 7 * M.1 8) : g_Run G mX12_leastCells 6 0 0 [.ref (g_ad G 38), .int 0, .int (nI m)] (g_hp G C (g_hm G M ++ ob)) (some (.int (f_lcf (M.1 7) (M.1 8) 0 m (M.2.2.2.1 5) (M.2.2.2.2 2) (M.2.2.1 0)).1)) (g_hp G C (g_hm G (f_lcR M 0 m) ++ ob)) := by
  have hy : (0 : Int32) ≤ nI m ∧ nI m ≤ nI (M.1 7 * M.1 8) := ⟨nI_pos' (by omega), nI_le (by omega) (by omega)⟩
  unfold f_lcR f_lcf
  refine g_Run.of (lv := [(0, .ref (g_ad G 38)), (1, .int 0), (2, .int (nI m))]) (by decide) (Nat.le_of_ble_eq_true rfl) rfl ?_
  refine a_iload_n 1 1 rfl dX12_leastCells_0 rfl rfl ?_
  refine a_i2l 2 rfl dX12_leastCells_1 ?_
  refine a_lconst (x := 0) 3 rfl dX12_leastCells_2 (by decide) ?_
  refine a_lconst (x := 1) 4 rfl dX12_leastCells_3 (by decide) ?_
  refine a_callS (as := [.long ((0 : Int32).toInt64), .long 0, .long 1]) (rest := []) (st2 := [.int (f_i (decide ((0 : Int32) ≤ (0 : Int32) ∧ (0 : Int32) ≤ 1)))]) (u1 := 0) (v1 := 0) (u2 := 0) (v2 := 0) (r_isInB (y := (0 : Int32)) (a := 0) (b := 1) rfl rfl) oX12_isIn q_1242 q_1243 rfl (by omega) (by decide) rfl (Nat.le_of_ble_eq_true rfl) 7 rfl dX12_leastCells_4 rfl ?_
  refine a_if_eq 24 10 rfl dX12_leastCells_7 (by decide) (fun hc => absurd hc (f_i_T (by decide))) (fun _ => ?_)
  refine a_iload_n 2 11 rfl dX12_leastCells_10 rfl rfl ?_
  refine a_i2l 12 rfl dX12_leastCells_11 ?_
  refine a_lconst (x := 0) 13 rfl dX12_leastCells_12 (by decide) ?_
  refine a_aload_n 0 14 rfl dX12_leastCells_13 rfl rfl ?_
  refine a_callV (as := []) (rest := [.long 0, .long ((nI m).toInt64)]) (st2 := [.int (nI (M.1 7 * M.1 8)), .long 0, .long ((nI m).toInt64)]) (u1 := 0) (v1 := 0) (u2 := 0) (v2 := 0) (r_cellsM) (⟨_, _, _, _, rfl, rfl⟩) oX12_manyCells q_1455 q_1457 q_106 rfl (by omega) (by decide) rfl (Nat.le_of_ble_eq_true rfl) 17 rfl dX12_leastCells_14 rfl ?_
  refine a_i2l 18 rfl dX12_leastCells_17 ?_
  refine a_callS (as := [.long ((nI m).toInt64), .long 0, .long ((nI (M.1 7 * M.1 8)).toInt64)]) (rest := []) (st2 := [.int (f_i (decide ((0 : Int32) ≤ (nI m) ∧ (nI m) ≤ (nI (M.1 7 * M.1 8)))))]) (u1 := 0) (v1 := 0) (u2 := 0) (v2 := 0) (r_isInB (y := (nI m)) (a := 0) (b := (nI (M.1 7 * M.1 8))) rfl rfl) oX12_isIn q_1242 q_1243 rfl (by omega) (by decide) rfl (Nat.le_of_ble_eq_true rfl) 21 rfl dX12_leastCells_18 rfl ?_
  refine a_if_ne 26 24 rfl dX12_leastCells_21 (by decide) (fun _ => ?_) (fun hc => absurd hc (f_i_T (decide_eq_true hy)))
  refine a_aload_n 0 27 rfl dX12_leastCells_26 rfl rfl ?_
  refine a_callV (as := []) (rest := []) (st2 := [.int (nI (M.1 7 * M.1 8))]) (u1 := 0) (v1 := 0) (u2 := 0) (v2 := 0) (r_cellsM) (⟨_, _, _, _, rfl, rfl⟩) oX12_manyCells q_1455 q_1457 q_106 rfl (by omega) (by decide) rfl (Nat.le_of_ble_eq_true rfl) 30 rfl dX12_leastCells_27 rfl ?_
  refine a_bipush (x := 16) 32 rfl dX12_leastCells_30 (by decide) ?_
  refine a_icmp_le 38 35 rfl dX12_leastCells_32 (by decide) (fun _ => ?_) (fun hc => absurd (nI_le (a := (M.1 7 * M.1 8)) (b := 16) (by omega) (by omega)) hc)
  refine a_iconst (x := 0) 39 rfl dX12_leastCells_38 (by decide) ?_
  refine a_istore_n (lv' := [(3, .int 0), (0, .ref (g_ad G 38)), (1, .int 0), (2, .int (nI m))]) 40 rfl dX12_leastCells_39 rfl (by decide) rfl ?_
  refine a_eq (h2 := g_hp G C (g_hm G (f_mL (f_mI M 5 (f_ocR (M.2.2.2.1 5) 0)) 2 (f_tcR (M.1 7) (M.1 8) (M.2.2.2.2 2) 0)) ++ ob)) rfl rfl rfl (rfl) ?_
  refine a_sub (lv' := [(3, .int (nI 0)), (0, .ref (g_ad G 38)), (1, .int 0), (2, .int (nI m))]) [0, 1, 2, 3] rfl ?_
  refine g_for (P := fun c9 => True) (M.1 7 * M.1 8) (fun c9 => [(3, .int (nI c9)), (0, .ref (g_ad G 38)), (1, .int 0), (2, .int (nI m))]) (fun c9 => g_hp G C (g_hm G (f_mL (f_mI M 5 (f_ocR (M.2.2.2.1 5) c9)) 2 (f_tcR (M.1 7) (M.1 8) (M.2.2.2.2 2) c9)) ++ ob)) (trivial) (fun c9 h_c9 p_c9 k_c9 => ?_) (fun p_c9 => ?_)
  · have hcl : (nI c9).toNatClampNeg = c9 := g_cl (by omega)
    refine a_iload_n 0 41 rfl dX12_leastCells_40 rfl rfl ?_
    refine a_aload_n 1 42 rfl dX12_leastCells_41 rfl rfl ?_
    refine a_callV (as := []) (rest := [.int (nI c9)]) (st2 := [.int (nI (M.1 7 * M.1 8)), .int (nI c9)]) (u1 := 0) (v1 := 0) (u2 := 0) (v2 := 0) (r_cellsM (M := f_mL (f_mI M 5 (f_ocR (M.2.2.2.1 5) c9)) 2 (f_tcR (M.1 7) (M.1 8) (M.2.2.2.2 2) c9))) (⟨_, _, _, _, rfl, rfl⟩) oX12_manyCells q_1455 q_1457 q_106 rfl (by omega) (by decide) rfl (Nat.le_of_ble_eq_true rfl) 45 rfl dX12_leastCells_42 rfl ?_
    refine a_icmp_ge 72 48 rfl dX12_leastCells_45 (by decide) (fun hc => absurd hc (nI_ge (a := c9) (b := (M.1 7 * M.1 8)) (by omega) (by omega))) (fun _ => ?_)
    refine a_aload_n 1 49 rfl dX12_leastCells_48 rfl rfl ?_
    refine a_get 17 cl_11 f_RX12_38_11 (by decide) (rfl) rfl 52 rfl dX12_leastCells_49 ?_
    refine a_iload_n 0 53 rfl dX12_leastCells_52 rfl rfl ?_
    refine a_iload_n 0 54 rfl dX12_leastCells_53 rfl rfl ?_
    refine a_iast (rfl) (vp_in_nI (n := c9) (by omega) (by omega)) 55 rfl dX12_leastCells_54 ?_
    refine a_eq (h2 := g_hp G C (g_hm G (f_mI (f_mL M 2 (f_tcR (M.1 7) (M.1 8) (M.2.2.2.2 2) c9)) 5 (f_ocR (M.2.2.2.1 5) (c9 + 1))) ++ ob)) rfl rfl rfl (by show (((g_hp G C (g_hm G (f_mL (f_mI M 5 (f_ocR (M.2.2.2.1 5) c9)) 2 (f_tcR (M.1 7) (M.1 8) (M.2.2.2.2 2) c9)) ++ ob)).set 46 (c_I G 16 (upd (f_ocR (M.2.2.2.1 5) c9) (nI c9).toNatClampNeg (nI c9)))) : List va_E) = _; rw [hcl]; rfl) ?_
    refine a_aload_n 1 56 rfl dX12_leastCells_55 rfl rfl ?_
    refine a_get 18 cl_11 f_RX12_41_11 (by decide) (rfl) rfl 59 rfl dX12_leastCells_56 ?_
    refine a_iload_n 0 60 rfl dX12_leastCells_59 rfl rfl ?_
    refine a_aload_n 1 61 rfl dX12_leastCells_60 rfl rfl ?_
    refine a_iload_n 0 62 rfl dX12_leastCells_61 rfl rfl ?_
    refine a_callV (as := [.int (nI c9)]) (rest := [.int (nI c9), .ref (g_ad G 47)]) (st2 := [.long (f_besM (M.1 7) (M.1 8) c9), .int (nI c9), .ref (g_ad G 47)]) (u1 := 0) (v1 := 0) (u2 := 0) (v2 := 0) (r_besM (by omega) hw0 hw ht) (⟨_, _, _, _, rfl, rfl⟩) oX12_beside q_1463 q_1465 q_108 rfl (by omega) (by decide) rfl (Nat.le_of_ble_eq_true rfl) 65 rfl dX12_leastCells_62 rfl ?_
    refine a_last (rfl) (vp_in_nI (n := c9) (by omega) (by omega)) 66 rfl dX12_leastCells_65 ?_
    refine a_eq (h2 := g_hp G C (g_hm G (f_mL (f_mI M 5 (f_ocR (M.2.2.2.1 5) (c9 + 1))) 2 (f_tcR (M.1 7) (M.1 8) (M.2.2.2.2 2) (c9 + 1))) ++ ob)) rfl rfl rfl (by show (((g_hp G C (g_hm G (f_mI (f_mL M 2 (f_tcR (M.1 7) (M.1 8) (M.2.2.2.2 2) c9)) 5 (f_ocR (M.2.2.2.1 5) (c9 + 1))) ++ ob)).set 47 (c_L G 16 (vp_updL (f_tcR (M.1 7) (M.1 8) (M.2.2.2.2 2) c9) (nI c9).toNatClampNeg (f_besM (M.1 7) (M.1 8) c9)))) : List va_E) = _; rw [hcl]; rfl) ?_
    refine a_iinc (y := nI (c9 + 1)) (lv' := [(3, .int (nI (c9 + 1))), (0, .ref (g_ad G 38)), (1, .int 0), (2, .int (nI m))]) 0 69 rfl dX12_leastCells_66 rfl (nI_1 c9) (by decide) rfl ?_
    refine a_goto 40 dX12_leastCells_69 (by decide) ?_
    refine a_sub (lv' := [(3, .int (nI (c9 + 1))), (0, .ref (g_ad G 38)), (1, .int 0), (2, .int (nI m))]) [0, 1, 2, 3] rfl ?_
    exact k_c9 trivial
  · skip
    refine a_iload_n 0 41 rfl dX12_leastCells_40 rfl rfl ?_
    refine a_aload_n 1 42 rfl dX12_leastCells_41 rfl rfl ?_
    refine a_callV (as := []) (rest := [.int (nI (M.1 7 * M.1 8))]) (st2 := [.int (nI (M.1 7 * M.1 8)), .int (nI (M.1 7 * M.1 8))]) (u1 := 0) (v1 := 0) (u2 := 0) (v2 := 0) (r_cellsM) (⟨_, _, _, _, rfl, rfl⟩) oX12_manyCells q_1455 q_1457 q_106 rfl (by omega) (by decide) rfl (Nat.le_of_ble_eq_true rfl) 45 rfl dX12_leastCells_42 rfl ?_
    refine a_icmp_ge 72 48 rfl dX12_leastCells_45 (by decide) (fun _ => ?_) (fun hc => absurd (nI_le (a := (M.1 7 * M.1 8)) (b := (M.1 7 * M.1 8)) (by omega) (by omega)) hc)
    refine a_aload_n 1 73 rfl dX12_leastCells_72 rfl rfl ?_
    refine a_aload_n 1 74 rfl dX12_leastCells_73 rfl rfl ?_
    refine a_callV (as := []) (rest := [.ref (g_ad G 38)]) (st2 := [.int (nI (M.1 7 * M.1 8)), .ref (g_ad G 38)]) (u1 := 0) (v1 := 0) (u2 := 0) (v2 := 0) (r_cellsM) (⟨_, _, _, _, rfl, rfl⟩) oX12_manyCells q_1455 q_1457 q_106 rfl (by omega) (by decide) rfl (Nat.le_of_ble_eq_true rfl) 77 rfl dX12_leastCells_74 rfl ?_
    refine a_iload_n 3 78 rfl dX12_leastCells_77 rfl rfl ?_
    refine a_iload_n 2 79 rfl dX12_leastCells_78 rfl rfl ?_
    refine a_callV (as := [.int (nI (M.1 7 * M.1 8)), .int (nI m), .int 0]) (rest := []) (st2 := []) (u1 := 0) (v1 := 0) (u2 := 0) (v2 := 0) (r_finM0 (M := f_mL (f_mI M 5 (f_ocR (M.2.2.2.1 5) (M.1 7 * M.1 8))) 2 (f_tcR (M.1 7) (M.1 8) (M.2.2.2.2 2) (M.1 7 * M.1 8))) h16 (by omega)) (⟨_, _, _, _, rfl, rfl⟩) oX12_finds q_1409 q_1411 q_103 rfl (by omega) (by decide) rfl (Nat.le_of_ble_eq_true rfl) 82 rfl dX12_leastCells_79 rfl ?_
    refine a_aload_n 1 83 rfl dX12_leastCells_82 rfl rfl ?_
    refine a_get 15 cl_11 f_RX12_213_11 (by decide) (rfl) rfl 86 rfl dX12_leastCells_83 ?_
    exact a_ireturn .int rfl rfl (rfl) (rfl) dX12_leastCells_86

theorem r_lcM1 (hw0 : 0 < M.1 7) (hw : M.1 7 ≤ 8) (ht : M.1 8 ≤ 8) (h16 : M.1 7 * M.1 8 ≤ 16) (hm : m ≤ M.1 7 * M.1 8) : g_Run G mX12_leastCells 6 0 0 [.ref (g_ad G 38), .int 1, .int (nI m)] (g_hp G C (g_hm G M ++ ob)) (some (.int (f_lcf (M.1 7) (M.1 8) 1 m (M.2.2.2.1 5) (M.2.2.2.2 2) (M.2.2.1 0)).1)) (g_hp G C (g_hm G (f_lcR M 1 m) ++ ob)) := by
  have hy : (0 : Int32) ≤ nI m ∧ nI m ≤ nI (M.1 7 * M.1 8) := ⟨nI_pos' (by omega), nI_le (by omega) (by omega)⟩
  unfold f_lcR f_lcf
  refine g_Run.of (lv := [(0, .ref (g_ad G 38)), (1, .int 1), (2, .int (nI m))]) (by decide) (Nat.le_of_ble_eq_true rfl) rfl ?_
  refine a_iload_n 1 1 rfl dX12_leastCells_0 rfl rfl ?_
  refine a_i2l 2 rfl dX12_leastCells_1 ?_
  refine a_lconst (x := 0) 3 rfl dX12_leastCells_2 (by decide) ?_
  refine a_lconst (x := 1) 4 rfl dX12_leastCells_3 (by decide) ?_
  refine a_callS (as := [.long ((1 : Int32).toInt64), .long 0, .long 1]) (rest := []) (st2 := [.int (f_i (decide ((0 : Int32) ≤ (1 : Int32) ∧ (1 : Int32) ≤ 1)))]) (u1 := 0) (v1 := 0) (u2 := 0) (v2 := 0) (r_isInB (y := (1 : Int32)) (a := 0) (b := 1) rfl rfl) oX12_isIn q_1242 q_1243 rfl (by omega) (by decide) rfl (Nat.le_of_ble_eq_true rfl) 7 rfl dX12_leastCells_4 rfl ?_
  refine a_if_eq 24 10 rfl dX12_leastCells_7 (by decide) (fun hc => absurd hc (f_i_T (by decide))) (fun _ => ?_)
  refine a_iload_n 2 11 rfl dX12_leastCells_10 rfl rfl ?_
  refine a_i2l 12 rfl dX12_leastCells_11 ?_
  refine a_lconst (x := 0) 13 rfl dX12_leastCells_12 (by decide) ?_
  refine a_aload_n 0 14 rfl dX12_leastCells_13 rfl rfl ?_
  refine a_callV (as := []) (rest := [.long 0, .long ((nI m).toInt64)]) (st2 := [.int (nI (M.1 7 * M.1 8)), .long 0, .long ((nI m).toInt64)]) (u1 := 0) (v1 := 0) (u2 := 0) (v2 := 0) (r_cellsM) (⟨_, _, _, _, rfl, rfl⟩) oX12_manyCells q_1455 q_1457 q_106 rfl (by omega) (by decide) rfl (Nat.le_of_ble_eq_true rfl) 17 rfl dX12_leastCells_14 rfl ?_
  refine a_i2l 18 rfl dX12_leastCells_17 ?_
  refine a_callS (as := [.long ((nI m).toInt64), .long 0, .long ((nI (M.1 7 * M.1 8)).toInt64)]) (rest := []) (st2 := [.int (f_i (decide ((0 : Int32) ≤ (nI m) ∧ (nI m) ≤ (nI (M.1 7 * M.1 8)))))]) (u1 := 0) (v1 := 0) (u2 := 0) (v2 := 0) (r_isInB (y := (nI m)) (a := 0) (b := (nI (M.1 7 * M.1 8))) rfl rfl) oX12_isIn q_1242 q_1243 rfl (by omega) (by decide) rfl (Nat.le_of_ble_eq_true rfl) 21 rfl dX12_leastCells_18 rfl ?_
  refine a_if_ne 26 24 rfl dX12_leastCells_21 (by decide) (fun _ => ?_) (fun hc => absurd hc (f_i_T (decide_eq_true hy)))
  refine a_aload_n 0 27 rfl dX12_leastCells_26 rfl rfl ?_
  refine a_callV (as := []) (rest := []) (st2 := [.int (nI (M.1 7 * M.1 8))]) (u1 := 0) (v1 := 0) (u2 := 0) (v2 := 0) (r_cellsM) (⟨_, _, _, _, rfl, rfl⟩) oX12_manyCells q_1455 q_1457 q_106 rfl (by omega) (by decide) rfl (Nat.le_of_ble_eq_true rfl) 30 rfl dX12_leastCells_27 rfl ?_
  refine a_bipush (x := 16) 32 rfl dX12_leastCells_30 (by decide) ?_
  refine a_icmp_le 38 35 rfl dX12_leastCells_32 (by decide) (fun _ => ?_) (fun hc => absurd (nI_le (a := (M.1 7 * M.1 8)) (b := 16) (by omega) (by omega)) hc)
  refine a_iconst (x := 0) 39 rfl dX12_leastCells_38 (by decide) ?_
  refine a_istore_n (lv' := [(3, .int 0), (0, .ref (g_ad G 38)), (1, .int 1), (2, .int (nI m))]) 40 rfl dX12_leastCells_39 rfl (by decide) rfl ?_
  refine a_eq (h2 := g_hp G C (g_hm G (f_mL (f_mI M 5 (f_ocR (M.2.2.2.1 5) 0)) 2 (f_tcR (M.1 7) (M.1 8) (M.2.2.2.2 2) 0)) ++ ob)) rfl rfl rfl (rfl) ?_
  refine a_sub (lv' := [(3, .int (nI 0)), (0, .ref (g_ad G 38)), (1, .int 1), (2, .int (nI m))]) [0, 1, 2, 3] rfl ?_
  refine g_for (P := fun c9 => True) (M.1 7 * M.1 8) (fun c9 => [(3, .int (nI c9)), (0, .ref (g_ad G 38)), (1, .int 1), (2, .int (nI m))]) (fun c9 => g_hp G C (g_hm G (f_mL (f_mI M 5 (f_ocR (M.2.2.2.1 5) c9)) 2 (f_tcR (M.1 7) (M.1 8) (M.2.2.2.2 2) c9)) ++ ob)) (trivial) (fun c9 h_c9 p_c9 k_c9 => ?_) (fun p_c9 => ?_)
  · have hcl : (nI c9).toNatClampNeg = c9 := g_cl (by omega)
    refine a_iload_n 0 41 rfl dX12_leastCells_40 rfl rfl ?_
    refine a_aload_n 1 42 rfl dX12_leastCells_41 rfl rfl ?_
    refine a_callV (as := []) (rest := [.int (nI c9)]) (st2 := [.int (nI (M.1 7 * M.1 8)), .int (nI c9)]) (u1 := 0) (v1 := 0) (u2 := 0) (v2 := 0) (r_cellsM (M := f_mL (f_mI M 5 (f_ocR (M.2.2.2.1 5) c9)) 2 (f_tcR (M.1 7) (M.1 8) (M.2.2.2.2 2) c9))) (⟨_, _, _, _, rfl, rfl⟩) oX12_manyCells q_1455 q_1457 q_106 rfl (by omega) (by decide) rfl (Nat.le_of_ble_eq_true rfl) 45 rfl dX12_leastCells_42 rfl ?_
    refine a_icmp_ge 72 48 rfl dX12_leastCells_45 (by decide) (fun hc => absurd hc (nI_ge (a := c9) (b := (M.1 7 * M.1 8)) (by omega) (by omega))) (fun _ => ?_)
    refine a_aload_n 1 49 rfl dX12_leastCells_48 rfl rfl ?_
    refine a_get 17 cl_11 f_RX12_38_11 (by decide) (rfl) rfl 52 rfl dX12_leastCells_49 ?_
    refine a_iload_n 0 53 rfl dX12_leastCells_52 rfl rfl ?_
    refine a_iload_n 0 54 rfl dX12_leastCells_53 rfl rfl ?_
    refine a_iast (rfl) (vp_in_nI (n := c9) (by omega) (by omega)) 55 rfl dX12_leastCells_54 ?_
    refine a_eq (h2 := g_hp G C (g_hm G (f_mI (f_mL M 2 (f_tcR (M.1 7) (M.1 8) (M.2.2.2.2 2) c9)) 5 (f_ocR (M.2.2.2.1 5) (c9 + 1))) ++ ob)) rfl rfl rfl (by show (((g_hp G C (g_hm G (f_mL (f_mI M 5 (f_ocR (M.2.2.2.1 5) c9)) 2 (f_tcR (M.1 7) (M.1 8) (M.2.2.2.2 2) c9)) ++ ob)).set 46 (c_I G 16 (upd (f_ocR (M.2.2.2.1 5) c9) (nI c9).toNatClampNeg (nI c9)))) : List va_E) = _; rw [hcl]; rfl) ?_
    refine a_aload_n 1 56 rfl dX12_leastCells_55 rfl rfl ?_
    refine a_get 18 cl_11 f_RX12_41_11 (by decide) (rfl) rfl 59 rfl dX12_leastCells_56 ?_
    refine a_iload_n 0 60 rfl dX12_leastCells_59 rfl rfl ?_
    refine a_aload_n 1 61 rfl dX12_leastCells_60 rfl rfl ?_
    refine a_iload_n 0 62 rfl dX12_leastCells_61 rfl rfl ?_
    refine a_callV (as := [.int (nI c9)]) (rest := [.int (nI c9), .ref (g_ad G 47)]) (st2 := [.long (f_besM (M.1 7) (M.1 8) c9), .int (nI c9), .ref (g_ad G 47)]) (u1 := 0) (v1 := 0) (u2 := 0) (v2 := 0) (r_besM (by omega) hw0 hw ht) (⟨_, _, _, _, rfl, rfl⟩) oX12_beside q_1463 q_1465 q_108 rfl (by omega) (by decide) rfl (Nat.le_of_ble_eq_true rfl) 65 rfl dX12_leastCells_62 rfl ?_
    refine a_last (rfl) (vp_in_nI (n := c9) (by omega) (by omega)) 66 rfl dX12_leastCells_65 ?_
    refine a_eq (h2 := g_hp G C (g_hm G (f_mL (f_mI M 5 (f_ocR (M.2.2.2.1 5) (c9 + 1))) 2 (f_tcR (M.1 7) (M.1 8) (M.2.2.2.2 2) (c9 + 1))) ++ ob)) rfl rfl rfl (by show (((g_hp G C (g_hm G (f_mI (f_mL M 2 (f_tcR (M.1 7) (M.1 8) (M.2.2.2.2 2) c9)) 5 (f_ocR (M.2.2.2.1 5) (c9 + 1))) ++ ob)).set 47 (c_L G 16 (vp_updL (f_tcR (M.1 7) (M.1 8) (M.2.2.2.2 2) c9) (nI c9).toNatClampNeg (f_besM (M.1 7) (M.1 8) c9)))) : List va_E) = _; rw [hcl]; rfl) ?_
    refine a_iinc (y := nI (c9 + 1)) (lv' := [(3, .int (nI (c9 + 1))), (0, .ref (g_ad G 38)), (1, .int 1), (2, .int (nI m))]) 0 69 rfl dX12_leastCells_66 rfl (nI_1 c9) (by decide) rfl ?_
    refine a_goto 40 dX12_leastCells_69 (by decide) ?_
    refine a_sub (lv' := [(3, .int (nI (c9 + 1))), (0, .ref (g_ad G 38)), (1, .int 1), (2, .int (nI m))]) [0, 1, 2, 3] rfl ?_
    exact k_c9 trivial
  · skip
    refine a_iload_n 0 41 rfl dX12_leastCells_40 rfl rfl ?_
    refine a_aload_n 1 42 rfl dX12_leastCells_41 rfl rfl ?_
    refine a_callV (as := []) (rest := [.int (nI (M.1 7 * M.1 8))]) (st2 := [.int (nI (M.1 7 * M.1 8)), .int (nI (M.1 7 * M.1 8))]) (u1 := 0) (v1 := 0) (u2 := 0) (v2 := 0) (r_cellsM) (⟨_, _, _, _, rfl, rfl⟩) oX12_manyCells q_1455 q_1457 q_106 rfl (by omega) (by decide) rfl (Nat.le_of_ble_eq_true rfl) 45 rfl dX12_leastCells_42 rfl ?_
    refine a_icmp_ge 72 48 rfl dX12_leastCells_45 (by decide) (fun _ => ?_) (fun hc => absurd (nI_le (a := (M.1 7 * M.1 8)) (b := (M.1 7 * M.1 8)) (by omega) (by omega)) hc)
    refine a_aload_n 1 73 rfl dX12_leastCells_72 rfl rfl ?_
    refine a_aload_n 1 74 rfl dX12_leastCells_73 rfl rfl ?_
    refine a_callV (as := []) (rest := [.ref (g_ad G 38)]) (st2 := [.int (nI (M.1 7 * M.1 8)), .ref (g_ad G 38)]) (u1 := 0) (v1 := 0) (u2 := 0) (v2 := 0) (r_cellsM) (⟨_, _, _, _, rfl, rfl⟩) oX12_manyCells q_1455 q_1457 q_106 rfl (by omega) (by decide) rfl (Nat.le_of_ble_eq_true rfl) 77 rfl dX12_leastCells_74 rfl ?_
    refine a_iload_n 3 78 rfl dX12_leastCells_77 rfl rfl ?_
    refine a_iload_n 2 79 rfl dX12_leastCells_78 rfl rfl ?_
    refine a_callV (as := [.int (nI (M.1 7 * M.1 8)), .int (nI m), .int 1]) (rest := []) (st2 := []) (u1 := 0) (v1 := 0) (u2 := 0) (v2 := 0) (r_finM1 (M := f_mL (f_mI M 5 (f_ocR (M.2.2.2.1 5) (M.1 7 * M.1 8))) 2 (f_tcR (M.1 7) (M.1 8) (M.2.2.2.2 2) (M.1 7 * M.1 8))) h16 (by omega)) (⟨_, _, _, _, rfl, rfl⟩) oX12_finds q_1409 q_1411 q_103 rfl (by omega) (by decide) rfl (Nat.le_of_ble_eq_true rfl) 82 rfl dX12_leastCells_79 rfl ?_
    refine a_aload_n 1 83 rfl dX12_leastCells_82 rfl rfl ?_
    refine a_get 15 cl_11 f_RX12_213_11 (by decide) (rfl) rfl 86 rfl dX12_leastCells_83 ?_
    exact a_ireturn .int rfl rfl (rfl) (rfl) dX12_leastCells_86

theorem r_mcM_bad (hy : ¬ ((0 : Int32) ≤ y ∧ y ≤ 2)) : g_Run G mX12_meetsCells 7 0 0 [.ref (g_ad G 38), .int y, .int y2, .int y3] (g_hp G C (g_hm G M ++ ob)) (some (.int (-1))) (g_hp G C (g_hm G M ++ ob)) := by
  refine g_Run.of (lv := [(0, .ref (g_ad G 38)), (1, .int y), (2, .int y2), (3, .int y3)]) (by decide) (Nat.le_of_ble_eq_true rfl) rfl ?_
  refine a_iload_n 1 1 rfl dX12_meetsCells_0 rfl rfl ?_
  refine a_i2l 2 rfl dX12_meetsCells_1 ?_
  refine a_lconst (x := 0) 3 rfl dX12_meetsCells_2 (by decide) ?_
  refine a_ldc2 q_1404 6 rfl dX12_meetsCells_3 ?_
  refine a_callS (as := [.long y.toInt64, .long 0, .long 2]) (rest := []) (st2 := [.int (f_i (decide ((0 : Int32) ≤ y ∧ y ≤ 2)))]) (u1 := 0) (v1 := 0) (u2 := 0) (v2 := 0) (r_isInB (y := y) (a := 0) (b := 2) rfl rfl) oX12_isIn q_1242 q_1243 rfl (by omega) (by decide) rfl (Nat.le_of_ble_eq_true rfl) 9 rfl dX12_meetsCells_6 rfl ?_
  refine a_if_ne 14 12 rfl dX12_meetsCells_9 (by decide) (fun hc => absurd (f_i_F (decide_eq_false hy)) hc) (fun _ => ?_)
  refine a_iconst (x := (-1)) 13 rfl dX12_meetsCells_12 (by decide) ?_
  exact a_ireturn .int rfl rfl (rfl) (rfl) dX12_meetsCells_13
theorem r_mcM_neg (ho : o < 3) (hr : ¬ (0 : Int32) ≤ r9) (wl : g_Run G mX12_leastCells 6 0 0 [.ref (g_ad G 38), .int y2, .int y3] (g_hp G C (g_hm G M ++ ob)) (some (.int r9)) (g_hp G C (g_hm G M ++ ob))) : g_Run G mX12_meetsCells 7 0 0 [.ref (g_ad G 38), .int (nI o), .int y2, .int y3] (g_hp G C (g_hm G M ++ ob)) (some (.int r9)) (g_hp G C (g_hm G M ++ ob)) := by
  refine g_Run.of (lv := [(0, .ref (g_ad G 38)), (1, .int (nI o)), (2, .int y2), (3, .int y3)]) (by decide) (Nat.le_of_ble_eq_true rfl) rfl ?_
  refine a_iload_n 1 1 rfl dX12_meetsCells_0 rfl rfl ?_
  refine a_i2l 2 rfl dX12_meetsCells_1 ?_
  refine a_lconst (x := 0) 3 rfl dX12_meetsCells_2 (by decide) ?_
  refine a_ldc2 q_1404 6 rfl dX12_meetsCells_3 ?_
  refine a_callS (as := [.long ((nI o).toInt64), .long 0, .long 2]) (rest := []) (st2 := [.int (f_i (decide ((0 : Int32) ≤ (nI o) ∧ (nI o) ≤ 2)))]) (u1 := 0) (v1 := 0) (u2 := 0) (v2 := 0) (r_isInB (y := (nI o)) (a := 0) (b := 2) rfl rfl) oX12_isIn q_1242 q_1243 rfl (by omega) (by decide) rfl (Nat.le_of_ble_eq_true rfl) 9 rfl dX12_meetsCells_6 rfl ?_
  refine a_if_ne 14 12 rfl dX12_meetsCells_9 (by decide) (fun _ => ?_) (fun hc => absurd hc (f_i_T (f_or2 ho)))
  refine a_aload_n 0 15 rfl dX12_meetsCells_14 rfl rfl ?_
  refine a_iload_n 2 16 rfl dX12_meetsCells_15 rfl rfl ?_
  refine a_iload_n 3 17 rfl dX12_meetsCells_16 rfl rfl ?_
  refine a_callV (as := [.int y2, .int y3]) (rest := []) (st2 := [.int r9]) (u1 := 0) (v1 := 0) (u2 := 0) (v2 := 0) (wl) (⟨_, _, _, _, rfl, rfl⟩) oX12_leastCells q_1496 q_1489 q_1490 rfl (by omega) (by decide) rfl (Nat.le_of_ble_eq_true rfl) 20 rfl dX12_meetsCells_17 rfl ?_
  refine a_istore (lv' := [(4, .int r9), (0, .ref (g_ad G 38)), (1, .int (nI o)), (2, .int y2), (3, .int y3)]) 22 rfl dX12_meetsCells_20 (by decide) rfl ?_
  refine a_iload 0 24 rfl dX12_meetsCells_22 rfl ?_
  refine a_if_ge 30 27 rfl dX12_meetsCells_24 (by decide) (fun hc => absurd hc (hr)) (fun _ => ?_)
  refine a_iload 0 29 rfl dX12_meetsCells_27 rfl ?_
  exact a_ireturn .int rfl rfl (rfl) (rfl) dX12_meetsCells_29
theorem r_mcM0 (ho : o < 3) (hr : (0 : Int32) ≤ r9) (hm : m ≤ 64) (hw0 : 0 < M2.1 7) (hw : M2.1 7 ≤ 8) (ht : M2.1 8 ≤ 8) (wl : g_Run G mX12_leastCells 6 0 0 [.ref (g_ad G 38), .int 0, .int (nI m)] (g_hp G C (g_hm G M ++ ob)) (some (.int r9)) (g_hp G C (g_hm G M2 ++ ob))) : g_Run G mX12_meetsCells 7 0 0 [.ref (g_ad G 38), .int (nI o), .int 0, .int (nI m)] (g_hp G C (g_hm G M ++ ob)) (some (.int (f_i (decide (nI (f_pop (f_boC (M2.1 7) (M2.1 8) (f_fcM (M2.1 7) (M2.1 8) o m))) = r9))))) (g_hp G C (g_hm G M2 ++ ob)) := by
  refine g_Run.of (lv := [(0, .ref (g_ad G 38)), (1, .int (nI o)), (2, .int 0), (3, .int (nI m))]) (by decide) (Nat.le_of_ble_eq_true rfl) rfl ?_
  refine a_iload_n 1 1 rfl dX12_meetsCells_0 rfl rfl ?_
  refine a_i2l 2 rfl dX12_meetsCells_1 ?_
  refine a_lconst (x := 0) 3 rfl dX12_meetsCells_2 (by decide) ?_
  refine a_ldc2 q_1404 6 rfl dX12_meetsCells_3 ?_
  refine a_callS (as := [.long ((nI o).toInt64), .long 0, .long 2]) (rest := []) (st2 := [.int (f_i (decide ((0 : Int32) ≤ (nI o) ∧ (nI o) ≤ 2)))]) (u1 := 0) (v1 := 0) (u2 := 0) (v2 := 0) (r_isInB (y := (nI o)) (a := 0) (b := 2) rfl rfl) oX12_isIn q_1242 q_1243 rfl (by omega) (by decide) rfl (Nat.le_of_ble_eq_true rfl) 9 rfl dX12_meetsCells_6 rfl ?_
  refine a_if_ne 14 12 rfl dX12_meetsCells_9 (by decide) (fun _ => ?_) (fun hc => absurd hc (f_i_T (f_or2 ho)))
  refine a_aload_n 0 15 rfl dX12_meetsCells_14 rfl rfl ?_
  refine a_iload_n 2 16 rfl dX12_meetsCells_15 rfl rfl ?_
  refine a_iload_n 3 17 rfl dX12_meetsCells_16 rfl rfl ?_
  refine a_callV (as := [.int 0, .int (nI m)]) (rest := []) (st2 := [.int r9]) (u1 := 0) (v1 := 0) (u2 := 0) (v2 := 0) (wl) (⟨_, _, _, _, rfl, rfl⟩) oX12_leastCells q_1496 q_1489 q_1490 rfl (by omega) (by decide) rfl (Nat.le_of_ble_eq_true rfl) 20 rfl dX12_meetsCells_17 rfl ?_
  refine a_istore (lv' := [(4, .int r9), (0, .ref (g_ad G 38)), (1, .int (nI o)), (2, .int 0), (3, .int (nI m))]) 22 rfl dX12_meetsCells_20 (by decide) rfl ?_
  refine a_iload 0 24 rfl dX12_meetsCells_22 rfl ?_
  refine a_if_ge 30 27 rfl dX12_meetsCells_24 (by decide) (fun _ => ?_) (fun hc => absurd (hr) hc)
  refine a_aload_n 1 31 rfl dX12_meetsCells_30 rfl rfl ?_
  refine a_iload_n 2 32 rfl dX12_meetsCells_31 rfl rfl ?_
  refine a_iload_n 4 33 rfl dX12_meetsCells_32 rfl rfl ?_
  refine a_callV (as := [.int (nI o), .int (nI m)]) (rest := []) (st2 := [.long (f_fcM (M2.1 7) (M2.1 8) o m)]) (u1 := 0) (v1 := 0) (u2 := 0) (v2 := 0) (r_fcM (M := M2) ho hm hw0 hw ht) (⟨_, _, _, _, rfl, rfl⟩) oX12_firstsOfCells q_1479 q_1481 q_110 rfl (by omega) (by decide) rfl (Nat.le_of_ble_eq_true rfl) 36 rfl dX12_meetsCells_33 rfl ?_
  refine a_lstore (lv' := [(5, .long (f_fcM (M2.1 7) (M2.1 8) o m)), (4, .int r9), (0, .ref (g_ad G 38)), (1, .int (nI o)), (2, .int 0), (3, .int (nI m))]) 38 rfl dX12_meetsCells_36 (by decide) rfl ?_
  refine a_iload_n 4 39 rfl dX12_meetsCells_38 rfl rfl ?_
  refine a_if_ne 54 42 rfl dX12_meetsCells_39 (by decide) (fun hc => absurd (rfl) hc) (fun _ => ?_)
  refine a_aload_n 2 43 rfl dX12_meetsCells_42 rfl rfl ?_
  refine a_lload 0 45 rfl dX12_meetsCells_43 rfl ?_
  refine a_callV (as := [.long (f_fcM (M2.1 7) (M2.1 8) o m)]) (rest := []) (st2 := [.long (f_boC (M2.1 7) (M2.1 8) (f_fcM (M2.1 7) (M2.1 8) o m))]) (u1 := 0) (v1 := 0) (u2 := 0) (v2 := 0) (r_boC (M := M2) hw0 hw ht) (⟨_, _, _, _, rfl, rfl⟩) oX12_borderCells q_1459 q_1461 q_107 rfl (by omega) (by decide) rfl (Nat.le_of_ble_eq_true rfl) 48 rfl dX12_meetsCells_45 rfl ?_
  refine a_callS (as := [.long (f_boC (M2.1 7) (M2.1 8) (f_fcM (M2.1 7) (M2.1 8) o m))]) (rest := []) (st2 := [.int (nI (f_pop (f_boC (M2.1 7) (M2.1 8) (f_fcM (M2.1 7) (M2.1 8) o m))))]) (u1 := 0) (v1 := 0) (u2 := 0) (v2 := 0) (r_many) oX12_many q_1311 q_1312 rfl (by omega) (by decide) rfl (Nat.le_of_ble_eq_true rfl) 51 rfl dX12_meetsCells_48 rfl ?_
  refine a_goto 60 dX12_meetsCells_51 (by decide) ?_
  refine a_iload 1 62 rfl dX12_meetsCells_60 rfl ?_
  refine g_sfx (pc := 70) (lv := [(5, .long (f_fcM (M2.1 7) (M2.1 8) o m)), (4, .int r9), (0, .ref (g_ad G 38)), (1, .int (nI o)), (2, .int 0), (3, .int (nI m))]) (st := [.int (f_i (decide ((nI (f_pop (f_boC (M2.1 7) (M2.1 8) (f_fcM (M2.1 7) (M2.1 8) o m)))) = r9)))]) (h := (g_hp G C (g_hm G M2 ++ ob))) (fun key => ?_) ?_
  · skip
    rcases Bool.eq_false_or_eq_true (decide ((nI (f_pop (f_boC (M2.1 7) (M2.1 8) (f_fcM (M2.1 7) (M2.1 8) o m)))) = r9)) with c62_1 | c62_1
    · skip
      have dc62_1 := of_decide_eq_true c62_1
      refine a_icmp_ne 69 65 rfl dX12_meetsCells_62 (by decide) (fun hc => absurd (of_decide_eq_true c62_1) hc) (fun _ => ?_)
      refine a_iconst (x := 1) 66 rfl dX12_meetsCells_65 (by decide) ?_
      refine a_goto 70 dX12_meetsCells_66 (by decide) ?_
      exact a_eq rfl (rfl) (by rw [c62_1]; rfl) rfl key
    · skip
      have dc62_1 := of_decide_eq_false c62_1
      refine a_icmp_ne 69 65 rfl dX12_meetsCells_62 (by decide) (fun _ => ?_) (fun hc => absurd hc (of_decide_eq_false c62_1))
      refine a_iconst (x := 0) 70 rfl dX12_meetsCells_69 (by decide) ?_
      exact a_eq rfl (rfl) (by rw [c62_1]; rfl) rfl key
  exact a_ireturn .int rfl rfl (rfl) (rfl) dX12_meetsCells_70

theorem r_mcM1 (ho : o < 3) (hr : (0 : Int32) ≤ r9) (hm : m ≤ 64) (hw0 : 0 < M2.1 7) (hw : M2.1 7 ≤ 8) (ht : M2.1 8 ≤ 8) (wl : g_Run G mX12_leastCells 6 0 0 [.ref (g_ad G 38), .int 1, .int (nI m)] (g_hp G C (g_hm G M ++ ob)) (some (.int r9)) (g_hp G C (g_hm G M2 ++ ob))) : g_Run G mX12_meetsCells 7 0 0 [.ref (g_ad G 38), .int (nI o), .int 1, .int (nI m)] (g_hp G C (g_hm G M ++ ob)) (some (.int (f_i (decide (nI (f_edC (M2.1 7) (M2.1 8) (f_fcM (M2.1 7) (M2.1 8) o m) (M2.1 7 * M2.1 8)) = r9))))) (g_hp G C (g_hm G M2 ++ ob)) := by
  refine g_Run.of (lv := [(0, .ref (g_ad G 38)), (1, .int (nI o)), (2, .int 1), (3, .int (nI m))]) (by decide) (Nat.le_of_ble_eq_true rfl) rfl ?_
  refine a_iload_n 1 1 rfl dX12_meetsCells_0 rfl rfl ?_
  refine a_i2l 2 rfl dX12_meetsCells_1 ?_
  refine a_lconst (x := 0) 3 rfl dX12_meetsCells_2 (by decide) ?_
  refine a_ldc2 q_1404 6 rfl dX12_meetsCells_3 ?_
  refine a_callS (as := [.long ((nI o).toInt64), .long 0, .long 2]) (rest := []) (st2 := [.int (f_i (decide ((0 : Int32) ≤ (nI o) ∧ (nI o) ≤ 2)))]) (u1 := 0) (v1 := 0) (u2 := 0) (v2 := 0) (r_isInB (y := (nI o)) (a := 0) (b := 2) rfl rfl) oX12_isIn q_1242 q_1243 rfl (by omega) (by decide) rfl (Nat.le_of_ble_eq_true rfl) 9 rfl dX12_meetsCells_6 rfl ?_
  refine a_if_ne 14 12 rfl dX12_meetsCells_9 (by decide) (fun _ => ?_) (fun hc => absurd hc (f_i_T (f_or2 ho)))
  refine a_aload_n 0 15 rfl dX12_meetsCells_14 rfl rfl ?_
  refine a_iload_n 2 16 rfl dX12_meetsCells_15 rfl rfl ?_
  refine a_iload_n 3 17 rfl dX12_meetsCells_16 rfl rfl ?_
  refine a_callV (as := [.int 1, .int (nI m)]) (rest := []) (st2 := [.int r9]) (u1 := 0) (v1 := 0) (u2 := 0) (v2 := 0) (wl) (⟨_, _, _, _, rfl, rfl⟩) oX12_leastCells q_1496 q_1489 q_1490 rfl (by omega) (by decide) rfl (Nat.le_of_ble_eq_true rfl) 20 rfl dX12_meetsCells_17 rfl ?_
  refine a_istore (lv' := [(4, .int r9), (0, .ref (g_ad G 38)), (1, .int (nI o)), (2, .int 1), (3, .int (nI m))]) 22 rfl dX12_meetsCells_20 (by decide) rfl ?_
  refine a_iload 0 24 rfl dX12_meetsCells_22 rfl ?_
  refine a_if_ge 30 27 rfl dX12_meetsCells_24 (by decide) (fun _ => ?_) (fun hc => absurd (hr) hc)
  refine a_aload_n 1 31 rfl dX12_meetsCells_30 rfl rfl ?_
  refine a_iload_n 2 32 rfl dX12_meetsCells_31 rfl rfl ?_
  refine a_iload_n 4 33 rfl dX12_meetsCells_32 rfl rfl ?_
  refine a_callV (as := [.int (nI o), .int (nI m)]) (rest := []) (st2 := [.long (f_fcM (M2.1 7) (M2.1 8) o m)]) (u1 := 0) (v1 := 0) (u2 := 0) (v2 := 0) (r_fcM (M := M2) ho hm hw0 hw ht) (⟨_, _, _, _, rfl, rfl⟩) oX12_firstsOfCells q_1479 q_1481 q_110 rfl (by omega) (by decide) rfl (Nat.le_of_ble_eq_true rfl) 36 rfl dX12_meetsCells_33 rfl ?_
  refine a_lstore (lv' := [(5, .long (f_fcM (M2.1 7) (M2.1 8) o m)), (4, .int r9), (0, .ref (g_ad G 38)), (1, .int (nI o)), (2, .int 1), (3, .int (nI m))]) 38 rfl dX12_meetsCells_36 (by decide) rfl ?_
  refine a_iload_n 4 39 rfl dX12_meetsCells_38 rfl rfl ?_
  refine a_if_ne 54 42 rfl dX12_meetsCells_39 (by decide) (fun _ => ?_) (fun hc => absurd hc ((by decide)))
  refine a_aload_n 2 55 rfl dX12_meetsCells_54 rfl rfl ?_
  refine a_lload 0 57 rfl dX12_meetsCells_55 rfl ?_
  refine a_callV (as := [.long (f_fcM (M2.1 7) (M2.1 8) o m)]) (rest := []) (st2 := [.int (nI (f_edC (M2.1 7) (M2.1 8) (f_fcM (M2.1 7) (M2.1 8) o m) (M2.1 7 * M2.1 8)))]) (u1 := 0) (v1 := 0) (u2 := 0) (v2 := 0) (r_edC (M := M2) hw0 hw ht) (⟨_, _, _, _, rfl, rfl⟩) oX12_edgesOfCells q_1467 q_1469 q_109 rfl (by omega) (by decide) rfl (Nat.le_of_ble_eq_true rfl) 60 rfl dX12_meetsCells_57 rfl ?_
  refine a_iload 1 62 rfl dX12_meetsCells_60 rfl ?_
  refine g_sfx (pc := 70) (lv := [(5, .long (f_fcM (M2.1 7) (M2.1 8) o m)), (4, .int r9), (0, .ref (g_ad G 38)), (1, .int (nI o)), (2, .int 1), (3, .int (nI m))]) (st := [.int (f_i (decide ((nI (f_edC (M2.1 7) (M2.1 8) (f_fcM (M2.1 7) (M2.1 8) o m) (M2.1 7 * M2.1 8))) = r9)))]) (h := (g_hp G C (g_hm G M2 ++ ob))) (fun key => ?_) ?_
  · skip
    rcases Bool.eq_false_or_eq_true (decide ((nI (f_edC (M2.1 7) (M2.1 8) (f_fcM (M2.1 7) (M2.1 8) o m) (M2.1 7 * M2.1 8))) = r9)) with c62_1 | c62_1
    · skip
      have dc62_1 := of_decide_eq_true c62_1
      refine a_icmp_ne 69 65 rfl dX12_meetsCells_62 (by decide) (fun hc => absurd (of_decide_eq_true c62_1) hc) (fun _ => ?_)
      refine a_iconst (x := 1) 66 rfl dX12_meetsCells_65 (by decide) ?_
      refine a_goto 70 dX12_meetsCells_66 (by decide) ?_
      exact a_eq rfl (rfl) (by rw [c62_1]; rfl) rfl key
    · skip
      have dc62_1 := of_decide_eq_false c62_1
      refine a_icmp_ne 69 65 rfl dX12_meetsCells_62 (by decide) (fun _ => ?_) (fun hc => absurd hc (of_decide_eq_false c62_1))
      refine a_iconst (x := 0) 70 rfl dX12_meetsCells_69 (by decide) ?_
      exact a_eq rfl (rfl) (by rw [c62_1]; rfl) rfl key
  exact a_ireturn .int rfl rfl (rfl) (rfl) dX12_meetsCells_70

end MR1
