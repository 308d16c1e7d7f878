/-! The model's calls on least ones, cascades -/
theorem f_bin_up (n k : Nat) : f_bin n k ≤ f_bin (n + 1) k := by
  cases k with
  | zero => rw [f_bin_0, f_bin_0]; exact Nat.le_refl _
  | succ k => rw [f_bin_ss]; omega
theorem f_bin_mono (k n : Nat) : ∀ j, f_bin n k ≤ f_bin (n + j) k := by
  intro j
  induction j with
  | zero => exact Nat.le_refl _
  | succ j ih => exact Nat.le_trans ih (f_bin_up (n + j) k)
theorem f_bin_pow : ∀ n k, f_bin n k ≤ 2 ^ n := by
  intro n
  induction n with
  | zero => intro k; cases k with
    | zero => exact Nat.le_refl _
    | succ k => exact Nat.zero_le _
  | succ n ih =>
    intro k
    cases k with
    | zero => rw [f_bin_0]; exact Nat.one_le_two_pow
    | succ k => rw [f_bin_ss, Nat.pow_succ]; have e1 := ih k; have e2 := ih (k + 1); omega
theorem f_bin_down {a i : Nat} (hi : i + 1 ≤ a) (hs : i < 12) : f_bin a i ≤ f_bin a (i + 1) + 4194304 := by
  have e1 := f_bin_mul a i
  rw [f_bin_ss, Nat.add_mul] at e1
  rcases Nat.lt_or_ge (a + 1 - (i + 1)) (i + 1) with h | h
  · have e2 := f_bin_pow a i
    have e3 : 2 ^ a ≤ 2 ^ 22 := Nat.pow_le_pow_right (by decide) (by omega)
    omega
  · have e2 : (a + 1) * f_bin a i = (a + 1 - (i + 1)) * f_bin a i + (i + 1) * f_bin a i := by rw [← Nat.add_mul]; congr 1; omega
    rw [e2, Nat.mul_comm (f_bin a i)] at e1
    have e3 : (i + 1) * f_bin a i ≤ (a + 1 - (i + 1)) * f_bin a i := Nat.mul_le_mul_right _ h
    have e4 : f_bin a i * (i + 1) ≤ f_bin a (i + 1) * (i + 1) := by rw [Nat.mul_comm (f_bin a i)]; omega
    have e5 := Nat.le_of_mul_le_mul_right e4 (by omega)
    omega
theorem f_half_ok (l i : Nat) : ∀ t lo hi, lo < hi → hi - lo ≤ 2 ^ t → f_ch lo i ≤ l → l < f_ch hi i → f_ch (f_half l i t lo hi) i ≤ l ∧ l < f_ch (f_half l i t lo hi + 1) i := by
  intro t
  induction t with
  | zero => intro lo hi h1 h2 h3 h4; rw [f_half, show lo + 1 = hi by omega]; exact ⟨h3, h4⟩
  | succ t ih =>
    intro lo hi h1 h2 h3 h4
    rw [Nat.pow_succ] at h2
    unfold f_half
    split
    · rw [show lo + 1 = hi by omega]; exact ⟨h3, h4⟩
    · split
      · exact ih _ _ (by omega) (by omega) (by assumption) h4
      · exact ih _ _ (by omega) (by omega) h3 (by omega)
theorem f_bin_grow (l i : Nat) (hi : 0 < i) : l < f_bin (l + i) i := by
  have e1 := f_bin_diag l (i - 1) 1
  rw [f_bin_1, show 1 + (i - 1) = i by omega] at e1
  omega
theorem f_great_ok {l i : Nat} (h0 : 0 < l) (hl : l ≤ 2000000000) (hi : 0 < i) : f_bin (f_great l i) i ≤ l ∧ l < f_bin (f_great l i + 1) i := by
  have e1 := f_half_ok l i 64 i (l + i) (by omega) (by omega) (by unfold f_ch; rw [f_bin_self]; exact h0) (by have := f_bin_grow l i hi; unfold f_ch; split <;> omega)
  have e2 : f_half l i 64 i (l + i) = f_great l i := rfl
  rw [e2] at e1
  unfold f_ch at e1
  have e3 := e1.1
  have e4 := e1.2
  constructor
  · split at e3 <;> omega
  · split at e4 <;> omega
theorem f_ch_small {a i : Nat} (h : f_bin a i ≤ 4000000000) : f_ch a i = f_bin a i := by unfold f_ch; rw [if_neg (by omega)]
theorem f_great_bins {l i : Nat} (h0 : 0 < l) (hl : l ≤ 2000000000) (hi : i < 12) : f_bin (f_great l (i + 1)) i ≤ f_bin (f_great l (i + 1)) (i + 1) + 4194304 := f_bin_down (f_great_le l (i + 1)).1 hi
theorem f_great_c1 {l i : Nat} (h0 : 0 < l) (hl : l ≤ 2000000000) (hi : 0 < i) : f_ch (f_great l i) i = f_bin (f_great l i) i := f_ch_small (by have := (f_great_ok h0 hl hi).1; omega)
theorem f_great_c2 {l i : Nat} (h0 : 0 < l) (hl : l ≤ 2000000000) (hi : i < 12) : f_ch (f_great l (i + 1)) i = f_bin (f_great l (i + 1)) i := f_ch_small (by have := (f_great_ok (i := i + 1) h0 hl (by omega)).1; have := f_great_bins h0 hl hi; omega)
theorem f_cab_small : ∀ i l, i ≤ 12 → l ≤ 2000000000 → f_cab i l ≤ l + i * 4194304 := by
  intro i
  induction i with
  | zero => intro l h1 h2; rw [f_cab]; omega
  | succ i ih =>
    intro l h1 h2
    unfold f_cab
    split
    · exact Nat.zero_le _
    · have e1 := ih (l - f_ch (f_great l (i + 1)) (i + 1)) (by omega) (by omega)
      have e2 := f_great_c2 (l := l) (i := i) (by omega) h2 (by omega)
      have e3 := f_great_c1 (l := l) (i := i + 1) (by omega) h2 (by omega)
      have e4 := f_great_bins (l := l) (i := i) (by omega) h2 (by omega)
      have e5 := (f_great_ok (l := l) (i := i + 1) (by omega) h2 (by omega)).1
      omega

theorem f_bin_next {a i : Nat} (hi : 0 < i) (ha : i ≤ a) : f_bin a i * (a + 1) / (a + 1 - i) = f_bin (a + 1) i := by
  obtain ⟨i9, rfl⟩ : ∃ i9, i = i9 + 1 := ⟨i - 1, by omega⟩
  have e1 := f_bin_mul a i9
  have e3 : f_bin (a + 1) (i9 + 1) * (a + 1 - (i9 + 1)) = f_bin a (i9 + 1) * (a + 1) := by
    have e4 : f_bin (a + 1) (i9 + 1) * (a + 1 - (i9 + 1)) + f_bin (a + 1) (i9 + 1) * (i9 + 1) = f_bin (a + 1) (i9 + 1) * (a + 1) := by rw [← Nat.mul_add]; congr 1; omega
    have e5 : f_bin (a + 1) (i9 + 1) * (a + 1) = (a + 1) * f_bin a i9 + f_bin a (i9 + 1) * (a + 1) := by rw [f_bin_ss, Nat.add_mul, Nat.mul_comm (f_bin a i9)]
    omega
  rw [← e3]
  exact Nat.mul_div_cancel _ (by omega)
def f_caM (M : f_M) (m k : Nat) : f_M := f_ml (f_mn (f_mI M 6 (f_lay (M.2.2.2.1 6) 0 (f_cas k m))) 6 (f_cas k m).length) 1 (lN (f_cab k m))
section MQ1
variable {G : g_G} {C : f_C} {M M2 : f_M} {ob h h2 : List va_E} {x : Int64} {y y2 y3 r9 : Int32} {a k so m o : Nat}
theorem r_leastM (w : g_Run G mX12_leastOf 5 0 0 [.ref (g_ad G 38), .int y, .int y2, .int y3] (g_hp G C (g_hm G M ++ ob)) (some (.int r9)) h2) : g_Run G mX12_least 6 0 0 [.ref (g_ad G 38), .int y, .int y2, .int y3] (g_hp G C (g_hm G M ++ ob)) (some (.int r9)) h2 := by
  refine g_Run.of (lv := [(0, .ref (g_ad G 38)), (1, .int y), (2, .int y2), (3, .int y3)]) (by decide) (Nat.le_of_ble_eq_true rfl) rfl ?_
  refine a_aload_n 0 1 rfl dX12_least_0 rfl rfl ?_
  refine a_iload_n 1 2 rfl dX12_least_1 rfl rfl ?_
  refine a_iload_n 2 3 rfl dX12_least_2 rfl rfl ?_
  refine a_iload_n 3 4 rfl dX12_least_3 rfl rfl ?_
  refine a_callV (as := [.int y, .int y2, .int y3]) (rest := []) (st2 := [.int r9]) (u1 := 0) (v1 := 0) (u2 := 0) (v2 := 0) (w) (⟨_, _, _, _, rfl, rfl⟩) oX12_leastOf q_1400 q_1402 q_102 rfl (by omega) (by decide) rfl (Nat.le_of_ble_eq_true rfl) 7 rfl dX12_least_4 rfl ?_
  exact a_ireturn .int rfl rfl (rfl) (rfl) dX12_least_7
theorem r_leastSetsM (w : g_Run G mX12_leastOf 5 0 0 [.ref (g_ad G 38), .int y, .int y2, .int y3] (g_hp G C (g_hm G M ++ ob)) (some (.int r9)) (g_hp G C (g_hm G M2 ++ ob))) : g_Run G mX12_leastSets 6 0 0 [.ref (g_ad G 38), .int y, .int y2, .int y3] (g_hp G C (g_hm G M ++ ob)) (some (.long (cond (decide (0 ≤ r9)) (M2.2.2.1 0) (-9223372036854775808)))) (g_hp G C (g_hm G M2 ++ ob)) := by
  refine g_Run.of (lv := [(0, .ref (g_ad G 38)), (1, .int y), (2, .int y2), (3, .int y3)]) (by decide) (Nat.le_of_ble_eq_true rfl) rfl ?_
  refine a_aload_n 0 1 rfl dX12_leastSets_0 rfl rfl ?_
  refine a_iload_n 1 2 rfl dX12_leastSets_1 rfl rfl ?_
  refine a_iload_n 2 3 rfl dX12_leastSets_2 rfl rfl ?_
  refine a_iload_n 3 4 rfl dX12_leastSets_3 rfl rfl ?_
  refine a_callV (as := [.int y, .int y2, .int y3]) (rest := []) (st2 := [.int r9]) (u1 := 0) (v1 := 0) (u2 := 0) (v2 := 0) (w) (⟨_, _, _, _, rfl, rfl⟩) oX12_leastOf q_1400 q_1402 q_102 rfl (by omega) (by decide) rfl (Nat.le_of_ble_eq_true rfl) 7 rfl dX12_leastSets_4 rfl ?_
  refine g_sfx (pc := 20) (lv := [(0, .ref (g_ad G 38)), (1, .int y), (2, .int y2), (3, .int y3)]) (st := [.long (cond (decide (0 ≤ r9)) (M2.2.2.1 0) (-9223372036854775808))]) (h := (g_hp G C (g_hm G M2 ++ ob))) (fun key => ?_) ?_
  · skip
    rcases Bool.eq_false_or_eq_true (decide (0 ≤ r9)) with c7_1 | c7_1
    · skip
      refine a_if_ge 16 10 rfl dX12_leastSets_7 (by decide) (fun _ => ?_) (fun hc => absurd (of_decide_eq_true c7_1) hc)
      refine a_aload_n 0 17 rfl dX12_leastSets_16 rfl rfl ?_
      refine a_get 16 cl_11 f_RX12_216_11 (by decide) (rfl) rfl 20 rfl dX12_leastSets_17 ?_
      exact a_eq rfl (rfl) (by rw [c7_1]; rfl) rfl key
    · skip
      refine a_if_ge 16 10 rfl dX12_leastSets_7 (by decide) (fun hc => absurd hc (of_decide_eq_false c7_1)) (fun _ => ?_)
      refine a_ldc2 q_1295 13 rfl dX12_leastSets_10 ?_
      refine a_goto 20 dX12_leastSets_13 (by decide) ?_
      exact a_eq rfl (rfl) (by rw [c7_1]; rfl) rfl key
  exact a_lreturn rfl (rfl) (rfl) dX12_leastSets_20
theorem r_meetsM_bad (hn : M.1 0 ≤ 6) (hy : ¬ (((0 : Int32) ≤ y ∧ y ≤ 3) ∧ ((0 : Int32) ≤ y2 ∧ y2 ≤ 1) ∧ ((0 : Int32) ≤ y3 ∧ y3 ≤ nI (2 ^ M.1 0)))) : g_Run G mX12_meets 6 0 0 [.ref (g_ad G 38), .int y, .int y2, .int y3] (g_hp G C (g_hm G M ++ ob)) (some (.int (-1))) (g_hp G C (g_hm G M ++ ob)) := by
  refine g_Run.of (lv := [(0, .ref (g_ad G 38)), (1, .int y), (2, .int y2), (3, .int y3)]) (by decide) (Nat.le_of_ble_eq_true rfl) rfl ?_
  refine a_iload_n 1 1 rfl dX12_meets_0 rfl rfl ?_
  refine a_callS (as := [.int y]) (rest := []) (st2 := [.int (f_i (decide ((0:Int32) ≤ y ∧ y ≤ 3)))]) (u1 := 0) (v1 := 0) (u2 := 0) (v2 := 0) (r_ioM) oX12_isOrder q_1375 q_1376 rfl (by omega) (by decide) rfl (Nat.le_of_ble_eq_true rfl) 4 rfl dX12_meets_1 rfl ?_
  rcases Bool.eq_false_or_eq_true (decide ((0 : Int32) ≤ y ∧ y ≤ 3)) with e1 | e1
  · skip
    refine a_if_eq 31 7 rfl dX12_meets_4 (by decide) (fun hc => absurd hc (f_i_T e1)) (fun _ => ?_)
    refine a_iload_n 2 8 rfl dX12_meets_7 rfl rfl ?_
    refine a_i2l 9 rfl dX12_meets_8 ?_
    refine a_lconst (x := 0) 10 rfl dX12_meets_9 (by decide) ?_
    refine a_lconst (x := 1) 11 rfl dX12_meets_10 (by decide) ?_
    refine a_callS (as := [.long y2.toInt64, .long 0, .long 1]) (rest := []) (st2 := [.int (f_i (decide ((0 : Int32) ≤ y2 ∧ y2 ≤ 1)))]) (u1 := 0) (v1 := 0) (u2 := 0) (v2 := 0) (r_isInB (y := y2) (a := 0) (b := 1) rfl rfl) oX12_isIn q_1242 q_1243 rfl (by omega) (by decide) rfl (Nat.le_of_ble_eq_true rfl) 14 rfl dX12_meets_11 rfl ?_
    rcases Bool.eq_false_or_eq_true (decide ((0 : Int32) ≤ y2 ∧ y2 ≤ 1)) with e2 | e2
    · skip
      refine a_if_eq 31 17 rfl dX12_meets_14 (by decide) (fun hc => absurd hc (f_i_T e2)) (fun _ => ?_)
      refine a_iload_n 3 18 rfl dX12_meets_17 rfl rfl ?_
      refine a_i2l 19 rfl dX12_meets_18 ?_
      refine a_lconst (x := 0) 20 rfl dX12_meets_19 (by decide) ?_
      refine a_aload_n 0 21 rfl dX12_meets_20 rfl rfl ?_
      refine a_callV (as := []) (rest := [.long 0, .long y3.toInt64]) (st2 := [.int (nI (2 ^ M.1 0)), .long 0, .long y3.toInt64]) (u1 := 0) (v1 := 0) (u2 := 0) (v2 := 0) (r_allM hn) (⟨_, _, _, _, rfl, rfl⟩) oX12_all q_1253 q_1255 q_85 rfl (by omega) (by decide) rfl (Nat.le_of_ble_eq_true rfl) 24 rfl dX12_meets_21 rfl ?_
      refine a_i2l 25 rfl dX12_meets_24 ?_
      refine a_callS (as := [.long y3.toInt64, .long 0, .long ((nI (2 ^ M.1 0)).toInt64)]) (rest := []) (st2 := [.int (f_i (decide ((0 : Int32) ≤ y3 ∧ y3 ≤ (nI (2 ^ M.1 0)))))]) (u1 := 0) (v1 := 0) (u2 := 0) (v2 := 0) (r_isInB (y := y3) (a := 0) (b := (nI (2 ^ M.1 0))) rfl rfl) oX12_isIn q_1242 q_1243 rfl (by omega) (by decide) rfl (Nat.le_of_ble_eq_true rfl) 28 rfl dX12_meets_25 rfl ?_
      refine a_if_ne 33 31 rfl dX12_meets_28 (by decide) (fun hc => absurd (f_i_F (decide_eq_false (fun z9 => hy ⟨of_decide_eq_true e1, of_decide_eq_true e2, z9⟩))) hc) (fun _ => ?_)
      refine a_iconst (x := (-1)) 32 rfl dX12_meets_31 (by decide) ?_
      exact a_ireturn .int rfl rfl (rfl) (rfl) dX12_meets_32
    · skip
      refine a_if_eq 31 17 rfl dX12_meets_14 (by decide) (fun _ => ?_) (fun hc => absurd (f_i_F e2) hc)
      refine a_iconst (x := (-1)) 32 rfl dX12_meets_31 (by decide) ?_
      exact a_ireturn .int rfl rfl (rfl) (rfl) dX12_meets_32
  · skip
    refine a_if_eq 31 7 rfl dX12_meets_4 (by decide) (fun _ => ?_) (fun hc => absurd (f_i_F e1) hc)
    refine a_iconst (x := (-1)) 32 rfl dX12_meets_31 (by decide) ?_
    exact a_ireturn .int rfl rfl (rfl) (rfl) dX12_meets_32
theorem r_meetsM_st (hn : M.1 0 ≤ 6) (h4 : 4 < M.1 0) (hy : ((0 : Int32) ≤ y ∧ y ≤ 3) ∧ ((0 : Int32) ≤ y2 ∧ y2 ≤ 1) ∧ ((0 : Int32) ≤ y3 ∧ y3 ≤ nI (2 ^ M.1 0))) : g_Run G mX12_meets 6 0 0 [.ref (g_ad G 38), .int y, .int y2, .int y3] (g_hp G C (g_hm G M ++ ob)) (some (.int (-5))) (g_hp G C (g_hm G M ++ ob)) := by
  refine g_Run.of (lv := [(0, .ref (g_ad G 38)), (1, .int y), (2, .int y2), (3, .int y3)]) (by decide) (Nat.le_of_ble_eq_true rfl) rfl ?_
  refine a_iload_n 1 1 rfl dX12_meets_0 rfl rfl ?_
  refine a_callS (as := [.int y]) (rest := []) (st2 := [.int (f_i (decide ((0:Int32) ≤ y ∧ y ≤ 3)))]) (u1 := 0) (v1 := 0) (u2 := 0) (v2 := 0) (r_ioM) oX12_isOrder q_1375 q_1376 rfl (by omega) (by decide) rfl (Nat.le_of_ble_eq_true rfl) 4 rfl dX12_meets_1 rfl ?_
  refine a_if_eq 31 7 rfl dX12_meets_4 (by decide) (fun hc => absurd hc (f_i_T (decide_eq_true hy.1))) (fun _ => ?_)
  refine a_iload_n 2 8 rfl dX12_meets_7 rfl rfl ?_
  refine a_i2l 9 rfl dX12_meets_8 ?_
  refine a_lconst (x := 0) 10 rfl dX12_meets_9 (by decide) ?_
  refine a_lconst (x := 1) 11 rfl dX12_meets_10 (by decide) ?_
  refine a_callS (as := [.long y2.toInt64, .long 0, .long 1]) (rest := []) (st2 := [.int (f_i (decide ((0 : Int32) ≤ y2 ∧ y2 ≤ 1)))]) (u1 := 0) (v1 := 0) (u2 := 0) (v2 := 0) (r_isInB (y := y2) (a := 0) (b := 1) rfl rfl) oX12_isIn q_1242 q_1243 rfl (by omega) (by decide) rfl (Nat.le_of_ble_eq_true rfl) 14 rfl dX12_meets_11 rfl ?_
  refine a_if_eq 31 17 rfl dX12_meets_14 (by decide) (fun hc => absurd hc (f_i_T (decide_eq_true hy.2.1))) (fun _ => ?_)
  refine a_iload_n 3 18 rfl dX12_meets_17 rfl rfl ?_
  refine a_i2l 19 rfl dX12_meets_18 ?_
  refine a_lconst (x := 0) 20 rfl dX12_meets_19 (by decide) ?_
  refine a_aload_n 0 21 rfl dX12_meets_20 rfl rfl ?_
  refine a_callV (as := []) (rest := [.long 0, .long y3.toInt64]) (st2 := [.int (nI (2 ^ M.1 0)), .long 0, .long y3.toInt64]) (u1 := 0) (v1 := 0) (u2 := 0) (v2 := 0) (r_allM hn) (⟨_, _, _, _, rfl, rfl⟩) oX12_all q_1253 q_1255 q_85 rfl (by omega) (by decide) rfl (Nat.le_of_ble_eq_true rfl) 24 rfl dX12_meets_21 rfl ?_
  refine a_i2l 25 rfl dX12_meets_24 ?_
  refine a_callS (as := [.long y3.toInt64, .long 0, .long ((nI (2 ^ M.1 0)).toInt64)]) (rest := []) (st2 := [.int (f_i (decide ((0 : Int32) ≤ y3 ∧ y3 ≤ (nI (2 ^ M.1 0)))))]) (u1 := 0) (v1 := 0) (u2 := 0) (v2 := 0) (r_isInB (y := y3) (a := 0) (b := (nI (2 ^ M.1 0))) rfl rfl) oX12_isIn q_1242 q_1243 rfl (by omega) (by decide) rfl (Nat.le_of_ble_eq_true rfl) 28 rfl dX12_meets_25 rfl ?_
  refine a_if_ne 33 31 rfl dX12_meets_28 (by decide) (fun _ => ?_) (fun hc => absurd hc (f_i_T (decide_eq_true hy.2.2)))
  refine a_aload_n 0 34 rfl dX12_meets_33 rfl rfl ?_
  refine a_get 0 cl_11 f_RX12_9_11 (by decide) (rfl) rfl 37 rfl dX12_meets_34 ?_
  refine a_iconst (x := 4) 38 rfl dX12_meets_37 (by decide) ?_
  refine a_icmp_le 44 41 rfl dX12_meets_38 (by decide) (fun hc => absurd hc (nI_ge (a := 4) (b := (M.1 0)) (by omega) (by omega))) (fun _ => ?_)
  refine a_bipush (x := (-5)) 43 rfl dX12_meets_41 (by decide) ?_
  exact a_ireturn .int rfl rfl (rfl) (rfl) dX12_meets_43
theorem r_meetsM0 (h4 : M.1 0 ≤ 4) (hn0 : 0 < M.1 0) (ho : o < 4) (hm : m ≤ 2 ^ M.1 0) : g_Run G mX12_meets 6 0 0 [.ref (g_ad G 38), .int (nI o), .int 0, .int (nI m)] (g_hp G C (g_hm G M ++ ob)) (some (.int (f_i (decide (nI (f_pop (f_boM (M.1 0) (f_fiM o (M.1 0) m))) = (f_lf 0 (M.1 0) 0 (2 ^ M.1 0) m (M.2.2.2.1 5) (M.2.2.2.2 2) (M.2.2.1 0)).1))))) (g_hp G C (g_hm G (f_leR M 0 0 (2 ^ M.1 0) m) ++ ob)) := by
  have hp : 2 ^ M.1 0 ≤ 16 := show 2 ^ M.1 0 ≤ 2 ^ 4 from Nat.pow_le_pow_right (by decide) h4
  have hn : M.1 0 ≤ 6 := by omega
  have hy : (0 : Int32) ≤ nI m ∧ nI m ≤ nI (2 ^ M.1 0) := ⟨nI_pos' (by omega), nI_le (by omega) (by omega)⟩
  have w := r_leM0 (G := G) (C := C) (M := M) (ob := ob) (m := m) (y3 := 0) h4 hn0 hm
  obtain ⟨r9, er⟩ : ∃ r9, r9 = (f_lf 0 (M.1 0) 0 (2 ^ M.1 0) m (M.2.2.2.1 5) (M.2.2.2.2 2) (M.2.2.1 0)).1 := ⟨_, rfl⟩
  rw [← er] at w ⊢
  refine g_Run.of (lv := [(0, .ref (g_ad G 38)), (1, .int (nI o)), (2, .int 0), (3, .int (nI m))]) (by decide) (Nat.le_of_ble_eq_true rfl) rfl ?_
  refine a_iload_n 1 1 rfl dX12_meets_0 rfl rfl ?_
  refine a_callS (as := [.int (nI o)]) (rest := []) (st2 := [.int (f_i (decide ((0:Int32) ≤ nI o ∧ nI o ≤ 3)))]) (u1 := 0) (v1 := 0) (u2 := 0) (v2 := 0) (r_ioM) oX12_isOrder q_1375 q_1376 rfl (by omega) (by decide) rfl (Nat.le_of_ble_eq_true rfl) 4 rfl dX12_meets_1 rfl ?_
  refine a_if_eq 31 7 rfl dX12_meets_4 (by decide) (fun hc => absurd hc (f_i_T (f_ord ho))) (fun _ => ?_)
  refine a_iload_n 2 8 rfl dX12_meets_7 rfl rfl ?_
  refine a_i2l 9 rfl dX12_meets_8 ?_
  refine a_lconst (x := 0) 10 rfl dX12_meets_9 (by decide) ?_
  refine a_lconst (x := 1) 11 rfl dX12_meets_10 (by decide) ?_
  refine a_callS (as := [.long ((0 : Int32).toInt64), .long 0, .long 1]) (rest := []) (st2 := [.int (f_i (decide ((0 : Int32) ≤ (0 : Int32) ∧ (0 : Int32) ≤ 1)))]) (u1 := 0) (v1 := 0) (u2 := 0) (v2 := 0) (r_isInB (y := (0 : Int32)) (a := 0) (b := 1) rfl rfl) oX12_isIn q_1242 q_1243 rfl (by omega) (by decide) rfl (Nat.le_of_ble_eq_true rfl) 14 rfl dX12_meets_11 rfl ?_
  refine a_if_eq 31 17 rfl dX12_meets_14 (by decide) (fun hc => absurd hc (f_i_T (by decide))) (fun _ => ?_)
  refine a_iload_n 3 18 rfl dX12_meets_17 rfl rfl ?_
  refine a_i2l 19 rfl dX12_meets_18 ?_
  refine a_lconst (x := 0) 20 rfl dX12_meets_19 (by decide) ?_
  refine a_aload_n 0 21 rfl dX12_meets_20 rfl rfl ?_
  refine a_callV (as := []) (rest := [.long 0, .long ((nI m).toInt64)]) (st2 := [.int (nI (2 ^ M.1 0)), .long 0, .long ((nI m).toInt64)]) (u1 := 0) (v1 := 0) (u2 := 0) (v2 := 0) (r_allM hn) (⟨_, _, _, _, rfl, rfl⟩) oX12_all q_1253 q_1255 q_85 rfl (by omega) (by decide) rfl (Nat.le_of_ble_eq_true rfl) 24 rfl dX12_meets_21 rfl ?_
  refine a_i2l 25 rfl dX12_meets_24 ?_
  refine a_callS (as := [.long ((nI m).toInt64), .long 0, .long ((nI (2 ^ M.1 0)).toInt64)]) (rest := []) (st2 := [.int (f_i (decide ((0 : Int32) ≤ (nI m) ∧ (nI m) ≤ (nI (2 ^ M.1 0)))))]) (u1 := 0) (v1 := 0) (u2 := 0) (v2 := 0) (r_isInB (y := (nI m)) (a := 0) (b := (nI (2 ^ M.1 0))) rfl rfl) oX12_isIn q_1242 q_1243 rfl (by omega) (by decide) rfl (Nat.le_of_ble_eq_true rfl) 28 rfl dX12_meets_25 rfl ?_
  refine a_if_ne 33 31 rfl dX12_meets_28 (by decide) (fun _ => ?_) (fun hc => absurd hc (f_i_T (decide_eq_true hy)))
  refine a_aload_n 0 34 rfl dX12_meets_33 rfl rfl ?_
  refine a_get 0 cl_11 f_RX12_9_11 (by decide) (rfl) rfl 37 rfl dX12_meets_34 ?_
  refine a_iconst (x := 4) 38 rfl dX12_meets_37 (by decide) ?_
  refine a_icmp_le 44 41 rfl dX12_meets_38 (by decide) (fun _ => ?_) (fun hc => absurd (nI_le (a := (M.1 0)) (b := 4) (by omega) (by omega)) hc)
  refine a_aload_n 0 45 rfl dX12_meets_44 rfl rfl ?_
  refine a_iload_n 1 46 rfl dX12_meets_45 rfl rfl ?_
  refine a_iload_n 3 47 rfl dX12_meets_46 rfl rfl ?_
  refine a_callV (as := [.int (nI o), .int (nI m)]) (rest := []) (st2 := [.long (f_fiM o (M.1 0) m)]) (u1 := 0) (v1 := 0) (u2 := 0) (v2 := 0) (r_fiM hn hn0 ho (by omega)) (⟨_, _, _, _, rfl, rfl⟩) oX12_firsts q_1392 q_1394 q_101 rfl (by omega) (by decide) rfl (Nat.le_of_ble_eq_true rfl) 50 rfl dX12_meets_47 rfl ?_
  refine a_lstore (lv' := [(4, .long (f_fiM o (M.1 0) m)), (0, .ref (g_ad G 38)), (1, .int (nI o)), (2, .int 0), (3, .int (nI m))]) 52 rfl dX12_meets_50 (by decide) rfl ?_
  refine a_iload_n 3 53 rfl dX12_meets_52 rfl rfl ?_
  refine a_if_ne 68 56 rfl dX12_meets_53 (by decide) (fun hc => absurd (rfl) hc) (fun _ => ?_)
  refine a_aload_n 1 57 rfl dX12_meets_56 rfl rfl ?_
  refine a_lload 0 59 rfl dX12_meets_57 rfl ?_
  refine a_callV (as := [.long (f_fiM o (M.1 0) m)]) (rest := []) (st2 := [.long (f_boM (M.1 0) (f_fiM o (M.1 0) m))]) (u1 := 0) (v1 := 0) (u2 := 0) (v2 := 0) (r_boM hn hn0) (⟨_, _, _, _, rfl, rfl⟩) oX12_borderOf q_1322 q_1324 q_94 rfl (by omega) (by decide) rfl (Nat.le_of_ble_eq_true rfl) 62 rfl dX12_meets_59 rfl ?_
  refine a_callS (as := [.long (f_boM (M.1 0) (f_fiM o (M.1 0) m))]) (rest := []) (st2 := [.int (nI (f_pop (f_boM (M.1 0) (f_fiM o (M.1 0) m))))]) (u1 := 0) (v1 := 0) (u2 := 0) (v2 := 0) (r_many) oX12_many q_1311 q_1312 rfl (by omega) (by decide) rfl (Nat.le_of_ble_eq_true rfl) 65 rfl dX12_meets_62 rfl ?_
  refine a_goto 74 dX12_meets_65 (by decide) ?_
  refine a_istore (lv' := [(6, .int (nI (f_pop (f_boM (M.1 0) (f_fiM o (M.1 0) m))))), (4, .long (f_fiM o (M.1 0) m)), (0, .ref (g_ad G 38)), (1, .int (nI o)), (2, .int 0), (3, .int (nI m))]) 76 rfl dX12_meets_74 (by decide) rfl ?_
  refine a_iload 0 78 rfl dX12_meets_76 rfl ?_
  refine a_aload_n 2 79 rfl dX12_meets_78 rfl rfl ?_
  refine a_iload_n 4 80 rfl dX12_meets_79 rfl rfl ?_
  refine a_iload_n 5 81 rfl dX12_meets_80 rfl rfl ?_
  refine a_iconst (x := 0) 82 rfl dX12_meets_81 (by decide) ?_
  refine a_callV (as := [.int 0, .int (nI m), .int 0]) (rest := [.int (nI (f_pop (f_boM (M.1 0) (f_fiM o (M.1 0) m))))]) (st2 := [.int r9, .int (nI (f_pop (f_boM (M.1 0) (f_fiM o (M.1 0) m))))]) (u1 := 0) (v1 := 0) (u2 := 0) (v2 := 0) (w) (⟨_, _, _, _, rfl, rfl⟩) oX12_leastOf q_1400 q_1402 q_102 rfl (by omega) (by decide) rfl (Nat.le_of_ble_eq_true rfl) 85 rfl dX12_meets_82 rfl ?_
  refine g_sfx (pc := 93) (lv := [(6, .int (nI (f_pop (f_boM (M.1 0) (f_fiM o (M.1 0) m))))), (4, .long (f_fiM o (M.1 0) m)), (0, .ref (g_ad G 38)), (1, .int (nI o)), (2, .int 0), (3, .int (nI m))]) (st := [.int (f_i (decide ((nI (f_pop (f_boM (M.1 0) (f_fiM o (M.1 0) m)))) = r9)))]) (h := (g_hp G C (g_hm G (f_leR M 0 0 (2 ^ M.1 0) m) ++ ob))) (fun key => ?_) ?_
  · skip
    rcases Bool.eq_false_or_eq_true (decide ((nI (f_pop (f_boM (M.1 0) (f_fiM o (M.1 0) m)))) = r9)) with c85_1 | c85_1
    · skip
      refine a_icmp_ne 92 88 rfl dX12_meets_85 (by decide) (fun hc => absurd (of_decide_eq_true c85_1) hc) (fun _ => ?_)
      refine a_iconst (x := 1) 89 rfl dX12_meets_88 (by decide) ?_
      refine a_goto 93 dX12_meets_89 (by decide) ?_
      exact a_eq rfl (rfl) (by rw [c85_1]; rfl) rfl key
    · skip
      refine a_icmp_ne 92 88 rfl dX12_meets_85 (by decide) (fun _ => ?_) (fun hc => absurd hc (of_decide_eq_false c85_1))
      refine a_iconst (x := 0) 93 rfl dX12_meets_92 (by decide) ?_
      exact a_eq rfl (rfl) (by rw [c85_1]; rfl) rfl key
  exact a_ireturn .int rfl rfl (rfl) (rfl) dX12_meets_93

theorem r_meetsM1 (h4 : M.1 0 ≤ 4) (hn0 : 0 < M.1 0) (ho : o < 4) (hm : m ≤ 2 ^ M.1 0) : g_Run G mX12_meets 6 0 0 [.ref (g_ad G 38), .int (nI o), .int 1, .int (nI m)] (g_hp G C (g_hm G M ++ ob)) (some (.int (f_i (decide (nI (f_edM (M.1 0) (f_fiM o (M.1 0) m) (2 ^ M.1 0)) = (f_lf 1 (M.1 0) 0 (2 ^ M.1 0) m (M.2.2.2.1 5) (M.2.2.2.2 2) (M.2.2.1 0)).1))))) (g_hp G C (g_hm G (f_leR M 1 0 (2 ^ M.1 0) m) ++ ob)) := by
  have hp : 2 ^ M.1 0 ≤ 16 := show 2 ^ M.1 0 ≤ 2 ^ 4 from Nat.pow_le_pow_right (by decide) h4
  have hn : M.1 0 ≤ 6 := by omega
  have hy : (0 : Int32) ≤ nI m ∧ nI m ≤ nI (2 ^ M.1 0) := ⟨nI_pos' (by omega), nI_le (by omega) (by omega)⟩
  have w := r_leM1 (G := G) (C := C) (M := M) (ob := ob) (m := m) (y3 := 0) h4 hn0 hm
  obtain ⟨r9, er⟩ : ∃ r9, r9 = (f_lf 1 (M.1 0) 0 (2 ^ M.1 0) m (M.2.2.2.1 5) (M.2.2.2.2 2) (M.2.2.1 0)).1 := ⟨_, rfl⟩
  rw [← er] at w ⊢
  refine g_Run.of (lv := [(0, .ref (g_ad G 38)), (1, .int (nI o)), (2, .int 1), (3, .int (nI m))]) (by decide) (Nat.le_of_ble_eq_true rfl) rfl ?_
  refine a_iload_n 1 1 rfl dX12_meets_0 rfl rfl ?_
  refine a_callS (as := [.int (nI o)]) (rest := []) (st2 := [.int (f_i (decide ((0:Int32) ≤ nI o ∧ nI o ≤ 3)))]) (u1 := 0) (v1 := 0) (u2 := 0) (v2 := 0) (r_ioM) oX12_isOrder q_1375 q_1376 rfl (by omega) (by decide) rfl (Nat.le_of_ble_eq_true rfl) 4 rfl dX12_meets_1 rfl ?_
  refine a_if_eq 31 7 rfl dX12_meets_4 (by decide) (fun hc => absurd hc (f_i_T (f_ord ho))) (fun _ => ?_)
  refine a_iload_n 2 8 rfl dX12_meets_7 rfl rfl ?_
  refine a_i2l 9 rfl dX12_meets_8 ?_
  refine a_lconst (x := 0) 10 rfl dX12_meets_9 (by decide) ?_
  refine a_lconst (x := 1) 11 rfl dX12_meets_10 (by decide) ?_
  refine a_callS (as := [.long ((1 : Int32).toInt64), .long 0, .long 1]) (rest := []) (st2 := [.int (f_i (decide ((0 : Int32) ≤ (1 : Int32) ∧ (1 : Int32) ≤ 1)))]) (u1 := 0) (v1 := 0) (u2 := 0) (v2 := 0) (r_isInB (y := (1 : Int32)) (a := 0) (b := 1) rfl rfl) oX12_isIn q_1242 q_1243 rfl (by omega) (by decide) rfl (Nat.le_of_ble_eq_true rfl) 14 rfl dX12_meets_11 rfl ?_
  refine a_if_eq 31 17 rfl dX12_meets_14 (by decide) (fun hc => absurd hc (f_i_T (by decide))) (fun _ => ?_)
  refine a_iload_n 3 18 rfl dX12_meets_17 rfl rfl ?_
  refine a_i2l 19 rfl dX12_meets_18 ?_
  refine a_lconst (x := 0) 20 rfl dX12_meets_19 (by decide) ?_
  refine a_aload_n 0 21 rfl dX12_meets_20 rfl rfl ?_
  refine a_callV (as := []) (rest := [.long 0, .long ((nI m).toInt64)]) (st2 := [.int (nI (2 ^ M.1 0)), .long 0, .long ((nI m).toInt64)]) (u1 := 0) (v1 := 0) (u2 := 0) (v2 := 0) (r_allM hn) (⟨_, _, _, _, rfl, rfl⟩) oX12_all q_1253 q_1255 q_85 rfl (by omega) (by decide) rfl (Nat.le_of_ble_eq_true rfl) 24 rfl dX12_meets_21 rfl ?_
  refine a_i2l 25 rfl dX12_meets_24 ?_
  refine a_callS (as := [.long ((nI m).toInt64), .long 0, .long ((nI (2 ^ M.1 0)).toInt64)]) (rest := []) (st2 := [.int (f_i (decide ((0 : Int32) ≤ (nI m) ∧ (nI m) ≤ (nI (2 ^ M.1 0)))))]) (u1 := 0) (v1 := 0) (u2 := 0) (v2 := 0) (r_isInB (y := (nI m)) (a := 0) (b := (nI (2 ^ M.1 0))) rfl rfl) oX12_isIn q_1242 q_1243 rfl (by omega) (by decide) rfl (Nat.le_of_ble_eq_true rfl) 28 rfl dX12_meets_25 rfl ?_
  refine a_if_ne 33 31 rfl dX12_meets_28 (by decide) (fun _ => ?_) (fun hc => absurd hc (f_i_T (decide_eq_true hy)))
  refine a_aload_n 0 34 rfl dX12_meets_33 rfl rfl ?_
  refine a_get 0 cl_11 f_RX12_9_11 (by decide) (rfl) rfl 37 rfl dX12_meets_34 ?_
  refine a_iconst (x := 4) 38 rfl dX12_meets_37 (by decide) ?_
  refine a_icmp_le 44 41 rfl dX12_meets_38 (by decide) (fun _ => ?_) (fun hc => absurd (nI_le (a := (M.1 0)) (b := 4) (by omega) (by omega)) hc)
  refine a_aload_n 0 45 rfl dX12_meets_44 rfl rfl ?_
  refine a_iload_n 1 46 rfl dX12_meets_45 rfl rfl ?_
  refine a_iload_n 3 47 rfl dX12_meets_46 rfl rfl ?_
  refine a_callV (as := [.int (nI o), .int (nI m)]) (rest := []) (st2 := [.long (f_fiM o (M.1 0) m)]) (u1 := 0) (v1 := 0) (u2 := 0) (v2 := 0) (r_fiM hn hn0 ho (by omega)) (⟨_, _, _, _, rfl, rfl⟩) oX12_firsts q_1392 q_1394 q_101 rfl (by omega) (by decide) rfl (Nat.le_of_ble_eq_true rfl) 50 rfl dX12_meets_47 rfl ?_
  refine a_lstore (lv' := [(4, .long (f_fiM o (M.1 0) m)), (0, .ref (g_ad G 38)), (1, .int (nI o)), (2, .int 1), (3, .int (nI m))]) 52 rfl dX12_meets_50 (by decide) rfl ?_
  refine a_iload_n 3 53 rfl dX12_meets_52 rfl rfl ?_
  refine a_if_ne 68 56 rfl dX12_meets_53 (by decide) (fun _ => ?_) (fun hc => absurd hc ((by decide)))
  refine a_aload_n 1 69 rfl dX12_meets_68 rfl rfl ?_
  refine a_lload 0 71 rfl dX12_meets_69 rfl ?_
  refine a_callV (as := [.long (f_fiM o (M.1 0) m)]) (rest := []) (st2 := [.int (nI (f_edM (M.1 0) (f_fiM o (M.1 0) m) (2 ^ M.1 0)))]) (u1 := 0) (v1 := 0) (u2 := 0) (v2 := 0) (r_edgesM hn hn0) (⟨_, _, _, _, rfl, rfl⟩) oX12_edges q_1330 q_1332 q_95 rfl (by omega) (by decide) rfl (Nat.le_of_ble_eq_true rfl) 74 rfl dX12_meets_71 rfl ?_
  refine a_istore (lv' := [(6, .int (nI (f_edM (M.1 0) (f_fiM o (M.1 0) m) (2 ^ M.1 0)))), (4, .long (f_fiM o (M.1 0) m)), (0, .ref (g_ad G 38)), (1, .int (nI o)), (2, .int 1), (3, .int (nI m))]) 76 rfl dX12_meets_74 (by decide) rfl ?_
  refine a_iload 0 78 rfl dX12_meets_76 rfl ?_
  refine a_aload_n 2 79 rfl dX12_meets_78 rfl rfl ?_
  refine a_iload_n 4 80 rfl dX12_meets_79 rfl rfl ?_
  refine a_iload_n 5 81 rfl dX12_meets_80 rfl rfl ?_
  refine a_iconst (x := 0) 82 rfl dX12_meets_81 (by decide) ?_
  refine a_callV (as := [.int 1, .int (nI m), .int 0]) (rest := [.int (nI (f_edM (M.1 0) (f_fiM o (M.1 0) m) (2 ^ M.1 0)))]) (st2 := [.int r9, .int (nI (f_edM (M.1 0) (f_fiM o (M.1 0) m) (2 ^ M.1 0)))]) (u1 := 0) (v1 := 0) (u2 := 0) (v2 := 0) (w) (⟨_, _, _, _, rfl, rfl⟩) oX12_leastOf q_1400 q_1402 q_102 rfl (by omega) (by decide) rfl (Nat.le_of_ble_eq_true rfl) 85 rfl dX12_meets_82 rfl ?_
  refine g_sfx (pc := 93) (lv := [(6, .int (nI (f_edM (M.1 0) (f_fiM o (M.1 0) m) (2 ^ M.1 0)))), (4, .long (f_fiM o (M.1 0) m)), (0, .ref (g_ad G 38)), (1, .int (nI o)), (2, .int 1), (3, .int (nI m))]) (st := [.int (f_i (decide ((nI (f_edM (M.1 0) (f_fiM o (M.1 0) m) (2 ^ M.1 0))) = r9)))]) (h := (g_hp G C (g_hm G (f_leR M 1 0 (2 ^ M.1 0) m) ++ ob))) (fun key => ?_) ?_
  · skip
    rcases Bool.eq_false_or_eq_true (decide ((nI (f_edM (M.1 0) (f_fiM o (M.1 0) m) (2 ^ M.1 0))) = r9)) with c85_1 | c85_1
    · skip
      refine a_icmp_ne 92 88 rfl dX12_meets_85 (by decide) (fun hc => absurd (of_decide_eq_true c85_1) hc) (fun _ => ?_)
      refine a_iconst (x := 1) 89 rfl dX12_meets_88 (by decide) ?_
      refine a_goto 93 dX12_meets_89 (by decide) ?_
      exact a_eq rfl (rfl) (by rw [c85_1]; rfl) rfl key
    · skip
      refine a_icmp_ne 92 88 rfl dX12_meets_85 (by decide) (fun _ => ?_) (fun hc => absurd hc (of_decide_eq_false c85_1))
      refine a_iconst (x := 0) 93 rfl dX12_meets_92 (by decide) ?_
      exact a_eq rfl (rfl) (by rw [c85_1]; rfl) rfl key
  exact a_ireturn .int rfl rfl (rfl) (rfl) dX12_meets_93

theorem r_greatM {l i : Nat} (h0 : 0 < l) (hl : l ≤ 2000000000) (hi0 : 0 < i) (hi : i ≤ 12) : g_Run G mX12_greatest 1 0 0 [.long (lN l), .int (nI i)] h (some (.int (nI (f_great l i)))) h := by
  have hg := f_great_ok h0 hl hi0
  have hle := f_great_le l i
  obtain ⟨g, eg⟩ : ∃ g, g = f_great l i := ⟨_, rfl⟩
  rw [← eg] at hg hle ⊢
  refine g_Run.of (lv := [(0, .long (lN l)), (2, .int (nI i))]) (by decide) (Nat.le_of_ble_eq_true rfl) rfl ?_
  refine a_iload_n 1 1 rfl dX12_greatest_0 rfl rfl ?_
  refine a_iconst (x := 1) 2 rfl dX12_greatest_1 (by decide) ?_
  rcases Nat.lt_or_ge 1 i with e1 | e1
  · have key : ∀ j a : Nat, a + j = g → i ≤ a → g_A G mX12_greatest 1 0 0 16 [(6, .int 1), (4, .long (lN (f_bin a i))), (3, .int (nI a)), (0, .long (lN l)), (2, .int (nI i))] [] h (some (.int (nI g))) h := by
      intro j
      induction j with
      | zero =>
        intro a ha hia
        have ea : a = g := by omega
        subst ea
        have e2 := f_bin_next (a := a) (i := i) hi0 hia
        have e3 : f_bin a i * (a + 1) ≤ 2000000000 * 2000000100 := Nat.mul_le_mul (by omega) (by omega)
        have e4 : f_bin (a + 1) i ≤ f_bin a i * (a + 1) := by rw [← e2]; exact Nat.div_le_self _ _
        have hnz : ¬ (nI (a + 1 - i)).toInt64 = 0 := by
          rw [nI_l (by omega)]
          intro z
          have := (pk_lEQ (a := a + 1 - i) (b := 0) (by omega) (by omega)).mp z
          omega
        refine a_iload 0 18 rfl dX12_greatest_16 rfl ?_
        refine a_if_eq 81 21 rfl dX12_greatest_18 (by decide) (fun hc => absurd hc ((by decide))) (fun _ => ?_)
        refine a_lload 1 23 rfl dX12_greatest_21 rfl ?_
        refine a_iload_n 2 24 rfl dX12_greatest_23 rfl rfl ?_
        refine a_iconst (x := 1) 25 rfl dX12_greatest_24 (by decide) ?_
        refine a_iadd 26 rfl dX12_greatest_25 ?_
        refine a_eq (st2 := [.int (nI (a + 1)), .long (lN (f_bin a i))]) rfl rfl (congrArg (fun z9 => Value.int z9 :: [.long (lN (f_bin a i))]) (nI_add a 1)) rfl ?_
        refine a_i2l 27 rfl dX12_greatest_26 ?_
        refine a_lmul 28 rfl dX12_greatest_27 ?_
        refine a_iload_n 2 29 rfl dX12_greatest_28 rfl rfl ?_
        refine a_iconst (x := 1) 30 rfl dX12_greatest_29 (by decide) ?_
        refine a_iadd 31 rfl dX12_greatest_30 ?_
        refine a_eq (st2 := [.int (nI (a + 1)), .long ((lN (f_bin a i)) * ((nI (a + 1)).toInt64))]) rfl rfl (congrArg (fun z9 => Value.int z9 :: [.long ((lN (f_bin a i)) * ((nI (a + 1)).toInt64))]) (nI_add a 1)) rfl ?_
        refine a_iload_n 4 32 rfl dX12_greatest_31 rfl rfl ?_
        refine a_isub 33 rfl dX12_greatest_32 ?_
        refine a_eq (st2 := [.int (nI ((a + 1) - i)), .long ((lN (f_bin a i)) * ((nI (a + 1)).toInt64))]) rfl rfl (congrArg (fun z9 => Value.int z9 :: [.long ((lN (f_bin a i)) * ((nI (a + 1)).toInt64))]) (pk_sub (a := (a + 1)) (b := i) (by omega))) rfl ?_
        refine a_i2l 34 rfl dX12_greatest_33 ?_
        refine a_ldiv 35 rfl dX12_greatest_34 (hnz) ?_
        refine a_eq (st2 := [.long (lN (f_bin (a + 1) i))]) rfl rfl (congrArg (fun z9 => Value.long z9 :: []) (by rw [nI_l (by omega), nI_l (by omega), lN_mul, pk_lDiv (by omega) (by omega) (by omega), e2])) rfl ?_
        refine a_lstore (lv' := [(7, .long (lN (f_bin (a + 1) i))), (6, .int 1), (4, .long (lN (f_bin a i))), (3, .int (nI a)), (0, .long (lN l)), (2, .int (nI i))]) 37 rfl dX12_greatest_35 (by decide) rfl ?_
        refine a_lload 0 39 rfl dX12_greatest_37 rfl ?_
        refine a_lload_n 4 40 rfl dX12_greatest_39 rfl rfl ?_
        refine a_lcmp 41 rfl dX12_greatest_40 ?_
        refine a_if_gt 48 44 rfl dX12_greatest_41 (by decide) (fun _ => ?_) (fun hc => absurd (f_cmpT_gt (by omega) (by omega) hg.2) hc)
        refine a_iconst (x := 0) 49 rfl dX12_greatest_48 (by decide) ?_
        refine a_istore (lv' := [(6, .int 0), (7, .long (lN (f_bin (a + 1) i))), (4, .long (lN (f_bin a i))), (3, .int (nI a)), (0, .long (lN l)), (2, .int (nI i))]) 51 rfl dX12_greatest_49 (by decide) rfl ?_
        refine a_iload 0 53 rfl dX12_greatest_51 rfl ?_
        refine a_if_eq 61 56 rfl dX12_greatest_53 (by decide) (fun _ => ?_) (fun hc => absurd (rfl) hc)
        refine a_lload 2 63 rfl dX12_greatest_61 rfl ?_
        refine a_lstore (lv' := [(4, .long (lN (f_bin a i))), (6, .int 0), (7, .long (lN (f_bin (a + 1) i))), (3, .int (nI a)), (0, .long (lN l)), (2, .int (nI i))]) 65 rfl dX12_greatest_63 (by decide) rfl ?_
        refine a_iload_n 3 66 rfl dX12_greatest_65 rfl rfl ?_
        refine a_iload 1 68 rfl dX12_greatest_66 rfl ?_
        refine a_if_eq 75 71 rfl dX12_greatest_68 (by decide) (fun _ => ?_) (fun hc => absurd (rfl) hc)
        refine a_iconst (x := 0) 76 rfl dX12_greatest_75 (by decide) ?_
        refine a_iadd 77 rfl dX12_greatest_76 ?_
        refine a_eq (st2 := [.int (nI (a + 0))]) rfl rfl (congrArg (fun z9 => Value.int z9 :: []) (nI_add a 0)) rfl ?_
        refine a_istore_n (lv' := [(3, .int (nI (a + 0))), (4, .long (lN (f_bin a i))), (6, .int 0), (7, .long (lN (f_bin (a + 1) i))), (0, .long (lN l)), (2, .int (nI i))]) 78 rfl dX12_greatest_77 rfl (by decide) rfl ?_
        refine a_goto 16 dX12_greatest_78 (by decide) ?_
        refine a_iload 2 18 rfl dX12_greatest_16 rfl ?_
        refine a_if_eq 81 21 rfl dX12_greatest_18 (by decide) (fun _ => ?_) (fun hc => absurd (rfl) hc)
        refine a_iload_n 0 82 rfl dX12_greatest_81 rfl rfl ?_
        exact a_ireturn .int rfl rfl (rfl) (rfl) dX12_greatest_82
      | succ j ih =>
        intro a ha hia
        have e2 := f_bin_next (a := a) (i := i) hi0 hia
        have e5 := f_bin_mono i (a + 1) j
        rw [show a + 1 + j = g by omega] at e5
        have e6 := f_bin_up a i
        have e3 : f_bin a i * (a + 1) ≤ 2000000000 * 2000000100 := Nat.mul_le_mul (by omega) (by omega)
        have hnz : ¬ (nI (a + 1 - i)).toInt64 = 0 := by
          rw [nI_l (by omega)]
          intro z
          have := (pk_lEQ (a := a + 1 - i) (b := 0) (by omega) (by omega)).mp z
          omega
        refine a_iload 0 18 rfl dX12_greatest_16 rfl ?_
        refine a_if_eq 81 21 rfl dX12_greatest_18 (by decide) (fun hc => absurd hc ((by decide))) (fun _ => ?_)
        refine a_lload 1 23 rfl dX12_greatest_21 rfl ?_
        refine a_iload_n 2 24 rfl dX12_greatest_23 rfl rfl ?_
        refine a_iconst (x := 1) 25 rfl dX12_greatest_24 (by decide) ?_
        refine a_iadd 26 rfl dX12_greatest_25 ?_
        refine a_eq (st2 := [.int (nI (a + 1)), .long (lN (f_bin a i))]) rfl rfl (congrArg (fun z9 => Value.int z9 :: [.long (lN (f_bin a i))]) (nI_add a 1)) rfl ?_
        refine a_i2l 27 rfl dX12_greatest_26 ?_
        refine a_lmul 28 rfl dX12_greatest_27 ?_
        refine a_iload_n 2 29 rfl dX12_greatest_28 rfl rfl ?_
        refine a_iconst (x := 1) 30 rfl dX12_greatest_29 (by decide) ?_
        refine a_iadd 31 rfl dX12_greatest_30 ?_
        refine a_eq (st2 := [.int (nI (a + 1)), .long ((lN (f_bin a i)) * ((nI (a + 1)).toInt64))]) rfl rfl (congrArg (fun z9 => Value.int z9 :: [.long ((lN (f_bin a i)) * ((nI (a + 1)).toInt64))]) (nI_add a 1)) rfl ?_
        refine a_iload_n 4 32 rfl dX12_greatest_31 rfl rfl ?_
        refine a_isub 33 rfl dX12_greatest_32 ?_
        refine a_eq (st2 := [.int (nI ((a + 1) - i)), .long ((lN (f_bin a i)) * ((nI (a + 1)).toInt64))]) rfl rfl (congrArg (fun z9 => Value.int z9 :: [.long ((lN (f_bin a i)) * ((nI (a + 1)).toInt64))]) (pk_sub (a := (a + 1)) (b := i) (by omega))) rfl ?_
        refine a_i2l 34 rfl dX12_greatest_33 ?_
        refine a_ldiv 35 rfl dX12_greatest_34 (hnz) ?_
        refine a_eq (st2 := [.long (lN (f_bin (a + 1) i))]) rfl rfl (congrArg (fun z9 => Value.long z9 :: []) (by rw [nI_l (by omega), nI_l (by omega), lN_mul, pk_lDiv (by omega) (by omega) (by omega), e2])) rfl ?_
        refine a_lstore (lv' := [(7, .long (lN (f_bin (a + 1) i))), (6, .int 1), (4, .long (lN (f_bin a i))), (3, .int (nI a)), (0, .long (lN l)), (2, .int (nI i))]) 37 rfl dX12_greatest_35 (by decide) rfl ?_
        refine a_lload 0 39 rfl dX12_greatest_37 rfl ?_
        refine a_lload_n 4 40 rfl dX12_greatest_39 rfl rfl ?_
        refine a_lcmp 41 rfl dX12_greatest_40 ?_
        refine a_if_gt 48 44 rfl dX12_greatest_41 (by decide) (fun hc => absurd hc (f_cmpF_gt (by omega) (by omega) (by omega))) (fun _ => ?_)
        refine a_iconst (x := 1) 45 rfl dX12_greatest_44 (by decide) ?_
        refine a_goto 49 dX12_greatest_45 (by decide) ?_
        refine a_istore (lv' := [(6, .int 1), (7, .long (lN (f_bin (a + 1) i))), (4, .long (lN (f_bin a i))), (3, .int (nI a)), (0, .long (lN l)), (2, .int (nI i))]) 51 rfl dX12_greatest_49 (by decide) rfl ?_
        refine a_iload 0 53 rfl dX12_greatest_51 rfl ?_
        refine a_if_eq 61 56 rfl dX12_greatest_53 (by decide) (fun hc => absurd hc ((by decide))) (fun _ => ?_)
        refine a_lload 1 58 rfl dX12_greatest_56 rfl ?_
        refine a_goto 63 dX12_greatest_58 (by decide) ?_
        refine a_lstore (lv' := [(4, .long (lN (f_bin (a + 1) i))), (6, .int 1), (7, .long (lN (f_bin (a + 1) i))), (3, .int (nI a)), (0, .long (lN l)), (2, .int (nI i))]) 65 rfl dX12_greatest_63 (by decide) rfl ?_
        refine a_iload_n 3 66 rfl dX12_greatest_65 rfl rfl ?_
        refine a_iload 1 68 rfl dX12_greatest_66 rfl ?_
        refine a_if_eq 75 71 rfl dX12_greatest_68 (by decide) (fun hc => absurd hc ((by decide))) (fun _ => ?_)
        refine a_iconst (x := 1) 72 rfl dX12_greatest_71 (by decide) ?_
        refine a_goto 76 dX12_greatest_72 (by decide) ?_
        refine a_iadd 77 rfl dX12_greatest_76 ?_
        refine a_eq (st2 := [.int (nI (a + 1))]) rfl rfl (congrArg (fun z9 => Value.int z9 :: []) (nI_add a 1)) rfl ?_
        refine a_istore_n (lv' := [(3, .int (nI (a + 1))), (4, .long (lN (f_bin (a + 1) i))), (6, .int 1), (7, .long (lN (f_bin (a + 1) i))), (0, .long (lN l)), (2, .int (nI i))]) 78 rfl dX12_greatest_77 rfl (by decide) rfl ?_
        refine a_goto 16 dX12_greatest_78 (by decide) ?_
        refine a_sub (lv' := [(6, .int 1), (4, .long (lN (f_bin (a + 1) i))), (3, .int (nI (a + 1))), (0, .long (lN l)), (2, .int (nI i))]) [2, 1, 0, 4, 5] rfl ?_
        exact ih (a + 1) (by omega) (by omega)
    refine a_icmp_ne 8 5 rfl dX12_greatest_2 (by decide) (fun _ => ?_) (fun hc => absurd hc ((fun z9 => absurd (nI_inj9 (a := i) (b := 1) (by omega) (by omega) z9) (by omega))))
    refine a_iload_n 1 9 rfl dX12_greatest_8 rfl rfl ?_
    refine a_istore_n (lv' := [(3, .int (nI i)), (0, .long (lN l)), (2, .int (nI i))]) 10 rfl dX12_greatest_9 rfl (by decide) rfl ?_
    refine a_lconst (x := 1) 11 rfl dX12_greatest_10 (by decide) ?_
    refine a_lstore (lv' := [(4, .long 1), (3, .int (nI i)), (0, .long (lN l)), (2, .int (nI i))]) 13 rfl dX12_greatest_11 (by decide) rfl ?_
    refine a_iconst (x := 1) 14 rfl dX12_greatest_13 (by decide) ?_
    refine a_istore (lv' := [(6, .int 1), (4, .long 1), (3, .int (nI i)), (0, .long (lN l)), (2, .int (nI i))]) 16 rfl dX12_greatest_14 (by decide) rfl ?_
    refine a_sub (lv' := [(6, .int 1), (4, .long 1), (3, .int (nI i)), (0, .long (lN l)), (2, .int (nI i))]) [0, 1, 2, 3, 4] rfl ?_
    have w := key (g - i) i (by omega) (Nat.le_refl _)
    rw [f_bin_self] at w
    exact w
  · have ei : i = 1 := by omega
    subst ei
    rw [f_bin_1, f_bin_1] at hg
    refine a_icmp_ne 8 5 rfl dX12_greatest_2 (by decide) (fun hc => absurd (rfl) hc) (fun _ => ?_)
    refine a_lload_n 0 6 rfl dX12_greatest_5 rfl rfl ?_
    refine a_l2i 7 rfl dX12_greatest_6 ?_
    exact a_ireturn .int rfl rfl ((by rw [lN_i, show g = l by omega])) (rfl) dX12_greatest_7
theorem r_casM_bad (hy : ¬ (((0 : Int32) ≤ y ∧ y ≤ 2000000000) ∧ ((1 : Int32) ≤ y2 ∧ y2 ≤ 12))) : g_Run G mX12_cascades 3 0 0 [.ref (g_ad G 38), .int y, .int y2] (g_hp G C (g_hm G M ++ ob)) (some (.int 0)) (g_hp G C (g_hm G M ++ ob)) := by
  refine g_Run.of (lv := [(0, .ref (g_ad G 38)), (1, .int y), (2, .int y2)]) (by decide) (Nat.le_of_ble_eq_true rfl) rfl ?_
  refine a_iload_n 1 1 rfl dX12_cascades_0 rfl rfl ?_
  refine a_i2l 2 rfl dX12_cascades_1 ?_
  refine a_lconst (x := 0) 3 rfl dX12_cascades_2 (by decide) ?_
  refine a_ldc2 q_1429 6 rfl dX12_cascades_3 ?_
  refine a_callS (as := [.long y.toInt64, .long 0, .long 2000000000]) (rest := []) (st2 := [.int (f_i (decide ((0 : Int32) ≤ y ∧ y ≤ 2000000000)))]) (u1 := 0) (v1 := 0) (u2 := 0) (v2 := 0) (r_isInB (y := y) (a := 0) (b := 2000000000) rfl rfl) oX12_isIn q_1242 q_1243 rfl (by omega) (by decide) rfl (Nat.le_of_ble_eq_true rfl) 9 rfl dX12_cascades_6 rfl ?_
  rcases Bool.eq_false_or_eq_true (decide ((0 : Int32) ≤ y ∧ y ≤ 2000000000)) with e1 | e1
  · skip
    refine a_if_eq 24 12 rfl dX12_cascades_9 (by decide) (fun hc => absurd hc (f_i_T e1)) (fun _ => ?_)
    refine a_iload_n 2 13 rfl dX12_cascades_12 rfl rfl ?_
    refine a_i2l 14 rfl dX12_cascades_13 ?_
    refine a_lconst (x := 1) 15 rfl dX12_cascades_14 (by decide) ?_
    refine a_ldc2 q_1430 18 rfl dX12_cascades_15 ?_
    refine a_callS (as := [.long y2.toInt64, .long 1, .long 12]) (rest := []) (st2 := [.int (f_i (decide ((1 : Int32) ≤ y2 ∧ y2 ≤ 12)))]) (u1 := 0) (v1 := 0) (u2 := 0) (v2 := 0) (r_isInB (y := y2) (a := 1) (b := 12) rfl rfl) oX12_isIn q_1242 q_1243 rfl (by omega) (by decide) rfl (Nat.le_of_ble_eq_true rfl) 21 rfl dX12_cascades_18 rfl ?_
    refine a_if_ne 26 24 rfl dX12_cascades_21 (by decide) (fun hc => absurd (f_i_F (decide_eq_false (fun z9 => hy ⟨of_decide_eq_true e1, z9⟩))) hc) (fun _ => ?_)
    refine a_iconst (x := 0) 25 rfl dX12_cascades_24 (by decide) ?_
    exact a_ireturn .boolean rfl rfl (rfl) (rfl) dX12_cascades_25
  · skip
    refine a_if_eq 24 12 rfl dX12_cascades_9 (by decide) (fun _ => ?_) (fun hc => absurd (f_i_F e1) hc)
    refine a_iconst (x := 0) 25 rfl dX12_cascades_24 (by decide) ?_
    exact a_ireturn .boolean rfl rfl (rfl) (rfl) dX12_cascades_25
theorem r_casM (hm : m ≤ 2000000000) (hk0 : 1 ≤ k) (hk : k ≤ 12) : g_Run G mX12_cascades 3 0 0 [.ref (g_ad G 38), .int (nI m), .int (nI k)] (g_hp G C (g_hm G M ++ ob)) (some (.int 1)) (g_hp G C (g_hm G (f_caM M m k) ++ ob)) := by
  have key : ∀ (i l c b : Nat) (R : Nat → Int32), c + i ≤ 12 → l ≤ 2000000000 → g_A G mX12_cascades 3 0 0 42 [(5, .int (nI i)), (3, .long (lN l)), (0, .ref (g_ad G 38))] [] (g_hp G C (g_hm G (f_ml (f_mn (f_mI M 6 R) 6 c) 1 (lN b)) ++ ob)) (some (.int 1)) (g_hp G C (g_hm G (f_ml (f_mn (f_mI M 6 (f_lay R c (f_cas i l))) 6 (c + (f_cas i l).length)) 1 (lN (b + f_cab i l))) ++ ob)) := by
    intro i
    induction i with
    | zero =>
      intro l c b R hc hl
      refine a_iload 0 44 rfl dX12_cascades_42 rfl ?_
      refine a_if_le 128 47 rfl dX12_cascades_44 (by decide) (fun _ => ?_) (fun hc => absurd (nI_le (a := 0) (b := 0) (by omega) (by omega)) hc)
      refine a_iconst (x := 1) 129 rfl dX12_cascades_128 (by decide) ?_
      exact a_ireturn .boolean rfl rfl (rfl) (rfl) dX12_cascades_129
    | succ i ih =>
      intro l c b R hc hl
      rcases Nat.eq_zero_or_pos l with e1 | e1
      · subst e1
        have e2 : f_cas (i + 1) 0 = [] := by rw [f_cas, if_pos rfl]
        have e3 : f_cab (i + 1) 0 = 0 := by rw [f_cab, if_pos rfl]
        rw [e2, e3]
        refine a_iload 0 44 rfl dX12_cascades_42 rfl ?_
        refine a_if_le 128 47 rfl dX12_cascades_44 (by decide) (fun hc => absurd hc (nI_ge (a := 0) (b := (i + 1)) (by omega) (by omega))) (fun _ => ?_)
        refine a_lload_n 1 48 rfl dX12_cascades_47 rfl rfl ?_
        refine a_lconst (x := 0) 49 rfl dX12_cascades_48 (by decide) ?_
        refine a_lcmp 50 rfl dX12_cascades_49 ?_
        refine a_if_le 128 53 rfl dX12_cascades_50 (by decide) (fun _ => ?_) (fun hc => absurd (g_cmp_le.mpr (by decide)) hc)
        refine a_iconst (x := 1) 129 rfl dX12_cascades_128 (by decide) ?_
        exact a_ireturn .boolean rfl rfl (rfl) (rfl) dX12_cascades_129
      · have hok := f_great_ok (l := l) (i := i + 1) e1 hl (by omega)
        have hc1 := f_great_c1 (l := l) (i := i + 1) e1 hl (by omega)
        have hc2 := f_great_c2 (l := l) (i := i) e1 hl (by omega)
        have hbs := f_great_bins (l := l) (i := i) e1 hl (by omega)
        have hgl := f_great_le l (i + 1)
        have e2 : f_cas (i + 1) l = f_great l (i + 1) :: f_cas i (l - f_ch (f_great l (i + 1)) (i + 1)) := by rw [f_cas, if_neg (by omega)]
        have e3 : f_cab (i + 1) l = f_ch (f_great l (i + 1)) i + f_cab i (l - f_ch (f_great l (i + 1)) (i + 1)) := by rw [f_cab, if_neg (by omega)]
        rw [e2, e3, hc1, hc2, List.length_cons, f_lay]
        obtain ⟨g, eg⟩ : ∃ g, g = f_great l (i + 1) := ⟨_, rfl⟩
        rw [← eg] at hok hbs hgl ⊢
        have hcl : (nI c).toNatClampNeg = c := g_cl (by omega)
        have w := ih (l - f_bin g (i + 1)) (c + 1) (b + f_bin g i) (upd R c (nI g)) (by omega) (by omega)
        rw [show c + 1 + (f_cas i (l - f_bin g (i + 1))).length = c + ((f_cas i (l - f_bin g (i + 1))).length + 1) by omega, show b + f_bin g i + f_cab i (l - f_bin g (i + 1)) = b + (f_bin g i + f_cab i (l - f_bin g (i + 1))) by omega] at w
        have wg : g_Run G mX12_greatest 1 0 0 [.long (lN l), .int (nI (i + 1))] (g_hp G C (g_hm G (f_ml (f_mn (f_mI M 6 R) 6 c) 1 (lN b)) ++ ob)) (some (.int (nI g))) (g_hp G C (g_hm G (f_ml (f_mn (f_mI M 6 R) 6 c) 1 (lN b)) ++ ob)) := by rw [eg]; exact r_greatM e1 hl (by omega) (by omega)
        refine a_iload 0 44 rfl dX12_cascades_42 rfl ?_
        refine a_if_le 128 47 rfl dX12_cascades_44 (by decide) (fun hc => absurd hc (nI_ge (a := 0) (b := (i + 1)) (by omega) (by omega))) (fun _ => ?_)
        refine a_lload_n 1 48 rfl dX12_cascades_47 rfl rfl ?_
        refine a_lconst (x := 0) 49 rfl dX12_cascades_48 (by decide) ?_
        refine a_lcmp 50 rfl dX12_cascades_49 ?_
        refine a_if_le 128 53 rfl dX12_cascades_50 (by decide) (fun hc => absurd hc (f_cmpF_le (x := l) (y := 0) (by omega) (by omega) e1)) (fun _ => ?_)
        refine a_lload_n 1 54 rfl dX12_cascades_53 rfl rfl ?_
        refine a_iload 0 56 rfl dX12_cascades_54 rfl ?_
        refine a_callS (as := [.long (lN l), .int (nI (i + 1))]) (rest := []) (st2 := [.int (nI g)]) (u1 := 0) (v1 := 0) (u2 := 0) (v2 := 0) (wg) oX12_greatest q_1431 q_1432 rfl (by omega) (by decide) rfl (Nat.le_of_ble_eq_true rfl) 59 rfl dX12_cascades_56 rfl ?_
        refine a_istore (lv' := [(6, .int (nI g)), (5, .int (nI (i + 1))), (3, .long (lN l)), (0, .ref (g_ad G 38))]) 61 rfl dX12_cascades_59 (by decide) rfl ?_
        refine a_aload_n 3 62 rfl dX12_cascades_61 rfl rfl ?_
        refine a_get 19 cl_11 f_RX12_44_11 (by decide) (rfl) rfl 65 rfl dX12_cascades_62 ?_
        refine a_aload_n 3 66 rfl dX12_cascades_65 rfl rfl ?_
        refine a_get 20 cl_11 f_RX12_238_11 (by decide) (rfl) rfl 69 rfl dX12_cascades_66 ?_
        refine a_iload 0 71 rfl dX12_cascades_69 rfl ?_
        refine a_iast (rfl) (vp_in_nI (n := c) (by omega) (by omega)) 72 rfl dX12_cascades_71 ?_
        refine a_eq (h2 := g_hp G C (g_hm G (f_mI (f_ml (f_mn M 6 c) 1 (lN b)) 6 (upd R c (nI g))) ++ ob)) rfl rfl rfl (by show (((g_hp G C (g_hm G (f_ml (f_mn (f_mI M 6 R) 6 c) 1 (lN b)) ++ ob)).set 48 (c_I G 12 (upd R (nI c).toNatClampNeg (nI g)))) : List va_E) = _; rw [hcl]; rfl) ?_
        refine a_aload_n 3 73 rfl dX12_cascades_72 rfl rfl ?_
        refine a_dup 74 rfl dX12_cascades_73 rfl ?_
        refine a_get 20 cl_11 f_RX12_238_11 (by decide) (rfl) rfl 77 rfl dX12_cascades_74 ?_
        refine a_iconst (x := 1) 78 rfl dX12_cascades_77 (by decide) ?_
        refine a_iadd 79 rfl dX12_cascades_78 ?_
        refine a_eq (st2 := [.int (nI (c + 1)), .ref (g_ad G 38)]) rfl rfl (congrArg (fun z9 => Value.int z9 :: [.ref (g_ad G 38)]) (nI_add c 1)) rfl ?_
        refine a_put (fs' := [.int (nI (M.1 0)), .int (nI (M.1 1)), .int (nI (M.1 2)), .int (nI (M.1 3)), .ref (g_ad G 39), .ref (g_ad G 40), .ref (g_ad G 41), .ref (g_ad G 42), .ref (g_ad G 43), .ref (g_ad G 44), .int (M.2.1 0), .ref (g_ad G 45), .int (nI (M.1 4)), .int (nI (M.1 5)), .int (M.2.1 1), .int (M.2.1 2), .long (M.2.2.1 0), .ref (g_ad G 46), .ref (g_ad G 47), .ref (g_ad G 48), .int (nI (c + 1)), .long (lN b), .int (nI (M.1 7)), .int (nI (M.1 8)), .ref (g_ad G 49), .ref (g_ad G 50), .int (nI (M.1 9)), .int (nI (M.1 10)), .int (nI (M.1 11)), .long (M.2.2.1 2), .ref (g_ad G 51), .ref (g_ad G 52), .ref (g_ad G 53), .ref (g_ad G 54), .ref (g_ad G 55), .ref (g_ad G 56), .ref (g_ad G 57), .ref (g_ad G 58), .ref (g_ad G 59), .ref (g_ad G 60), .ref (g_ad G 61), .ref (g_ad G 62), .int (nI (M.1 12))]) 20 cl_11 f_RX12_238_11 (by decide) (rfl) rfl rfl rfl (Nat.le_of_ble_eq_true rfl) rfl 82 rfl dX12_cascades_79 ?_
        refine a_eq (h2 := g_hp G C (g_hm G (f_mn (f_mI (f_ml M 1 (lN b)) 6 (upd R c (nI g))) 6 (c + 1)) ++ ob)) rfl rfl rfl (rfl) ?_
        refine a_lload_n 2 83 rfl dX12_cascades_82 rfl rfl ?_
        refine a_iload 1 85 rfl dX12_cascades_83 rfl ?_
        refine a_iconst (x := 1) 86 rfl dX12_cascades_85 (by decide) ?_
        rcases Nat.eq_zero_or_pos i with e4 | e4
        · have hb1 : f_bin g (i + 1) = g := by rw [e4]; exact f_bin_1 g
          refine a_icmp_ne 95 89 rfl dX12_cascades_86 (by decide) (fun hc => absurd ((by rw [e4]; rfl)) hc) (fun _ => ?_)
          refine a_iload 0 91 rfl dX12_cascades_89 rfl ?_
          refine a_i2l 92 rfl dX12_cascades_91 ?_
          refine a_goto 102 dX12_cascades_92 (by decide) ?_
          refine a_lsub 103 rfl dX12_cascades_102 ?_
          refine a_eq (st2 := [.long (lN (l - f_bin g (i + 1)))]) rfl rfl (congrArg (fun z9 => Value.long z9 :: []) (by rw [nI_l (by omega), hb1, lN_sub (by omega)])) rfl ?_
          refine a_lstore_n (lv' := [(3, .long (lN (l - f_bin g (i + 1)))), (6, .int (nI g)), (5, .int (nI (i + 1))), (0, .ref (g_ad G 38))]) 104 rfl dX12_cascades_103 rfl (by decide) rfl ?_
          refine a_aload_n 3 105 rfl dX12_cascades_104 rfl rfl ?_
          refine a_dup 106 rfl dX12_cascades_105 rfl ?_
          refine a_get 21 cl_11 f_RX12_241_11 (by decide) (rfl) rfl 109 rfl dX12_cascades_106 ?_
          refine a_iload 1 111 rfl dX12_cascades_109 rfl ?_
          refine a_iload 2 113 rfl dX12_cascades_111 rfl ?_
          refine a_iconst (x := 1) 114 rfl dX12_cascades_113 (by decide) ?_
          refine a_isub 115 rfl dX12_cascades_114 ?_
          refine a_eq (st2 := [.int (nI ((i + 1) - 1)), .int (nI g), .long (lN b), .ref (g_ad G 38)]) rfl rfl (congrArg (fun z9 => Value.int z9 :: [.int (nI g), .long (lN b), .ref (g_ad G 38)]) (pk_sub (a := (i + 1)) (b := 1) (by omega))) rfl ?_
          refine a_callS (as := [.int (nI g), .int (nI ((i + 1) - 1))]) (rest := [.long (lN b), .ref (g_ad G 38)]) (st2 := [.long (lN (f_bin g i)), .long (lN b), .ref (g_ad G 38)]) (u1 := 0) (v1 := 0) (u2 := 0) (v2 := 0) (r_chM (a := g) (k := i) (by omega) (by omega) (by omega)) oX12_choices q_1405 q_1406 rfl (by omega) (by decide) rfl (Nat.le_of_ble_eq_true rfl) 118 rfl dX12_cascades_115 rfl ?_
          refine a_ladd 119 rfl dX12_cascades_118 ?_
          refine a_eq (st2 := [.long (lN (b + f_bin g i)), .ref (g_ad G 38)]) rfl rfl (congrArg (fun z9 => Value.long z9 :: [.ref (g_ad G 38)]) (lN_add b (f_bin g i))) rfl ?_
          refine a_put (fs' := [.int (nI (M.1 0)), .int (nI (M.1 1)), .int (nI (M.1 2)), .int (nI (M.1 3)), .ref (g_ad G 39), .ref (g_ad G 40), .ref (g_ad G 41), .ref (g_ad G 42), .ref (g_ad G 43), .ref (g_ad G 44), .int (M.2.1 0), .ref (g_ad G 45), .int (nI (M.1 4)), .int (nI (M.1 5)), .int (M.2.1 1), .int (M.2.1 2), .long (M.2.2.1 0), .ref (g_ad G 46), .ref (g_ad G 47), .ref (g_ad G 48), .int (nI (c + 1)), .long (lN (b + f_bin g i)), .int (nI (M.1 7)), .int (nI (M.1 8)), .ref (g_ad G 49), .ref (g_ad G 50), .int (nI (M.1 9)), .int (nI (M.1 10)), .int (nI (M.1 11)), .long (M.2.2.1 2), .ref (g_ad G 51), .ref (g_ad G 52), .ref (g_ad G 53), .ref (g_ad G 54), .ref (g_ad G 55), .ref (g_ad G 56), .ref (g_ad G 57), .ref (g_ad G 58), .ref (g_ad G 59), .ref (g_ad G 60), .ref (g_ad G 61), .ref (g_ad G 62), .int (nI (M.1 12))]) 21 cl_11 f_RX12_241_11 (by decide) (rfl) rfl rfl rfl (Nat.le_of_ble_eq_true rfl) rfl 122 rfl dX12_cascades_119 ?_
          refine a_eq (h2 := g_hp G C (g_hm G (f_ml (f_mn (f_mI M 6 (upd R c (nI g))) 6 (c + 1)) 1 (lN (b + f_bin g i))) ++ ob)) rfl rfl rfl (rfl) ?_
          refine a_iinc (y := nI i) (lv' := [(5, .int (nI i)), (3, .long (lN (l - f_bin g (i + 1)))), (6, .int (nI g)), (0, .ref (g_ad G 38))]) 2 125 rfl dX12_cascades_122 rfl (nI_m1 i) (by decide) rfl ?_
          refine a_goto 42 dX12_cascades_125 (by decide) ?_
          refine a_sub (lv' := [(5, .int (nI i)), (3, .long (lN (l - f_bin g (i + 1)))), (0, .ref (g_ad G 38))]) [0, 1, 3] rfl ?_
          exact w
        · skip
          refine a_icmp_ne 95 89 rfl dX12_cascades_86 (by decide) (fun _ => ?_) (fun hc => absurd hc ((fun z9 => absurd (nI_inj9 (a := i + 1) (b := 1) (by omega) (by omega) z9) (by omega))))
          refine a_iload 0 97 rfl dX12_cascades_95 rfl ?_
          refine a_iload 1 99 rfl dX12_cascades_97 rfl ?_
          refine a_callS (as := [.int (nI g), .int (nI (i + 1))]) (rest := [.long (lN l)]) (st2 := [.long (lN (f_bin g (i + 1))), .long (lN l)]) (u1 := 0) (v1 := 0) (u2 := 0) (v2 := 0) (r_chM (a := g) (k := i + 1) (by omega) (by omega) (by omega)) oX12_choices q_1405 q_1406 rfl (by omega) (by decide) rfl (Nat.le_of_ble_eq_true rfl) 102 rfl dX12_cascades_99 rfl ?_
          refine a_lsub 103 rfl dX12_cascades_102 ?_
          refine a_eq (st2 := [.long (lN (l - f_bin g (i + 1)))]) rfl rfl (congrArg (fun z9 => Value.long z9 :: []) (lN_sub (by omega))) rfl ?_
          refine a_lstore_n (lv' := [(3, .long (lN (l - f_bin g (i + 1)))), (6, .int (nI g)), (5, .int (nI (i + 1))), (0, .ref (g_ad G 38))]) 104 rfl dX12_cascades_103 rfl (by decide) rfl ?_
          refine a_aload_n 3 105 rfl dX12_cascades_104 rfl rfl ?_
          refine a_dup 106 rfl dX12_cascades_105 rfl ?_
          refine a_get 21 cl_11 f_RX12_241_11 (by decide) (rfl) rfl 109 rfl dX12_cascades_106 ?_
          refine a_iload 1 111 rfl dX12_cascades_109 rfl ?_
          refine a_iload 2 113 rfl dX12_cascades_111 rfl ?_
          refine a_iconst (x := 1) 114 rfl dX12_cascades_113 (by decide) ?_
          refine a_isub 115 rfl dX12_cascades_114 ?_
          refine a_eq (st2 := [.int (nI ((i + 1) - 1)), .int (nI g), .long (lN b), .ref (g_ad G 38)]) rfl rfl (congrArg (fun z9 => Value.int z9 :: [.int (nI g), .long (lN b), .ref (g_ad G 38)]) (pk_sub (a := (i + 1)) (b := 1) (by omega))) rfl ?_
          refine a_callS (as := [.int (nI g), .int (nI ((i + 1) - 1))]) (rest := [.long (lN b), .ref (g_ad G 38)]) (st2 := [.long (lN (f_bin g i)), .long (lN b), .ref (g_ad G 38)]) (u1 := 0) (v1 := 0) (u2 := 0) (v2 := 0) (r_chM (a := g) (k := i) (by omega) (by omega) (by omega)) oX12_choices q_1405 q_1406 rfl (by omega) (by decide) rfl (Nat.le_of_ble_eq_true rfl) 118 rfl dX12_cascades_115 rfl ?_
          refine a_ladd 119 rfl dX12_cascades_118 ?_
          refine a_eq (st2 := [.long (lN (b + f_bin g i)), .ref (g_ad G 38)]) rfl rfl (congrArg (fun z9 => Value.long z9 :: [.ref (g_ad G 38)]) (lN_add b (f_bin g i))) rfl ?_
          refine a_put (fs' := [.int (nI (M.1 0)), .int (nI (M.1 1)), .int (nI (M.1 2)), .int (nI (M.1 3)), .ref (g_ad G 39), .ref (g_ad G 40), .ref (g_ad G 41), .ref (g_ad G 42), .ref (g_ad G 43), .ref (g_ad G 44), .int (M.2.1 0), .ref (g_ad G 45), .int (nI (M.1 4)), .int (nI (M.1 5)), .int (M.2.1 1), .int (M.2.1 2), .long (M.2.2.1 0), .ref (g_ad G 46), .ref (g_ad G 47), .ref (g_ad G 48), .int (nI (c + 1)), .long (lN (b + f_bin g i)), .int (nI (M.1 7)), .int (nI (M.1 8)), .ref (g_ad G 49), .ref (g_ad G 50), .int (nI (M.1 9)), .int (nI (M.1 10)), .int (nI (M.1 11)), .long (M.2.2.1 2), .ref (g_ad G 51), .ref (g_ad G 52), .ref (g_ad G 53), .ref (g_ad G 54), .ref (g_ad G 55), .ref (g_ad G 56), .ref (g_ad G 57), .ref (g_ad G 58), .ref (g_ad G 59), .ref (g_ad G 60), .ref (g_ad G 61), .ref (g_ad G 62), .int (nI (M.1 12))]) 21 cl_11 f_RX12_241_11 (by decide) (rfl) rfl rfl rfl (Nat.le_of_ble_eq_true rfl) rfl 122 rfl dX12_cascades_119 ?_
          refine a_eq (h2 := g_hp G C (g_hm G (f_ml (f_mn (f_mI M 6 (upd R c (nI g))) 6 (c + 1)) 1 (lN (b + f_bin g i))) ++ ob)) rfl rfl rfl (rfl) ?_
          refine a_iinc (y := nI i) (lv' := [(5, .int (nI i)), (3, .long (lN (l - f_bin g (i + 1)))), (6, .int (nI g)), (0, .ref (g_ad G 38))]) 2 125 rfl dX12_cascades_122 rfl (nI_m1 i) (by decide) rfl ?_
          refine a_goto 42 dX12_cascades_125 (by decide) ?_
          refine a_sub (lv' := [(5, .int (nI i)), (3, .long (lN (l - f_bin g (i + 1)))), (0, .ref (g_ad G 38))]) [0, 1, 3] rfl ?_
          exact w
  have w := key k m 0 0 (M.2.2.2.1 6) (by omega) hm
  rw [Nat.zero_add, Nat.zero_add] at w
  refine g_Run.of (lv := [(0, .ref (g_ad G 38)), (1, .int (nI m)), (2, .int (nI k))]) (by decide) (Nat.le_of_ble_eq_true rfl) rfl ?_
  refine a_iload_n 1 1 rfl dX12_cascades_0 rfl rfl ?_
  refine a_i2l 2 rfl dX12_cascades_1 ?_
  refine a_lconst (x := 0) 3 rfl dX12_cascades_2 (by decide) ?_
  refine a_ldc2 q_1429 6 rfl dX12_cascades_3 ?_
  refine a_callS (as := [.long ((nI m).toInt64), .long 0, .long 2000000000]) (rest := []) (st2 := [.int (f_i (decide ((0 : Int32) ≤ (nI m) ∧ (nI m) ≤ 2000000000)))]) (u1 := 0) (v1 := 0) (u2 := 0) (v2 := 0) (r_isInB (y := (nI m)) (a := 0) (b := 2000000000) rfl rfl) oX12_isIn q_1242 q_1243 rfl (by omega) (by decide) rfl (Nat.le_of_ble_eq_true rfl) 9 rfl dX12_cascades_6 rfl ?_
  refine a_if_eq 24 12 rfl dX12_cascades_9 (by decide) (fun hc => absurd hc (f_i_T (decide_eq_true ⟨nI_pos' (by omega), nI_le (b := 2000000000) (by omega) (by omega)⟩))) (fun _ => ?_)
  refine a_iload_n 2 13 rfl dX12_cascades_12 rfl rfl ?_
  refine a_i2l 14 rfl dX12_cascades_13 ?_
  refine a_lconst (x := 1) 15 rfl dX12_cascades_14 (by decide) ?_
  refine a_ldc2 q_1430 18 rfl dX12_cascades_15 ?_
  refine a_callS (as := [.long ((nI k).toInt64), .long 1, .long 12]) (rest := []) (st2 := [.int (f_i (decide ((1 : Int32) ≤ (nI k) ∧ (nI k) ≤ 12)))]) (u1 := 0) (v1 := 0) (u2 := 0) (v2 := 0) (r_isInB (y := (nI k)) (a := 1) (b := 12) rfl rfl) oX12_isIn q_1242 q_1243 rfl (by omega) (by decide) rfl (Nat.le_of_ble_eq_true rfl) 21 rfl dX12_cascades_18 rfl ?_
  refine a_if_ne 26 24 rfl dX12_cascades_21 (by decide) (fun _ => ?_) (fun hc => absurd hc (f_i_T (decide_eq_true ⟨nI_le (a := 1) (by omega) (by omega), nI_le (b := 12) (by omega) (by omega)⟩)))
  refine a_iload_n 1 27 rfl dX12_cascades_26 rfl rfl ?_
  refine a_i2l 28 rfl dX12_cascades_27 ?_
  refine a_eq (st2 := [.long (lN m)]) rfl rfl (congrArg (fun z9 => Value.long z9 :: []) (nI_l (by omega))) rfl ?_
  refine a_lstore_n (lv' := [(3, .long (lN m)), (0, .ref (g_ad G 38)), (1, .int (nI m)), (2, .int (nI k))]) 29 rfl dX12_cascades_28 rfl (by decide) rfl ?_
  refine a_aload_n 1 30 rfl dX12_cascades_29 rfl rfl ?_
  refine a_iconst (x := 0) 31 rfl dX12_cascades_30 (by decide) ?_
  refine a_put (fs' := [.int (nI (M.1 0)), .int (nI (M.1 1)), .int (nI (M.1 2)), .int (nI (M.1 3)), .ref (g_ad G 39), .ref (g_ad G 40), .ref (g_ad G 41), .ref (g_ad G 42), .ref (g_ad G 43), .ref (g_ad G 44), .int (M.2.1 0), .ref (g_ad G 45), .int (nI (M.1 4)), .int (nI (M.1 5)), .int (M.2.1 1), .int (M.2.1 2), .long (M.2.2.1 0), .ref (g_ad G 46), .ref (g_ad G 47), .ref (g_ad G 48), .int 0, .long (M.2.2.1 1), .int (nI (M.1 7)), .int (nI (M.1 8)), .ref (g_ad G 49), .ref (g_ad G 50), .int (nI (M.1 9)), .int (nI (M.1 10)), .int (nI (M.1 11)), .long (M.2.2.1 2), .ref (g_ad G 51), .ref (g_ad G 52), .ref (g_ad G 53), .ref (g_ad G 54), .ref (g_ad G 55), .ref (g_ad G 56), .ref (g_ad G 57), .ref (g_ad G 58), .ref (g_ad G 59), .ref (g_ad G 60), .ref (g_ad G 61), .ref (g_ad G 62), .int (nI (M.1 12))]) 20 cl_11 f_RX12_238_11 (by decide) (rfl) rfl rfl rfl (Nat.le_of_ble_eq_true rfl) rfl 34 rfl dX12_cascades_31 ?_
  refine a_aload_n 1 35 rfl dX12_cascades_34 rfl rfl ?_
  refine a_lconst (x := 0) 36 rfl dX12_cascades_35 (by decide) ?_
  refine a_put (fs' := [.int (nI (M.1 0)), .int (nI (M.1 1)), .int (nI (M.1 2)), .int (nI (M.1 3)), .ref (g_ad G 39), .ref (g_ad G 40), .ref (g_ad G 41), .ref (g_ad G 42), .ref (g_ad G 43), .ref (g_ad G 44), .int (M.2.1 0), .ref (g_ad G 45), .int (nI (M.1 4)), .int (nI (M.1 5)), .int (M.2.1 1), .int (M.2.1 2), .long (M.2.2.1 0), .ref (g_ad G 46), .ref (g_ad G 47), .ref (g_ad G 48), .int 0, .long 0, .int (nI (M.1 7)), .int (nI (M.1 8)), .ref (g_ad G 49), .ref (g_ad G 50), .int (nI (M.1 9)), .int (nI (M.1 10)), .int (nI (M.1 11)), .long (M.2.2.1 2), .ref (g_ad G 51), .ref (g_ad G 52), .ref (g_ad G 53), .ref (g_ad G 54), .ref (g_ad G 55), .ref (g_ad G 56), .ref (g_ad G 57), .ref (g_ad G 58), .ref (g_ad G 59), .ref (g_ad G 60), .ref (g_ad G 61), .ref (g_ad G 62), .int (nI (M.1 12))]) 21 cl_11 f_RX12_241_11 (by decide) (g_set_eq (rfl)) rfl rfl rfl (Nat.le_of_ble_eq_true rfl) rfl 39 rfl dX12_cascades_36 ?_
  refine a_iload_n 3 40 rfl dX12_cascades_39 rfl rfl ?_
  refine a_istore (lv' := [(5, .int (nI k)), (3, .long (lN m)), (0, .ref (g_ad G 38)), (1, .int (nI m)), (2, .int (nI k))]) 42 rfl dX12_cascades_40 (by decide) rfl ?_
  refine a_eq (h2 := g_hp G C (g_hm G (f_ml (f_mn (f_mI M 6 (M.2.2.2.1 6)) 6 0) 1 (lN 0)) ++ ob)) rfl rfl rfl (rfl) ?_
  refine a_sub (lv' := [(5, .int (nI k)), (3, .long (lN m)), (0, .ref (g_ad G 38))]) [0, 1, 2] rfl ?_
  exact w
end MQ1
