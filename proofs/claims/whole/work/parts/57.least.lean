/-! The model's choices, all ways to take so many -/
def f_own (w : Nat) (O : Nat → Int32) : Nat → Int64
  | 0 => 0
  | k + 1 => cond (Nat.testBit w k) (f_own w O k ||| f_sl 1 (O k)) (f_own w O k)
def f_tou (w : Nat) (L : Nat → Int64) : Nat → Int64
  | 0 => 0
  | k + 1 => cond (Nat.testBit w k) (f_tou w L k ||| L k) (f_tou w L k)
def f_sC (w : Nat) (L : Nat → Int64) (own : Int64) : Nat → Nat
  | 0 => 0
  | k + 1 => f_sC w L own k + cond (Nat.testBit w k) (f_pop (L k &&& (own ^^^ (-1)))) 0
def f_cost (what w : Nat) (O : Nat → Int32) (L : Nat → Int64) (so : Nat) : Nat := match what with
  | 0 => f_pop (f_tou w L so &&& (f_own w O so ^^^ (-1)))
  | 1 => f_sC w L (f_own w O so) so
  | _ => f_pop (f_tou w L so)
def f_fin (what : Nat) (O : Nat → Int32) (L : Nat → Int64) (so m : Nat) (ff : Int64) : Nat → Int32 × Int64
  | 0 => (-2, ff)
  | w + 1 => cond (decide (f_pop (nI w).toInt64 = m)) (cond (decide ((f_fin what O L so m ff w).1 = -2) || decide (nI (f_cost what w O L so) < (f_fin what O L so m ff w).1)) (nI (f_cost what w O L so), f_own w O so) (f_fin what O L so m ff w)) (f_fin what O L so m ff w)
section ML1
variable {G : g_G} {C : f_C} {M : f_M} {ob h : List va_E} {x : Int64} {y y2 y3 : Int32} {a k so m : Nat}
theorem r_chM (hk : k ≤ 100) (ha : a < 2147483648) (hb : f_bin a k ≤ 4000000000000000) : g_Run G mX12_choices 1 0 0 [.int (nI a), .int (nI k)] h (some (.long (lN (f_bin a k)))) h := by
  refine g_Run.of (lv := [(0, .int (nI a)), (1, .int (nI k))]) (by decide) (Nat.le_of_ble_eq_true rfl) rfl ?_
  refine a_iload_n 1 1 rfl dX12_choices_0 rfl rfl ?_
  refine a_iload_n 0 2 rfl dX12_choices_1 rfl rfl ?_
  rcases Nat.lt_or_ge a k with e1 | e1
  · skip
    refine a_icmp_le 7 5 rfl dX12_choices_2 (by decide) (fun hc => absurd hc (nI_ge (a := a) (b := k) (by omega) (by omega))) (fun _ => ?_)
    refine a_lconst (x := 0) 6 rfl dX12_choices_5 (by decide) ?_
    exact a_lreturn rfl ((by rw [f_bin_above a k e1]; rfl)) (rfl) dX12_choices_6
  · skip
    refine a_icmp_le 7 5 rfl dX12_choices_2 (by decide) (fun _ => ?_) (fun hc => absurd (nI_le (a := k) (b := a) (by omega) (by omega)) hc)
    refine a_lconst (x := 1) 8 rfl dX12_choices_7 (by decide) ?_
    refine a_lstore_n (lv' := [(2, .long 1), (0, .int (nI a)), (1, .int (nI k))]) 9 rfl dX12_choices_8 rfl (by decide) rfl ?_
    refine a_iconst (x := 1) 10 rfl dX12_choices_9 (by decide) ?_
    refine a_istore (lv' := [(4, .int 1), (2, .long 1), (0, .int (nI a)), (1, .int (nI k))]) 12 rfl dX12_choices_10 (by decide) rfl ?_
    refine a_eq (lv2 := [(4, .int (nI (0 + 1))), (2, .long (lN (f_bin (a - k + 0) 0))), (0, .int (nI a)), (1, .int (nI k))]) rfl (by rw [f_bin_0]; rfl) rfl rfl ?_
    refine g_for (P := fun i9 => True) k (fun i9 => [(4, .int (nI (i9 + 1))), (2, .long (lN (f_bin (a - k + i9) i9))), (0, .int (nI a)), (1, .int (nI k))]) (fun i9 => h) (trivial) (fun i9 h_i9 p_i9 k_i9 => ?_) (fun p_i9 => ?_)
    · have hstep : f_bin (a - k + i9) i9 * (a - k + (i9 + 1)) / (i9 + 1) = f_bin (a - k + (i9 + 1)) (i9 + 1) := by
        have e1 := f_bin_mul (a - k + i9) i9
        rw [show a - k + (i9 + 1) = a - k + i9 + 1 by omega, Nat.mul_comm, ← e1]
        exact Nat.mul_div_cancel _ (by omega)
      have hprod : f_bin (a - k + i9) i9 * (a - k + (i9 + 1)) ≤ 4000000000000000 * 100 := by
        have e2 := f_bin_mul (a - k + i9) i9
        have e3 := f_bin_diag (a - k) (k - (i9 + 1)) (i9 + 1)
        rw [show i9 + 1 + (k - (i9 + 1)) = k by omega, show a - k + k = a by omega] at e3
        rw [show a - k + (i9 + 1) = a - k + i9 + 1 by omega, Nat.mul_comm, ← e2]
        exact Nat.mul_le_mul (Nat.le_trans e3 hb) (by omega)
      have hbb : f_bin (a - k + i9) i9 < 2 ^ 63 := by
        have e3 := f_bin_diag (a - k) (k - i9) i9
        rw [show i9 + (k - i9) = k by omega, show a - k + k = a by omega] at e3
        omega
      have hnz : ¬ (nI (i9 + 1)).toInt64 = 0 := by
        rw [nI_l (by omega)]
        intro z
        have := (pk_lEQ (a := i9 + 1) (b := 0) (by omega) (by omega)).mp z
        omega
      refine a_iload 0 14 rfl dX12_choices_12 rfl ?_
      refine a_iload_n 3 15 rfl dX12_choices_14 rfl rfl ?_
      refine a_icmp_gt 38 18 rfl dX12_choices_15 (by decide) (fun hc => absurd hc (nI_nlt (a := k) (b := (i9 + 1)) (by omega) (by omega))) (fun _ => ?_)
      refine a_lload_n 1 19 rfl dX12_choices_18 rfl rfl ?_
      refine a_iload_n 2 20 rfl dX12_choices_19 rfl rfl ?_
      refine a_iload_n 3 21 rfl dX12_choices_20 rfl rfl ?_
      refine a_isub 22 rfl dX12_choices_21 ?_
      refine a_eq (st2 := [.int (nI (a - k)), .long (lN (f_bin (a - k + i9) i9))]) rfl rfl (congrArg (fun z9 => Value.int z9 :: [.long (lN (f_bin (a - k + i9) i9))]) (pk_sub (a := a) (b := k) (by omega))) rfl ?_
      refine a_iload 0 24 rfl dX12_choices_22 rfl ?_
      refine a_iadd 25 rfl dX12_choices_24 ?_
      refine a_eq (st2 := [.int (nI ((a - k) + (i9 + 1))), .long (lN (f_bin (a - k + i9) i9))]) rfl rfl (congrArg (fun z9 => Value.int z9 :: [.long (lN (f_bin (a - k + i9) i9))]) (nI_add (a - k) (i9 + 1))) rfl ?_
      refine a_i2l 26 rfl dX12_choices_25 ?_
      refine a_lmul 27 rfl dX12_choices_26 ?_
      refine a_iload 0 29 rfl dX12_choices_27 rfl ?_
      refine a_i2l 30 rfl dX12_choices_29 ?_
      refine a_ldiv 31 rfl dX12_choices_30 (hnz) ?_
      refine a_eq (st2 := [.long (lN (f_bin (a - k + (i9 + 1)) (i9 + 1)))]) rfl rfl (congrArg (fun z9 => Value.long z9 :: []) (by rw [nI_l (by omega), nI_l (by omega), lN_mul, pk_lDiv (by omega) (by omega) (by omega), hstep])) rfl ?_
      refine a_lstore_n (lv' := [(2, .long (lN (f_bin (a - k + (i9 + 1)) (i9 + 1)))), (4, .int (nI (i9 + 1))), (0, .int (nI a)), (1, .int (nI k))]) 32 rfl dX12_choices_31 rfl (by decide) rfl ?_
      refine a_iinc (y := nI ((i9 + 1) + 1)) (lv' := [(4, .int (nI ((i9 + 1) + 1))), (2, .long (lN (f_bin (a - k + (i9 + 1)) (i9 + 1)))), (0, .int (nI a)), (1, .int (nI k))]) 1 35 rfl dX12_choices_32 rfl (nI_1 (i9 + 1)) (by decide) rfl ?_
      refine a_goto 12 dX12_choices_35 (by decide) ?_
      refine a_sub (lv' := [(4, .int (nI ((i9 + 1) + 1))), (2, .long (lN (f_bin (a - k + (i9 + 1)) (i9 + 1)))), (0, .int (nI a)), (1, .int (nI k))]) [0, 1, 2, 3] rfl ?_
      exact k_i9 trivial
    · skip
      refine a_iload 0 14 rfl dX12_choices_12 rfl ?_
      refine a_iload_n 3 15 rfl dX12_choices_14 rfl rfl ?_
      refine a_icmp_gt 38 18 rfl dX12_choices_15 (by decide) (fun _ => ?_) (fun hc => absurd (nI_lt (a := k) (b := (k + 1)) (by omega) (by omega)) hc)
      refine a_lload_n 1 39 rfl dX12_choices_38 rfl rfl ?_
      exact a_lreturn rfl ((by rw [show a - k + k = a by omega])) (rfl) dX12_choices_39
theorem r_finM0 (hs : so ≤ 16) (hm : m ≤ 100) : g_Run G mX12_finds 2 0 0 [.ref (g_ad G 38), .int (nI so), .int (nI m), .int 0] (g_hp G C (g_hm G M ++ ob)) none (g_hp G C (g_hm G (f_ml (f_mi M 2 (f_fin 0 (M.2.2.2.1 5) (M.2.2.2.2 2) so m (M.2.2.1 0) (2 ^ so)).1) 0 (f_fin 0 (M.2.2.2.1 5) (M.2.2.2.2 2) so m (M.2.2.1 0) (2 ^ so)).2) ++ ob)) := by
  have h2 : 2 ^ so ≤ 65536 := show 2 ^ so ≤ 2 ^ 16 from Nat.pow_le_pow_right (by decide) hs
  obtain ⟨F, eF⟩ : ∃ F, F = f_fin 0 (M.2.2.2.1 5) (M.2.2.2.2 2) so m (M.2.2.1 0) := ⟨_, rfl⟩
  have eS : ∀ w, F (w + 1) = cond (decide (f_pop (nI w).toInt64 = m)) (cond (decide ((F w).1 = -2) || decide (nI (f_cost 0 w (M.2.2.2.1 5) (M.2.2.2.2 2) so) < (F w).1)) (nI (f_cost 0 w (M.2.2.2.1 5) (M.2.2.2.2 2) so), f_own w (M.2.2.2.1 5) so) (F w)) (F w) := by rw [eF]; intro w; rfl
  have e0 : F 0 = (-2, M.2.2.1 0) := by rw [eF]; rfl
  rw [← eF]
  clear eF
  refine g_Run.of (lv := [(0, .ref (g_ad G 38)), (1, .int (nI so)), (2, .int (nI m)), (3, .int 0)]) (by decide) (Nat.le_of_ble_eq_true rfl) rfl ?_
  refine a_aload_n 0 1 rfl dX12_finds_0 rfl rfl ?_
  refine a_bipush (x := (-2)) 3 rfl dX12_finds_1 (by decide) ?_
  refine a_put (fs' := [.int (nI (M.1 0)), .int (nI (M.1 1)), .int (nI (M.1 2)), .int (nI (M.1 3)), .ref (g_ad G 39), .ref (g_ad G 40), .ref (g_ad G 41), .ref (g_ad G 42), .ref (g_ad G 43), .ref (g_ad G 44), .int (M.2.1 0), .ref (g_ad G 45), .int (nI (M.1 4)), .int (nI (M.1 5)), .int (M.2.1 1), .int ((-2)), .long (M.2.2.1 0), .ref (g_ad G 46), .ref (g_ad G 47), .ref (g_ad G 48), .int (nI (M.1 6)), .long (M.2.2.1 1), .int (nI (M.1 7)), .int (nI (M.1 8)), .ref (g_ad G 49), .ref (g_ad G 50), .int (nI (M.1 9)), .int (nI (M.1 10)), .int (nI (M.1 11)), .long (M.2.2.1 2), .ref (g_ad G 51), .ref (g_ad G 52), .ref (g_ad G 53), .ref (g_ad G 54), .ref (g_ad G 55), .ref (g_ad G 56), .ref (g_ad G 57), .ref (g_ad G 58), .ref (g_ad G 59), .ref (g_ad G 60), .ref (g_ad G 61), .ref (g_ad G 62), .int (nI (M.1 12))]) 15 cl_11 f_RX12_213_11 (by decide) (rfl) rfl rfl rfl (Nat.le_of_ble_eq_true rfl) rfl 6 rfl dX12_finds_3 ?_
  refine a_eq (h2 := g_hp G C (g_hm G (f_ml (f_mi M 2 (-2)) 0 (M.2.2.1 0)) ++ ob)) rfl rfl rfl (rfl) ?_
  refine a_eq (h2 := g_hp G C (g_hm G (f_ml (f_mi M 2 (F 0).1) 0 (F 0).2) ++ ob)) rfl rfl rfl (by rw [e0]) ?_
  refine a_iconst (x := 0) 7 rfl dX12_finds_6 (by decide) ?_
  refine a_istore (lv' := [(4, .int 0), (0, .ref (g_ad G 38)), (1, .int (nI so)), (2, .int (nI m)), (3, .int 0)]) 9 rfl dX12_finds_7 (by decide) rfl ?_
  refine a_sub (lv' := [(4, .int (nI 0)), (0, .ref (g_ad G 38)), (1, .int (nI so)), (2, .int (nI m)), (3, .int 0)]) [0, 1, 2, 3, 4] rfl ?_
  refine g_for (P := fun w9 => True) (2 ^ so) (fun w9 => [(4, .int (nI w9)), (0, .ref (g_ad G 38)), (1, .int (nI so)), (2, .int (nI m)), (3, .int 0)]) (fun w9 => g_hp G C (g_hm G (f_ml (f_mi M 2 (F w9).1) 0 (F w9).2) ++ ob)) (trivial) (fun w9 h_w9 p_w9 k_w9 => ?_) (fun p_w9 => ?_)
  · skip
    have hq := f_pop_le (nI w9).toInt64
    have eS9 := eS w9
    refine a_iload 0 11 rfl dX12_finds_9 rfl ?_
    refine a_iconst (x := 1) 12 rfl dX12_finds_11 (by decide) ?_
    refine a_iload_n 2 13 rfl dX12_finds_12 rfl rfl ?_
    refine a_ishl 14 rfl dX12_finds_13 ?_
    refine a_eq (st2 := [.int (nI (2 ^ so)), .int (nI w9)]) rfl rfl (congrArg (fun z9 => Value.int z9 :: [.int (nI w9)]) (f_shlI so (by omega))) rfl ?_
    refine a_icmp_ge 211 17 rfl dX12_finds_14 (by decide) (fun hc => absurd hc (nI_ge (a := w9) (b := (2 ^ so)) (by omega) (by omega))) (fun _ => ?_)
    refine a_iload 0 19 rfl dX12_finds_17 rfl ?_
    refine a_i2l 20 rfl dX12_finds_19 ?_
    refine a_callS (as := [.long ((nI w9).toInt64)]) (rest := []) (st2 := [.int (nI (f_pop ((nI w9).toInt64)))]) (u1 := 0) (v1 := 0) (u2 := 0) (v2 := 0) (r_many) oX12_many q_1311 q_1312 rfl (by omega) (by decide) rfl (Nat.le_of_ble_eq_true rfl) 23 rfl dX12_finds_20 rfl ?_
    refine a_iload_n 3 24 rfl dX12_finds_23 rfl rfl ?_
    rcases Bool.eq_false_or_eq_true (decide (f_pop (nI w9).toInt64 = m)) with e1 | e1
    · rw [e1, cond_true] at eS9
      refine a_icmp_eq 30 27 rfl dX12_finds_24 (by decide) (fun _ => ?_) (fun hc => absurd (congrArg nI (of_decide_eq_true e1)) hc)
      refine a_lconst (x := 0) 31 rfl dX12_finds_30 (by decide) ?_
      refine a_lstore (lv' := [(5, .long 0), (4, .int (nI w9)), (0, .ref (g_ad G 38)), (1, .int (nI so)), (2, .int (nI m)), (3, .int 0)]) 33 rfl dX12_finds_31 (by decide) rfl ?_
      refine a_lconst (x := 0) 34 rfl dX12_finds_33 (by decide) ?_
      refine a_lstore (lv' := [(7, .long 0), (5, .long 0), (4, .int (nI w9)), (0, .ref (g_ad G 38)), (1, .int (nI so)), (2, .int (nI m)), (3, .int 0)]) 36 rfl dX12_finds_34 (by decide) rfl ?_
      refine a_iconst (x := 0) 37 rfl dX12_finds_36 (by decide) ?_
      refine a_istore (lv' := [(9, .int 0), (7, .long 0), (5, .long 0), (4, .int (nI w9)), (0, .ref (g_ad G 38)), (1, .int (nI so)), (2, .int (nI m)), (3, .int 0)]) 39 rfl dX12_finds_37 (by decide) rfl ?_
      refine a_sub (lv' := [(9, .int (nI 0)), (5, .long (f_own w9 (M.2.2.2.1 5) 0)), (7, .long (f_tou w9 (M.2.2.2.2 2) 0)), (4, .int (nI w9)), (0, .ref (g_ad G 38)), (1, .int (nI so)), (2, .int (nI m)), (3, .int 0)]) [0, 2, 1, 3, 4, 5, 6, 7] rfl ?_
      refine g_for (P := fun k9 => True) so (fun k9 => [(9, .int (nI k9)), (5, .long (f_own w9 (M.2.2.2.1 5) k9)), (7, .long (f_tou w9 (M.2.2.2.2 2) k9)), (4, .int (nI w9)), (0, .ref (g_ad G 38)), (1, .int (nI so)), (2, .int (nI m)), (3, .int 0)]) (fun k9 => (g_hp G C (g_hm G (f_ml (f_mi M 2 ((F w9).1)) 0 ((F w9).2)) ++ ob))) (trivial) (fun k9 h_k9 p_k9 k_k9 => ?_) (fun p_k9 => ?_)
      · skip
        refine a_iload 0 41 rfl dX12_finds_39 rfl ?_
        refine a_iload_n 5 42 rfl dX12_finds_41 rfl rfl ?_
        refine a_icmp_ge 88 45 rfl dX12_finds_42 (by decide) (fun hc => absurd hc (nI_ge (a := k9) (b := so) (by omega) (by omega))) (fun _ => ?_)
        refine a_iload 3 47 rfl dX12_finds_45 rfl ?_
        refine a_iload 0 49 rfl dX12_finds_47 rfl ?_
        refine a_ishr 50 rfl dX12_finds_49 ?_
        refine a_iconst (x := 1) 51 rfl dX12_finds_50 (by decide) ?_
        refine a_iand 52 rfl dX12_finds_51 ?_
        refine a_eq (st2 := [.int (f_i (Nat.testBit w9 k9))]) rfl rfl (congrArg (fun z9 => Value.int z9 :: []) (f_tbI (s := w9) (e := k9) (by omega) (by omega))) rfl ?_
        refine a_iconst (x := 1) 53 rfl dX12_finds_52 (by decide) ?_
        refine g_sfx (pc := 82) (lv := [(7, .long (cond (Nat.testBit w9 k9) ((f_tou w9 (M.2.2.2.2 2) k9) ||| ((M.2.2.2.2 2) k9)) (f_tou w9 (M.2.2.2.2 2) k9))), (5, .long (cond (Nat.testBit w9 k9) ((f_own w9 (M.2.2.2.1 5) k9) ||| (f_sl (1 : Int64) ((M.2.2.2.1 5) k9))) (f_own w9 (M.2.2.2.1 5) k9))), (9, .int (nI k9)), (4, .int (nI w9)), (0, .ref (g_ad G 38)), (1, .int (nI so)), (2, .int (nI m)), (3, .int 0)]) (st := []) (h := (g_hp G C (g_hm G (f_ml (f_mi M 2 ((F w9).1)) 0 ((F w9).2)) ++ ob))) (fun key => ?_) ?_
        · skip
          rcases Bool.eq_false_or_eq_true ((Nat.testBit w9 k9)) with c53_1 | c53_1
          · skip
            refine a_icmp_ne 82 56 rfl dX12_finds_53 (by decide) (fun hc => absurd (f_i_T1 c53_1) hc) (fun _ => ?_)
            refine a_lload 1 58 rfl dX12_finds_56 rfl ?_
            refine a_lconst (x := 1) 59 rfl dX12_finds_58 (by decide) ?_
            refine a_aload_n 4 60 rfl dX12_finds_59 rfl rfl ?_
            refine a_get 17 cl_11 f_RX12_38_11 (by decide) (rfl) rfl 63 rfl dX12_finds_60 ?_
            refine a_iload 0 65 rfl dX12_finds_63 rfl ?_
            refine a_iald (rfl) (vp_in_nI (n := k9) (by omega) (by omega)) 66 rfl dX12_finds_65 ?_
            refine a_eq (st2 := [.int ((M.2.2.2.1 5) k9), .long 1, .long (f_own w9 (M.2.2.2.1 5) k9)]) rfl rfl (congrArg (fun z9 => Value.int z9 :: [.long 1, .long (f_own w9 (M.2.2.2.1 5) k9)]) (congrArg (M.2.2.2.1 5) (g_cl (by omega)))) rfl ?_
            refine a_lshl 67 rfl dX12_finds_66 ?_
            refine a_lor 68 rfl dX12_finds_67 ?_
            refine a_lstore (lv' := [(5, .long ((f_own w9 (M.2.2.2.1 5) k9) ||| (f_sl (1 : Int64) ((M.2.2.2.1 5) k9)))), (9, .int (nI k9)), (7, .long (f_tou w9 (M.2.2.2.2 2) k9)), (4, .int (nI w9)), (0, .ref (g_ad G 38)), (1, .int (nI so)), (2, .int (nI m)), (3, .int 0)]) 70 rfl dX12_finds_68 (by decide) rfl ?_
            refine a_lload 2 72 rfl dX12_finds_70 rfl ?_
            refine a_aload_n 4 73 rfl dX12_finds_72 rfl rfl ?_
            refine a_get 18 cl_11 f_RX12_41_11 (by decide) (rfl) rfl 76 rfl dX12_finds_73 ?_
            refine a_iload 1 78 rfl dX12_finds_76 rfl ?_
            refine a_lald (rfl) (vp_in_nI (n := k9) (by omega) (by omega)) 79 rfl dX12_finds_78 ?_
            refine a_eq (st2 := [.long ((M.2.2.2.2 2) k9), .long (f_tou w9 (M.2.2.2.2 2) k9)]) rfl rfl (congrArg (fun z9 => Value.long z9 :: [.long (f_tou w9 (M.2.2.2.2 2) k9)]) (congrArg (M.2.2.2.2 2) (g_cl (by omega)))) rfl ?_
            refine a_lor 80 rfl dX12_finds_79 ?_
            refine a_lstore (lv' := [(7, .long ((f_tou w9 (M.2.2.2.2 2) k9) ||| ((M.2.2.2.2 2) k9))), (5, .long ((f_own w9 (M.2.2.2.1 5) k9) ||| (f_sl (1 : Int64) ((M.2.2.2.1 5) k9)))), (9, .int (nI k9)), (4, .int (nI w9)), (0, .ref (g_ad G 38)), (1, .int (nI so)), (2, .int (nI m)), (3, .int 0)]) 82 rfl dX12_finds_80 (by decide) rfl ?_
            exact a_eq rfl (by rw [c53_1]; rfl) (rfl) rfl key
          · skip
            refine a_icmp_ne 82 56 rfl dX12_finds_53 (by decide) (fun _ => ?_) (fun hc => absurd hc (f_i_F1 c53_1))
            refine a_sub (lv' := [(7, .long (f_tou w9 (M.2.2.2.2 2) k9)), (5, .long (f_own w9 (M.2.2.2.1 5) k9)), (9, .int (nI k9)), (4, .int (nI w9)), (0, .ref (g_ad G 38)), (1, .int (nI so)), (2, .int (nI m)), (3, .int 0)]) [2, 1, 0, 3, 4, 5, 6, 7] rfl ?_
            exact a_eq rfl (by rw [c53_1]; rfl) (rfl) rfl key
        refine a_iinc (y := nI (k9 + 1)) (lv' := [(9, .int (nI (k9 + 1))), (7, .long (cond (Nat.testBit w9 k9) ((f_tou w9 (M.2.2.2.2 2) k9) ||| ((M.2.2.2.2 2) k9)) (f_tou w9 (M.2.2.2.2 2) k9))), (5, .long (cond (Nat.testBit w9 k9) ((f_own w9 (M.2.2.2.1 5) k9) ||| (f_sl (1 : Int64) ((M.2.2.2.1 5) k9))) (f_own w9 (M.2.2.2.1 5) k9))), (4, .int (nI w9)), (0, .ref (g_ad G 38)), (1, .int (nI so)), (2, .int (nI m)), (3, .int 0)]) 2 85 rfl dX12_finds_82 rfl (nI_1 k9) (by decide) rfl ?_
        refine a_goto 39 dX12_finds_85 (by decide) ?_
        refine a_sub (lv' := [(9, .int (nI (k9 + 1))), (5, .long (f_own w9 (M.2.2.2.1 5) (k9 + 1))), (7, .long (f_tou w9 (M.2.2.2.2 2) (k9 + 1))), (4, .int (nI w9)), (0, .ref (g_ad G 38)), (1, .int (nI so)), (2, .int (nI m)), (3, .int 0)]) [0, 2, 1, 3, 4, 5, 6, 7] rfl ?_
        exact k_k9 trivial
      · skip
        refine a_iload 0 41 rfl dX12_finds_39 rfl ?_
        refine a_iload_n 5 42 rfl dX12_finds_41 rfl rfl ?_
        refine a_icmp_ge 88 45 rfl dX12_finds_42 (by decide) (fun _ => ?_) (fun hc => absurd (nI_le (a := so) (b := so) (by omega) (by omega)) hc)
        refine a_iload_n 7 89 rfl dX12_finds_88 rfl rfl ?_
        refine a_iconst (x := 2) 90 rfl dX12_finds_89 (by decide) ?_
        refine a_icmp_ne 101 93 rfl dX12_finds_90 (by decide) (fun _ => ?_) (fun hc => absurd hc ((by decide)))
        refine a_lload 2 103 rfl dX12_finds_101 rfl ?_
        refine a_lload 1 105 rfl dX12_finds_103 rfl ?_
        refine a_ldc2 q_1260 108 rfl dX12_finds_105 ?_
        refine a_lxor 109 rfl dX12_finds_108 ?_
        refine a_land 110 rfl dX12_finds_109 ?_
        refine a_callS (as := [.long ((f_tou w9 (M.2.2.2.2 2) so) &&& ((f_own w9 (M.2.2.2.1 5) so) ^^^ (-1)))]) (rest := []) (st2 := [.int (nI (f_pop ((f_tou w9 (M.2.2.2.2 2) so) &&& ((f_own w9 (M.2.2.2.1 5) so) ^^^ (-1)))))]) (u1 := 0) (v1 := 0) (u2 := 0) (v2 := 0) (r_many) oX12_many q_1311 q_1312 rfl (by omega) (by decide) rfl (Nat.le_of_ble_eq_true rfl) 113 rfl dX12_finds_110 rfl ?_
        refine a_istore (lv' := [(9, .int (nI (f_pop ((f_tou w9 (M.2.2.2.2 2) so) &&& ((f_own w9 (M.2.2.2.1 5) so) ^^^ (-1)))))), (5, .long (f_own w9 (M.2.2.2.1 5) so)), (7, .long (f_tou w9 (M.2.2.2.2 2) so)), (4, .int (nI w9)), (0, .ref (g_ad G 38)), (1, .int (nI so)), (2, .int (nI m)), (3, .int 0)]) 115 rfl dX12_finds_113 (by decide) rfl ?_
        refine a_iload_n 7 116 rfl dX12_finds_115 rfl rfl ?_
        refine a_iconst (x := 1) 117 rfl dX12_finds_116 (by decide) ?_
        refine a_eq (lv2 := [(9, .int (nI (f_cost 0 w9 (M.2.2.2.1 5) (M.2.2.2.2 2) so))), (5, .long (f_own w9 (M.2.2.2.1 5) so)), (7, .long (f_tou w9 (M.2.2.2.2 2) so)), (4, .int (nI w9)), (0, .ref (g_ad G 38)), (1, .int (nI so)), (2, .int (nI m)), (3, .int 0)]) rfl (congrArg (fun z9 => ([(9, .int z9), (5, .long (f_own w9 (M.2.2.2.1 5) so)), (7, .long (f_tou w9 (M.2.2.2.2 2) so)), (4, .int (nI w9)), (0, .ref (g_ad G 38)), (1, .int (nI so)), (2, .int (nI m)), (3, .int 0)] : List (Nat × Value))) (rfl)) rfl rfl ?_
        refine a_icmp_ne 175 120 rfl dX12_finds_117 (by decide) (fun _ => ?_) (fun hc => absurd hc ((by decide)))
        refine a_aload_n 4 176 rfl dX12_finds_175 rfl rfl ?_
        refine a_get 15 cl_11 f_RX12_213_11 (by decide) (rfl) rfl 179 rfl dX12_finds_176 ?_
        refine a_bipush (x := (-2)) 181 rfl dX12_finds_179 (by decide) ?_
        rcases Bool.eq_false_or_eq_true (decide ((F w9).1 = -2)) with e2 | e2
        · rw [e2, Bool.true_or, cond_true] at eS9
          refine a_icmp_eq 193 184 rfl dX12_finds_181 (by decide) (fun _ => ?_) (fun hc => absurd (of_decide_eq_true e2) hc)
          refine a_aload_n 4 194 rfl dX12_finds_193 rfl rfl ?_
          refine a_iload 0 196 rfl dX12_finds_194 rfl ?_
          refine a_put (fs' := [.int (nI (M.1 0)), .int (nI (M.1 1)), .int (nI (M.1 2)), .int (nI (M.1 3)), .ref (g_ad G 39), .ref (g_ad G 40), .ref (g_ad G 41), .ref (g_ad G 42), .ref (g_ad G 43), .ref (g_ad G 44), .int (M.2.1 0), .ref (g_ad G 45), .int (nI (M.1 4)), .int (nI (M.1 5)), .int (M.2.1 1), .int (nI (f_cost 0 w9 (M.2.2.2.1 5) (M.2.2.2.2 2) so)), .long ((F w9).2), .ref (g_ad G 46), .ref (g_ad G 47), .ref (g_ad G 48), .int (nI (M.1 6)), .long (M.2.2.1 1), .int (nI (M.1 7)), .int (nI (M.1 8)), .ref (g_ad G 49), .ref (g_ad G 50), .int (nI (M.1 9)), .int (nI (M.1 10)), .int (nI (M.1 11)), .long (M.2.2.1 2), .ref (g_ad G 51), .ref (g_ad G 52), .ref (g_ad G 53), .ref (g_ad G 54), .ref (g_ad G 55), .ref (g_ad G 56), .ref (g_ad G 57), .ref (g_ad G 58), .ref (g_ad G 59), .ref (g_ad G 60), .ref (g_ad G 61), .ref (g_ad G 62), .int (nI (M.1 12))]) 15 cl_11 f_RX12_213_11 (by decide) (rfl) rfl rfl rfl (Nat.le_of_ble_eq_true rfl) rfl 199 rfl dX12_finds_196 ?_
          refine a_aload_n 4 200 rfl dX12_finds_199 rfl rfl ?_
          refine a_lload 1 202 rfl dX12_finds_200 rfl ?_
          refine a_put (fs' := [.int (nI (M.1 0)), .int (nI (M.1 1)), .int (nI (M.1 2)), .int (nI (M.1 3)), .ref (g_ad G 39), .ref (g_ad G 40), .ref (g_ad G 41), .ref (g_ad G 42), .ref (g_ad G 43), .ref (g_ad G 44), .int (M.2.1 0), .ref (g_ad G 45), .int (nI (M.1 4)), .int (nI (M.1 5)), .int (M.2.1 1), .int (nI (f_cost 0 w9 (M.2.2.2.1 5) (M.2.2.2.2 2) so)), .long (f_own w9 (M.2.2.2.1 5) so), .ref (g_ad G 46), .ref (g_ad G 47), .ref (g_ad G 48), .int (nI (M.1 6)), .long (M.2.2.1 1), .int (nI (M.1 7)), .int (nI (M.1 8)), .ref (g_ad G 49), .ref (g_ad G 50), .int (nI (M.1 9)), .int (nI (M.1 10)), .int (nI (M.1 11)), .long (M.2.2.1 2), .ref (g_ad G 51), .ref (g_ad G 52), .ref (g_ad G 53), .ref (g_ad G 54), .ref (g_ad G 55), .ref (g_ad G 56), .ref (g_ad G 57), .ref (g_ad G 58), .ref (g_ad G 59), .ref (g_ad G 60), .ref (g_ad G 61), .ref (g_ad G 62), .int (nI (M.1 12))]) 16 cl_11 f_RX12_216_11 (by decide) (g_set_eq (rfl)) rfl rfl rfl (Nat.le_of_ble_eq_true rfl) rfl 205 rfl dX12_finds_202 ?_
          refine a_eq (h2 := g_hp G C (g_hm G (f_ml (f_mi M 2 (nI (f_cost 0 w9 (M.2.2.2.1 5) (M.2.2.2.2 2) so))) 0 (f_own w9 (M.2.2.2.1 5) so)) ++ ob)) rfl rfl rfl (rfl) ?_
          rw [eS9] at k_w9
          refine a_iinc (y := nI (w9 + 1)) (lv' := [(4, .int (nI (w9 + 1))), (9, .int (nI (f_cost 0 w9 (M.2.2.2.1 5) (M.2.2.2.2 2) so))), (5, .long (f_own w9 (M.2.2.2.1 5) so)), (7, .long (f_tou w9 (M.2.2.2.2 2) so)), (0, .ref (g_ad G 38)), (1, .int (nI so)), (2, .int (nI m)), (3, .int 0)]) 3 208 rfl dX12_finds_205 rfl (nI_1 w9) (by decide) rfl ?_
          refine a_goto 9 dX12_finds_208 (by decide) ?_
          refine a_sub (lv' := [(4, .int (nI (w9 + 1))), (0, .ref (g_ad G 38)), (1, .int (nI so)), (2, .int (nI m)), (3, .int 0)]) [0, 4, 5, 6, 7] rfl ?_
          exact k_w9 trivial
        · rw [e2, Bool.false_or] at eS9
          refine a_icmp_eq 193 184 rfl dX12_finds_181 (by decide) (fun hc => absurd hc (of_decide_eq_false e2)) (fun _ => ?_)
          refine a_iload 0 186 rfl dX12_finds_184 rfl ?_
          refine a_aload_n 4 187 rfl dX12_finds_186 rfl rfl ?_
          refine a_get 15 cl_11 f_RX12_213_11 (by decide) (rfl) rfl 190 rfl dX12_finds_187 ?_
          rcases Bool.eq_false_or_eq_true (decide ((F w9).1 ≤ nI (f_cost 0 w9 (M.2.2.2.1 5) (M.2.2.2.2 2) so))) with e3 | e3
          · rw [decide_eq_false (Int32.not_lt.mpr (of_decide_eq_true e3)), cond_false] at eS9
            rw [eS9] at k_w9
            refine a_icmp_ge 205 193 rfl dX12_finds_190 (by decide) (fun _ => ?_) (fun hc => absurd (of_decide_eq_true e3) hc)
            refine a_iinc (y := nI (w9 + 1)) (lv' := [(4, .int (nI (w9 + 1))), (9, .int (nI (f_cost 0 w9 (M.2.2.2.1 5) (M.2.2.2.2 2) so))), (5, .long (f_own w9 (M.2.2.2.1 5) so)), (7, .long (f_tou w9 (M.2.2.2.2 2) so)), (0, .ref (g_ad G 38)), (1, .int (nI so)), (2, .int (nI m)), (3, .int 0)]) 3 208 rfl dX12_finds_205 rfl (nI_1 w9) (by decide) rfl ?_
            refine a_goto 9 dX12_finds_208 (by decide) ?_
            refine a_sub (lv' := [(4, .int (nI (w9 + 1))), (0, .ref (g_ad G 38)), (1, .int (nI so)), (2, .int (nI m)), (3, .int 0)]) [0, 4, 5, 6, 7] rfl ?_
            exact k_w9 trivial
          · rw [decide_eq_true (Int32.not_le.mp (of_decide_eq_false e3)), cond_true] at eS9
            refine a_icmp_ge 205 193 rfl dX12_finds_190 (by decide) (fun hc => absurd hc (of_decide_eq_false e3)) (fun _ => ?_)
            refine a_aload_n 4 194 rfl dX12_finds_193 rfl rfl ?_
            refine a_iload 0 196 rfl dX12_finds_194 rfl ?_
            refine a_put (fs' := [.int (nI (M.1 0)), .int (nI (M.1 1)), .int (nI (M.1 2)), .int (nI (M.1 3)), .ref (g_ad G 39), .ref (g_ad G 40), .ref (g_ad G 41), .ref (g_ad G 42), .ref (g_ad G 43), .ref (g_ad G 44), .int (M.2.1 0), .ref (g_ad G 45), .int (nI (M.1 4)), .int (nI (M.1 5)), .int (M.2.1 1), .int (nI (f_cost 0 w9 (M.2.2.2.1 5) (M.2.2.2.2 2) so)), .long ((F w9).2), .ref (g_ad G 46), .ref (g_ad G 47), .ref (g_ad G 48), .int (nI (M.1 6)), .long (M.2.2.1 1), .int (nI (M.1 7)), .int (nI (M.1 8)), .ref (g_ad G 49), .ref (g_ad G 50), .int (nI (M.1 9)), .int (nI (M.1 10)), .int (nI (M.1 11)), .long (M.2.2.1 2), .ref (g_ad G 51), .ref (g_ad G 52), .ref (g_ad G 53), .ref (g_ad G 54), .ref (g_ad G 55), .ref (g_ad G 56), .ref (g_ad G 57), .ref (g_ad G 58), .ref (g_ad G 59), .ref (g_ad G 60), .ref (g_ad G 61), .ref (g_ad G 62), .int (nI (M.1 12))]) 15 cl_11 f_RX12_213_11 (by decide) (rfl) rfl rfl rfl (Nat.le_of_ble_eq_true rfl) rfl 199 rfl dX12_finds_196 ?_
            refine a_aload_n 4 200 rfl dX12_finds_199 rfl rfl ?_
            refine a_lload 1 202 rfl dX12_finds_200 rfl ?_
            refine a_put (fs' := [.int (nI (M.1 0)), .int (nI (M.1 1)), .int (nI (M.1 2)), .int (nI (M.1 3)), .ref (g_ad G 39), .ref (g_ad G 40), .ref (g_ad G 41), .ref (g_ad G 42), .ref (g_ad G 43), .ref (g_ad G 44), .int (M.2.1 0), .ref (g_ad G 45), .int (nI (M.1 4)), .int (nI (M.1 5)), .int (M.2.1 1), .int (nI (f_cost 0 w9 (M.2.2.2.1 5) (M.2.2.2.2 2) so)), .long (f_own w9 (M.2.2.2.1 5) so), .ref (g_ad G 46), .ref (g_ad G 47), .ref (g_ad G 48), .int (nI (M.1 6)), .long (M.2.2.1 1), .int (nI (M.1 7)), .int (nI (M.1 8)), .ref (g_ad G 49), .ref (g_ad G 50), .int (nI (M.1 9)), .int (nI (M.1 10)), .int (nI (M.1 11)), .long (M.2.2.1 2), .ref (g_ad G 51), .ref (g_ad G 52), .ref (g_ad G 53), .ref (g_ad G 54), .ref (g_ad G 55), .ref (g_ad G 56), .ref (g_ad G 57), .ref (g_ad G 58), .ref (g_ad G 59), .ref (g_ad G 60), .ref (g_ad G 61), .ref (g_ad G 62), .int (nI (M.1 12))]) 16 cl_11 f_RX12_216_11 (by decide) (g_set_eq (rfl)) rfl rfl rfl (Nat.le_of_ble_eq_true rfl) rfl 205 rfl dX12_finds_202 ?_
            refine a_eq (h2 := g_hp G C (g_hm G (f_ml (f_mi M 2 (nI (f_cost 0 w9 (M.2.2.2.1 5) (M.2.2.2.2 2) so))) 0 (f_own w9 (M.2.2.2.1 5) so)) ++ ob)) rfl rfl rfl (rfl) ?_
            rw [eS9] at k_w9
            refine a_iinc (y := nI (w9 + 1)) (lv' := [(4, .int (nI (w9 + 1))), (9, .int (nI (f_cost 0 w9 (M.2.2.2.1 5) (M.2.2.2.2 2) so))), (5, .long (f_own w9 (M.2.2.2.1 5) so)), (7, .long (f_tou w9 (M.2.2.2.2 2) so)), (0, .ref (g_ad G 38)), (1, .int (nI so)), (2, .int (nI m)), (3, .int 0)]) 3 208 rfl dX12_finds_205 rfl (nI_1 w9) (by decide) rfl ?_
            refine a_goto 9 dX12_finds_208 (by decide) ?_
            refine a_sub (lv' := [(4, .int (nI (w9 + 1))), (0, .ref (g_ad G 38)), (1, .int (nI so)), (2, .int (nI m)), (3, .int 0)]) [0, 4, 5, 6, 7] rfl ?_
            exact k_w9 trivial
    · rw [e1, cond_false] at eS9
      rw [eS9] at k_w9
      refine a_icmp_eq 30 27 rfl dX12_finds_24 (by decide) (fun hc => absurd hc (fun z9 => of_decide_eq_false e1 (nI_inj9 (a := (f_pop ((nI w9).toInt64))) (b := m) (by omega) (by omega) z9))) (fun _ => ?_)
      refine a_goto 205 dX12_finds_27 (by decide) ?_
      refine a_iinc (y := nI (w9 + 1)) (lv' := [(4, .int (nI (w9 + 1))), (0, .ref (g_ad G 38)), (1, .int (nI so)), (2, .int (nI m)), (3, .int 0)]) 0 208 rfl dX12_finds_205 rfl (nI_1 w9) (by decide) rfl ?_
      refine a_goto 9 dX12_finds_208 (by decide) ?_
      refine a_sub (lv' := [(4, .int (nI (w9 + 1))), (0, .ref (g_ad G 38)), (1, .int (nI so)), (2, .int (nI m)), (3, .int 0)]) [0, 1, 2, 3, 4] rfl ?_
      exact k_w9 trivial
  · skip
    refine a_iload 0 11 rfl dX12_finds_9 rfl ?_
    refine a_iconst (x := 1) 12 rfl dX12_finds_11 (by decide) ?_
    refine a_iload_n 2 13 rfl dX12_finds_12 rfl rfl ?_
    refine a_ishl 14 rfl dX12_finds_13 ?_
    refine a_eq (st2 := [.int (nI (2 ^ so)), .int (nI (2 ^ so))]) rfl rfl (congrArg (fun z9 => Value.int z9 :: [.int (nI (2 ^ so))]) (f_shlI so (by omega))) rfl ?_
    refine a_icmp_ge 211 17 rfl dX12_finds_14 (by decide) (fun _ => ?_) (fun hc => absurd (nI_le (a := (2 ^ so)) (b := (2 ^ so)) (by omega) (by omega)) hc)
    exact a_return rfl (rfl) (rfl) dX12_finds_211
theorem r_finM1 (hs : so ≤ 16) (hm : m ≤ 100) : g_Run G mX12_finds 2 0 0 [.ref (g_ad G 38), .int (nI so), .int (nI m), .int 1] (g_hp G C (g_hm G M ++ ob)) none (g_hp G C (g_hm G (f_ml (f_mi M 2 (f_fin 1 (M.2.2.2.1 5) (M.2.2.2.2 2) so m (M.2.2.1 0) (2 ^ so)).1) 0 (f_fin 1 (M.2.2.2.1 5) (M.2.2.2.2 2) so m (M.2.2.1 0) (2 ^ so)).2) ++ ob)) := by
  have h2 : 2 ^ so ≤ 65536 := show 2 ^ so ≤ 2 ^ 16 from Nat.pow_le_pow_right (by decide) hs
  obtain ⟨F, eF⟩ : ∃ F, F = f_fin 1 (M.2.2.2.1 5) (M.2.2.2.2 2) so m (M.2.2.1 0) := ⟨_, rfl⟩
  have eS : ∀ w, F (w + 1) = cond (decide (f_pop (nI w).toInt64 = m)) (cond (decide ((F w).1 = -2) || decide (nI (f_cost 1 w (M.2.2.2.1 5) (M.2.2.2.2 2) so) < (F w).1)) (nI (f_cost 1 w (M.2.2.2.1 5) (M.2.2.2.2 2) so), f_own w (M.2.2.2.1 5) so) (F w)) (F w) := by rw [eF]; intro w; rfl
  have e0 : F 0 = (-2, M.2.2.1 0) := by rw [eF]; rfl
  rw [← eF]
  clear eF
  refine g_Run.of (lv := [(0, .ref (g_ad G 38)), (1, .int (nI so)), (2, .int (nI m)), (3, .int 1)]) (by decide) (Nat.le_of_ble_eq_true rfl) rfl ?_
  refine a_aload_n 0 1 rfl dX12_finds_0 rfl rfl ?_
  refine a_bipush (x := (-2)) 3 rfl dX12_finds_1 (by decide) ?_
  refine a_put (fs' := [.int (nI (M.1 0)), .int (nI (M.1 1)), .int (nI (M.1 2)), .int (nI (M.1 3)), .ref (g_ad G 39), .ref (g_ad G 40), .ref (g_ad G 41), .ref (g_ad G 42), .ref (g_ad G 43), .ref (g_ad G 44), .int (M.2.1 0), .ref (g_ad G 45), .int (nI (M.1 4)), .int (nI (M.1 5)), .int (M.2.1 1), .int ((-2)), .long (M.2.2.1 0), .ref (g_ad G 46), .ref (g_ad G 47), .ref (g_ad G 48), .int (nI (M.1 6)), .long (M.2.2.1 1), .int (nI (M.1 7)), .int (nI (M.1 8)), .ref (g_ad G 49), .ref (g_ad G 50), .int (nI (M.1 9)), .int (nI (M.1 10)), .int (nI (M.1 11)), .long (M.2.2.1 2), .ref (g_ad G 51), .ref (g_ad G 52), .ref (g_ad G 53), .ref (g_ad G 54), .ref (g_ad G 55), .ref (g_ad G 56), .ref (g_ad G 57), .ref (g_ad G 58), .ref (g_ad G 59), .ref (g_ad G 60), .ref (g_ad G 61), .ref (g_ad G 62), .int (nI (M.1 12))]) 15 cl_11 f_RX12_213_11 (by decide) (rfl) rfl rfl rfl (Nat.le_of_ble_eq_true rfl) rfl 6 rfl dX12_finds_3 ?_
  refine a_eq (h2 := g_hp G C (g_hm G (f_ml (f_mi M 2 (-2)) 0 (M.2.2.1 0)) ++ ob)) rfl rfl rfl (rfl) ?_
  refine a_eq (h2 := g_hp G C (g_hm G (f_ml (f_mi M 2 (F 0).1) 0 (F 0).2) ++ ob)) rfl rfl rfl (by rw [e0]) ?_
  refine a_iconst (x := 0) 7 rfl dX12_finds_6 (by decide) ?_
  refine a_istore (lv' := [(4, .int 0), (0, .ref (g_ad G 38)), (1, .int (nI so)), (2, .int (nI m)), (3, .int 1)]) 9 rfl dX12_finds_7 (by decide) rfl ?_
  refine a_sub (lv' := [(4, .int (nI 0)), (0, .ref (g_ad G 38)), (1, .int (nI so)), (2, .int (nI m)), (3, .int 1)]) [0, 1, 2, 3, 4] rfl ?_
  refine g_for (P := fun w9 => True) (2 ^ so) (fun w9 => [(4, .int (nI w9)), (0, .ref (g_ad G 38)), (1, .int (nI so)), (2, .int (nI m)), (3, .int 1)]) (fun w9 => g_hp G C (g_hm G (f_ml (f_mi M 2 (F w9).1) 0 (F w9).2) ++ ob)) (trivial) (fun w9 h_w9 p_w9 k_w9 => ?_) (fun p_w9 => ?_)
  · skip
    have hq := f_pop_le (nI w9).toInt64
    have eS9 := eS w9
    refine a_iload 0 11 rfl dX12_finds_9 rfl ?_
    refine a_iconst (x := 1) 12 rfl dX12_finds_11 (by decide) ?_
    refine a_iload_n 2 13 rfl dX12_finds_12 rfl rfl ?_
    refine a_ishl 14 rfl dX12_finds_13 ?_
    refine a_eq (st2 := [.int (nI (2 ^ so)), .int (nI w9)]) rfl rfl (congrArg (fun z9 => Value.int z9 :: [.int (nI w9)]) (f_shlI so (by omega))) rfl ?_
    refine a_icmp_ge 211 17 rfl dX12_finds_14 (by decide) (fun hc => absurd hc (nI_ge (a := w9) (b := (2 ^ so)) (by omega) (by omega))) (fun _ => ?_)
    refine a_iload 0 19 rfl dX12_finds_17 rfl ?_
    refine a_i2l 20 rfl dX12_finds_19 ?_
    refine a_callS (as := [.long ((nI w9).toInt64)]) (rest := []) (st2 := [.int (nI (f_pop ((nI w9).toInt64)))]) (u1 := 0) (v1 := 0) (u2 := 0) (v2 := 0) (r_many) oX12_many q_1311 q_1312 rfl (by omega) (by decide) rfl (Nat.le_of_ble_eq_true rfl) 23 rfl dX12_finds_20 rfl ?_
    refine a_iload_n 3 24 rfl dX12_finds_23 rfl rfl ?_
    rcases Bool.eq_false_or_eq_true (decide (f_pop (nI w9).toInt64 = m)) with e1 | e1
    · rw [e1, cond_true] at eS9
      refine a_icmp_eq 30 27 rfl dX12_finds_24 (by decide) (fun _ => ?_) (fun hc => absurd (congrArg nI (of_decide_eq_true e1)) hc)
      refine a_lconst (x := 0) 31 rfl dX12_finds_30 (by decide) ?_
      refine a_lstore (lv' := [(5, .long 0), (4, .int (nI w9)), (0, .ref (g_ad G 38)), (1, .int (nI so)), (2, .int (nI m)), (3, .int 1)]) 33 rfl dX12_finds_31 (by decide) rfl ?_
      refine a_lconst (x := 0) 34 rfl dX12_finds_33 (by decide) ?_
      refine a_lstore (lv' := [(7, .long 0), (5, .long 0), (4, .int (nI w9)), (0, .ref (g_ad G 38)), (1, .int (nI so)), (2, .int (nI m)), (3, .int 1)]) 36 rfl dX12_finds_34 (by decide) rfl ?_
      refine a_iconst (x := 0) 37 rfl dX12_finds_36 (by decide) ?_
      refine a_istore (lv' := [(9, .int 0), (7, .long 0), (5, .long 0), (4, .int (nI w9)), (0, .ref (g_ad G 38)), (1, .int (nI so)), (2, .int (nI m)), (3, .int 1)]) 39 rfl dX12_finds_37 (by decide) rfl ?_
      refine a_sub (lv' := [(9, .int (nI 0)), (5, .long (f_own w9 (M.2.2.2.1 5) 0)), (7, .long (f_tou w9 (M.2.2.2.2 2) 0)), (4, .int (nI w9)), (0, .ref (g_ad G 38)), (1, .int (nI so)), (2, .int (nI m)), (3, .int 1)]) [0, 2, 1, 3, 4, 5, 6, 7] rfl ?_
      refine g_for (P := fun k9 => True) so (fun k9 => [(9, .int (nI k9)), (5, .long (f_own w9 (M.2.2.2.1 5) k9)), (7, .long (f_tou w9 (M.2.2.2.2 2) k9)), (4, .int (nI w9)), (0, .ref (g_ad G 38)), (1, .int (nI so)), (2, .int (nI m)), (3, .int 1)]) (fun k9 => (g_hp G C (g_hm G (f_ml (f_mi M 2 ((F w9).1)) 0 ((F w9).2)) ++ ob))) (trivial) (fun k9 h_k9 p_k9 k_k9 => ?_) (fun p_k9 => ?_)
      · skip
        refine a_iload 0 41 rfl dX12_finds_39 rfl ?_
        refine a_iload_n 5 42 rfl dX12_finds_41 rfl rfl ?_
        refine a_icmp_ge 88 45 rfl dX12_finds_42 (by decide) (fun hc => absurd hc (nI_ge (a := k9) (b := so) (by omega) (by omega))) (fun _ => ?_)
        refine a_iload 3 47 rfl dX12_finds_45 rfl ?_
        refine a_iload 0 49 rfl dX12_finds_47 rfl ?_
        refine a_ishr 50 rfl dX12_finds_49 ?_
        refine a_iconst (x := 1) 51 rfl dX12_finds_50 (by decide) ?_
        refine a_iand 52 rfl dX12_finds_51 ?_
        refine a_eq (st2 := [.int (f_i (Nat.testBit w9 k9))]) rfl rfl (congrArg (fun z9 => Value.int z9 :: []) (f_tbI (s := w9) (e := k9) (by omega) (by omega))) rfl ?_
        refine a_iconst (x := 1) 53 rfl dX12_finds_52 (by decide) ?_
        refine g_sfx (pc := 82) (lv := [(7, .long (cond (Nat.testBit w9 k9) ((f_tou w9 (M.2.2.2.2 2) k9) ||| ((M.2.2.2.2 2) k9)) (f_tou w9 (M.2.2.2.2 2) k9))), (5, .long (cond (Nat.testBit w9 k9) ((f_own w9 (M.2.2.2.1 5) k9) ||| (f_sl (1 : Int64) ((M.2.2.2.1 5) k9))) (f_own w9 (M.2.2.2.1 5) k9))), (9, .int (nI k9)), (4, .int (nI w9)), (0, .ref (g_ad G 38)), (1, .int (nI so)), (2, .int (nI m)), (3, .int 1)]) (st := []) (h := (g_hp G C (g_hm G (f_ml (f_mi M 2 ((F w9).1)) 0 ((F w9).2)) ++ ob))) (fun key => ?_) ?_
        · skip
          rcases Bool.eq_false_or_eq_true ((Nat.testBit w9 k9)) with c53_1 | c53_1
          · skip
            refine a_icmp_ne 82 56 rfl dX12_finds_53 (by decide) (fun hc => absurd (f_i_T1 c53_1) hc) (fun _ => ?_)
            refine a_lload 1 58 rfl dX12_finds_56 rfl ?_
            refine a_lconst (x := 1) 59 rfl dX12_finds_58 (by decide) ?_
            refine a_aload_n 4 60 rfl dX12_finds_59 rfl rfl ?_
            refine a_get 17 cl_11 f_RX12_38_11 (by decide) (rfl) rfl 63 rfl dX12_finds_60 ?_
            refine a_iload 0 65 rfl dX12_finds_63 rfl ?_
            refine a_iald (rfl) (vp_in_nI (n := k9) (by omega) (by omega)) 66 rfl dX12_finds_65 ?_
            refine a_eq (st2 := [.int ((M.2.2.2.1 5) k9), .long 1, .long (f_own w9 (M.2.2.2.1 5) k9)]) rfl rfl (congrArg (fun z9 => Value.int z9 :: [.long 1, .long (f_own w9 (M.2.2.2.1 5) k9)]) (congrArg (M.2.2.2.1 5) (g_cl (by omega)))) rfl ?_
            refine a_lshl 67 rfl dX12_finds_66 ?_
            refine a_lor 68 rfl dX12_finds_67 ?_
            refine a_lstore (lv' := [(5, .long ((f_own w9 (M.2.2.2.1 5) k9) ||| (f_sl (1 : Int64) ((M.2.2.2.1 5) k9)))), (9, .int (nI k9)), (7, .long (f_tou w9 (M.2.2.2.2 2) k9)), (4, .int (nI w9)), (0, .ref (g_ad G 38)), (1, .int (nI so)), (2, .int (nI m)), (3, .int 1)]) 70 rfl dX12_finds_68 (by decide) rfl ?_
            refine a_lload 2 72 rfl dX12_finds_70 rfl ?_
            refine a_aload_n 4 73 rfl dX12_finds_72 rfl rfl ?_
            refine a_get 18 cl_11 f_RX12_41_11 (by decide) (rfl) rfl 76 rfl dX12_finds_73 ?_
            refine a_iload 1 78 rfl dX12_finds_76 rfl ?_
            refine a_lald (rfl) (vp_in_nI (n := k9) (by omega) (by omega)) 79 rfl dX12_finds_78 ?_
            refine a_eq (st2 := [.long ((M.2.2.2.2 2) k9), .long (f_tou w9 (M.2.2.2.2 2) k9)]) rfl rfl (congrArg (fun z9 => Value.long z9 :: [.long (f_tou w9 (M.2.2.2.2 2) k9)]) (congrArg (M.2.2.2.2 2) (g_cl (by omega)))) rfl ?_
            refine a_lor 80 rfl dX12_finds_79 ?_
            refine a_lstore (lv' := [(7, .long ((f_tou w9 (M.2.2.2.2 2) k9) ||| ((M.2.2.2.2 2) k9))), (5, .long ((f_own w9 (M.2.2.2.1 5) k9) ||| (f_sl (1 : Int64) ((M.2.2.2.1 5) k9)))), (9, .int (nI k9)), (4, .int (nI w9)), (0, .ref (g_ad G 38)), (1, .int (nI so)), (2, .int (nI m)), (3, .int 1)]) 82 rfl dX12_finds_80 (by decide) rfl ?_
            exact a_eq rfl (by rw [c53_1]; rfl) (rfl) rfl key
          · skip
            refine a_icmp_ne 82 56 rfl dX12_finds_53 (by decide) (fun _ => ?_) (fun hc => absurd hc (f_i_F1 c53_1))
            refine a_sub (lv' := [(7, .long (f_tou w9 (M.2.2.2.2 2) k9)), (5, .long (f_own w9 (M.2.2.2.1 5) k9)), (9, .int (nI k9)), (4, .int (nI w9)), (0, .ref (g_ad G 38)), (1, .int (nI so)), (2, .int (nI m)), (3, .int 1)]) [2, 1, 0, 3, 4, 5, 6, 7] rfl ?_
            exact a_eq rfl (by rw [c53_1]; rfl) (rfl) rfl key
        refine a_iinc (y := nI (k9 + 1)) (lv' := [(9, .int (nI (k9 + 1))), (7, .long (cond (Nat.testBit w9 k9) ((f_tou w9 (M.2.2.2.2 2) k9) ||| ((M.2.2.2.2 2) k9)) (f_tou w9 (M.2.2.2.2 2) k9))), (5, .long (cond (Nat.testBit w9 k9) ((f_own w9 (M.2.2.2.1 5) k9) ||| (f_sl (1 : Int64) ((M.2.2.2.1 5) k9))) (f_own w9 (M.2.2.2.1 5) k9))), (4, .int (nI w9)), (0, .ref (g_ad G 38)), (1, .int (nI so)), (2, .int (nI m)), (3, .int 1)]) 2 85 rfl dX12_finds_82 rfl (nI_1 k9) (by decide) rfl ?_
        refine a_goto 39 dX12_finds_85 (by decide) ?_
        refine a_sub (lv' := [(9, .int (nI (k9 + 1))), (5, .long (f_own w9 (M.2.2.2.1 5) (k9 + 1))), (7, .long (f_tou w9 (M.2.2.2.2 2) (k9 + 1))), (4, .int (nI w9)), (0, .ref (g_ad G 38)), (1, .int (nI so)), (2, .int (nI m)), (3, .int 1)]) [0, 2, 1, 3, 4, 5, 6, 7] rfl ?_
        exact k_k9 trivial
      · skip
        refine a_iload 0 41 rfl dX12_finds_39 rfl ?_
        refine a_iload_n 5 42 rfl dX12_finds_41 rfl rfl ?_
        refine a_icmp_ge 88 45 rfl dX12_finds_42 (by decide) (fun _ => ?_) (fun hc => absurd (nI_le (a := so) (b := so) (by omega) (by omega)) hc)
        refine a_iload_n 7 89 rfl dX12_finds_88 rfl rfl ?_
        refine a_iconst (x := 2) 90 rfl dX12_finds_89 (by decide) ?_
        refine a_icmp_ne 101 93 rfl dX12_finds_90 (by decide) (fun _ => ?_) (fun hc => absurd hc ((by decide)))
        refine a_lload 2 103 rfl dX12_finds_101 rfl ?_
        refine a_lload 1 105 rfl dX12_finds_103 rfl ?_
        refine a_ldc2 q_1260 108 rfl dX12_finds_105 ?_
        refine a_lxor 109 rfl dX12_finds_108 ?_
        refine a_land 110 rfl dX12_finds_109 ?_
        refine a_callS (as := [.long ((f_tou w9 (M.2.2.2.2 2) so) &&& ((f_own w9 (M.2.2.2.1 5) so) ^^^ (-1)))]) (rest := []) (st2 := [.int (nI (f_pop ((f_tou w9 (M.2.2.2.2 2) so) &&& ((f_own w9 (M.2.2.2.1 5) so) ^^^ (-1)))))]) (u1 := 0) (v1 := 0) (u2 := 0) (v2 := 0) (r_many) oX12_many q_1311 q_1312 rfl (by omega) (by decide) rfl (Nat.le_of_ble_eq_true rfl) 113 rfl dX12_finds_110 rfl ?_
        refine a_istore (lv' := [(9, .int (nI (f_pop ((f_tou w9 (M.2.2.2.2 2) so) &&& ((f_own w9 (M.2.2.2.1 5) so) ^^^ (-1)))))), (5, .long (f_own w9 (M.2.2.2.1 5) so)), (7, .long (f_tou w9 (M.2.2.2.2 2) so)), (4, .int (nI w9)), (0, .ref (g_ad G 38)), (1, .int (nI so)), (2, .int (nI m)), (3, .int 1)]) 115 rfl dX12_finds_113 (by decide) rfl ?_
        refine a_iload_n 7 116 rfl dX12_finds_115 rfl rfl ?_
        refine a_iconst (x := 1) 117 rfl dX12_finds_116 (by decide) ?_
        refine a_icmp_ne 175 120 rfl dX12_finds_117 (by decide) (fun hc => absurd ((by decide)) hc) (fun _ => ?_)
        refine a_iconst (x := 0) 121 rfl dX12_finds_120 (by decide) ?_
        refine a_istore (lv' := [(9, .int 0), (5, .long (f_own w9 (M.2.2.2.1 5) so)), (7, .long (f_tou w9 (M.2.2.2.2 2) so)), (4, .int (nI w9)), (0, .ref (g_ad G 38)), (1, .int (nI so)), (2, .int (nI m)), (3, .int 1)]) 123 rfl dX12_finds_121 (by decide) rfl ?_
        refine a_iconst (x := 0) 124 rfl dX12_finds_123 (by decide) ?_
        refine a_istore (lv' := [(10, .int 0), (9, .int 0), (5, .long (f_own w9 (M.2.2.2.1 5) so)), (7, .long (f_tou w9 (M.2.2.2.2 2) so)), (4, .int (nI w9)), (0, .ref (g_ad G 38)), (1, .int (nI so)), (2, .int (nI m)), (3, .int 1)]) 126 rfl dX12_finds_124 (by decide) rfl ?_
        refine a_sub (lv' := [(10, .int (nI 0)), (9, .int (nI (f_sC w9 (M.2.2.2.2 2) (f_own w9 (M.2.2.2.1 5) so) 0))), (5, .long (f_own w9 (M.2.2.2.1 5) so)), (4, .int (nI w9)), (0, .ref (g_ad G 38)), (1, .int (nI so)), (2, .int (nI m)), (3, .int 1)]) [0, 1, 2, 4, 5, 6, 7, 8] rfl ?_
        refine g_for (P := fun v9 => True) so (fun v9 => [(10, .int (nI v9)), (9, .int (nI (f_sC w9 (M.2.2.2.2 2) (f_own w9 (M.2.2.2.1 5) so) v9))), (5, .long (f_own w9 (M.2.2.2.1 5) so)), (4, .int (nI w9)), (0, .ref (g_ad G 38)), (1, .int (nI so)), (2, .int (nI m)), (3, .int 1)]) (fun v9 => (g_hp G C (g_hm G (f_ml (f_mi M 2 ((F w9).1)) 0 ((F w9).2)) ++ ob))) (trivial) (fun v9 h_v9 p_v9 k_v9 => ?_) (fun p_v9 => ?_)
        · skip
          refine a_iload 0 128 rfl dX12_finds_126 rfl ?_
          refine a_iload_n 5 129 rfl dX12_finds_128 rfl rfl ?_
          refine a_icmp_ge 175 132 rfl dX12_finds_129 (by decide) (fun hc => absurd hc (nI_ge (a := v9) (b := so) (by omega) (by omega))) (fun _ => ?_)
          refine a_iload 1 134 rfl dX12_finds_132 rfl ?_
          refine a_iload 3 136 rfl dX12_finds_134 rfl ?_
          refine a_iload 0 138 rfl dX12_finds_136 rfl ?_
          refine a_ishr 139 rfl dX12_finds_138 ?_
          refine a_iconst (x := 1) 140 rfl dX12_finds_139 (by decide) ?_
          refine a_iand 141 rfl dX12_finds_140 ?_
          refine a_eq (st2 := [.int (f_i (Nat.testBit w9 v9)), .int (nI (f_sC w9 (M.2.2.2.2 2) (f_own w9 (M.2.2.2.1 5) so) v9))]) rfl rfl (congrArg (fun z9 => Value.int z9 :: [.int (nI (f_sC w9 (M.2.2.2.2 2) (f_own w9 (M.2.2.2.1 5) so) v9))]) (f_tbI (s := w9) (e := v9) (by omega) (by omega))) rfl ?_
          refine a_iconst (x := 1) 142 rfl dX12_finds_141 (by decide) ?_
          refine g_sfx (pc := 166) (lv := [(10, .int (nI v9)), (9, .int (nI (f_sC w9 (M.2.2.2.2 2) (f_own w9 (M.2.2.2.1 5) so) v9))), (5, .long (f_own w9 (M.2.2.2.1 5) so)), (4, .int (nI w9)), (0, .ref (g_ad G 38)), (1, .int (nI so)), (2, .int (nI m)), (3, .int 1)]) (st := [.int (nI (cond (Nat.testBit w9 v9) (f_pop (((M.2.2.2.2 2) v9) &&& ((f_own w9 (M.2.2.2.1 5) so) ^^^ (-1)))) 0)), .int (nI (f_sC w9 (M.2.2.2.2 2) (f_own w9 (M.2.2.2.1 5) so) v9))]) (h := (g_hp G C (g_hm G (f_ml (f_mi M 2 ((F w9).1)) 0 ((F w9).2)) ++ ob))) (fun key => ?_) ?_
          · skip
            rcases Bool.eq_false_or_eq_true ((Nat.testBit w9 v9)) with c142_1 | c142_1
            · skip
              refine a_icmp_ne 165 145 rfl dX12_finds_142 (by decide) (fun hc => absurd (f_i_T1 c142_1) hc) (fun _ => ?_)
              refine a_aload_n 4 146 rfl dX12_finds_145 rfl rfl ?_
              refine a_get 18 cl_11 f_RX12_41_11 (by decide) (rfl) rfl 149 rfl dX12_finds_146 ?_
              refine a_iload 0 151 rfl dX12_finds_149 rfl ?_
              refine a_lald (rfl) (vp_in_nI (n := v9) (by omega) (by omega)) 152 rfl dX12_finds_151 ?_
              refine a_eq (st2 := [.long ((M.2.2.2.2 2) v9), .int (nI (f_sC w9 (M.2.2.2.2 2) (f_own w9 (M.2.2.2.1 5) so) v9))]) rfl rfl (congrArg (fun z9 => Value.long z9 :: [.int (nI (f_sC w9 (M.2.2.2.2 2) (f_own w9 (M.2.2.2.1 5) so) v9))]) (congrArg (M.2.2.2.2 2) (g_cl (by omega)))) rfl ?_
              refine a_lload 2 154 rfl dX12_finds_152 rfl ?_
              refine a_ldc2 q_1260 157 rfl dX12_finds_154 ?_
              refine a_lxor 158 rfl dX12_finds_157 ?_
              refine a_land 159 rfl dX12_finds_158 ?_
              refine a_callS (as := [.long (((M.2.2.2.2 2) v9) &&& ((f_own w9 (M.2.2.2.1 5) so) ^^^ (-1)))]) (rest := [.int (nI (f_sC w9 (M.2.2.2.2 2) (f_own w9 (M.2.2.2.1 5) so) v9))]) (st2 := [.int (nI (f_pop (((M.2.2.2.2 2) v9) &&& ((f_own w9 (M.2.2.2.1 5) so) ^^^ (-1))))), .int (nI (f_sC w9 (M.2.2.2.2 2) (f_own w9 (M.2.2.2.1 5) so) v9))]) (u1 := 0) (v1 := 0) (u2 := 0) (v2 := 0) (r_many) oX12_many q_1311 q_1312 rfl (by omega) (by decide) rfl (Nat.le_of_ble_eq_true rfl) 162 rfl dX12_finds_159 rfl ?_
              refine a_goto 166 dX12_finds_162 (by decide) ?_
              exact a_eq rfl (rfl) (by rw [c142_1]; rfl) rfl key
            · skip
              refine a_icmp_ne 165 145 rfl dX12_finds_142 (by decide) (fun _ => ?_) (fun hc => absurd hc (f_i_F1 c142_1))
              refine a_iconst (x := 0) 166 rfl dX12_finds_165 (by decide) ?_
              exact a_eq rfl (rfl) (by rw [c142_1]; rfl) rfl key
          refine a_iadd 167 rfl dX12_finds_166 ?_
          refine a_eq (st2 := [.int (nI ((f_sC w9 (M.2.2.2.2 2) (f_own w9 (M.2.2.2.1 5) so) v9) + (cond (Nat.testBit w9 v9) (f_pop (((M.2.2.2.2 2) v9) &&& ((f_own w9 (M.2.2.2.1 5) so) ^^^ (-1)))) 0)))]) rfl rfl (congrArg (fun z9 => Value.int z9 :: []) (nI_add (f_sC w9 (M.2.2.2.2 2) (f_own w9 (M.2.2.2.1 5) so) v9) (cond (Nat.testBit w9 v9) (f_pop (((M.2.2.2.2 2) v9) &&& ((f_own w9 (M.2.2.2.1 5) so) ^^^ (-1)))) 0))) rfl ?_
          refine a_istore (lv' := [(9, .int (nI ((f_sC w9 (M.2.2.2.2 2) (f_own w9 (M.2.2.2.1 5) so) v9) + (cond (Nat.testBit w9 v9) (f_pop (((M.2.2.2.2 2) v9) &&& ((f_own w9 (M.2.2.2.1 5) so) ^^^ (-1)))) 0)))), (10, .int (nI v9)), (5, .long (f_own w9 (M.2.2.2.1 5) so)), (4, .int (nI w9)), (0, .ref (g_ad G 38)), (1, .int (nI so)), (2, .int (nI m)), (3, .int 1)]) 169 rfl dX12_finds_167 (by decide) rfl ?_
          refine a_iinc (y := nI (v9 + 1)) (lv' := [(10, .int (nI (v9 + 1))), (9, .int (nI ((f_sC w9 (M.2.2.2.2 2) (f_own w9 (M.2.2.2.1 5) so) v9) + (cond (Nat.testBit w9 v9) (f_pop (((M.2.2.2.2 2) v9) &&& ((f_own w9 (M.2.2.2.1 5) so) ^^^ (-1)))) 0)))), (5, .long (f_own w9 (M.2.2.2.1 5) so)), (4, .int (nI w9)), (0, .ref (g_ad G 38)), (1, .int (nI so)), (2, .int (nI m)), (3, .int 1)]) 1 172 rfl dX12_finds_169 rfl (nI_1 v9) (by decide) rfl ?_
          refine a_goto 126 dX12_finds_172 (by decide) ?_
          refine a_sub (lv' := [(10, .int (nI (v9 + 1))), (9, .int (nI (f_sC w9 (M.2.2.2.2 2) (f_own w9 (M.2.2.2.1 5) so) (v9 + 1)))), (5, .long (f_own w9 (M.2.2.2.1 5) so)), (4, .int (nI w9)), (0, .ref (g_ad G 38)), (1, .int (nI so)), (2, .int (nI m)), (3, .int 1)]) [0, 1, 2, 3, 4, 5, 6, 7] rfl ?_
          exact k_v9 trivial
        · skip
          refine a_iload 0 128 rfl dX12_finds_126 rfl ?_
          refine a_iload_n 5 129 rfl dX12_finds_128 rfl rfl ?_
          refine a_icmp_ge 175 132 rfl dX12_finds_129 (by decide) (fun _ => ?_) (fun hc => absurd (nI_le (a := so) (b := so) (by omega) (by omega)) hc)
          refine a_eq (lv2 := [(10, .int (nI so)), (9, .int (nI (f_cost 1 w9 (M.2.2.2.1 5) (M.2.2.2.2 2) so))), (5, .long (f_own w9 (M.2.2.2.1 5) so)), (4, .int (nI w9)), (0, .ref (g_ad G 38)), (1, .int (nI so)), (2, .int (nI m)), (3, .int 1)]) rfl (congrArg (fun z9 => ([(10, .int (nI so)), (9, .int z9), (5, .long (f_own w9 (M.2.2.2.1 5) so)), (4, .int (nI w9)), (0, .ref (g_ad G 38)), (1, .int (nI so)), (2, .int (nI m)), (3, .int 1)] : List (Nat × Value))) (rfl)) rfl rfl ?_
          refine a_aload_n 4 176 rfl dX12_finds_175 rfl rfl ?_
          refine a_get 15 cl_11 f_RX12_213_11 (by decide) (rfl) rfl 179 rfl dX12_finds_176 ?_
          refine a_bipush (x := (-2)) 181 rfl dX12_finds_179 (by decide) ?_
          rcases Bool.eq_false_or_eq_true (decide ((F w9).1 = -2)) with e2 | e2
          · rw [e2, Bool.true_or, cond_true] at eS9
            refine a_icmp_eq 193 184 rfl dX12_finds_181 (by decide) (fun _ => ?_) (fun hc => absurd (of_decide_eq_true e2) hc)
            refine a_aload_n 4 194 rfl dX12_finds_193 rfl rfl ?_
            refine a_iload 1 196 rfl dX12_finds_194 rfl ?_
            refine a_put (fs' := [.int (nI (M.1 0)), .int (nI (M.1 1)), .int (nI (M.1 2)), .int (nI (M.1 3)), .ref (g_ad G 39), .ref (g_ad G 40), .ref (g_ad G 41), .ref (g_ad G 42), .ref (g_ad G 43), .ref (g_ad G 44), .int (M.2.1 0), .ref (g_ad G 45), .int (nI (M.1 4)), .int (nI (M.1 5)), .int (M.2.1 1), .int (nI (f_cost 1 w9 (M.2.2.2.1 5) (M.2.2.2.2 2) so)), .long ((F w9).2), .ref (g_ad G 46), .ref (g_ad G 47), .ref (g_ad G 48), .int (nI (M.1 6)), .long (M.2.2.1 1), .int (nI (M.1 7)), .int (nI (M.1 8)), .ref (g_ad G 49), .ref (g_ad G 50), .int (nI (M.1 9)), .int (nI (M.1 10)), .int (nI (M.1 11)), .long (M.2.2.1 2), .ref (g_ad G 51), .ref (g_ad G 52), .ref (g_ad G 53), .ref (g_ad G 54), .ref (g_ad G 55), .ref (g_ad G 56), .ref (g_ad G 57), .ref (g_ad G 58), .ref (g_ad G 59), .ref (g_ad G 60), .ref (g_ad G 61), .ref (g_ad G 62), .int (nI (M.1 12))]) 15 cl_11 f_RX12_213_11 (by decide) (rfl) rfl rfl rfl (Nat.le_of_ble_eq_true rfl) rfl 199 rfl dX12_finds_196 ?_
            refine a_aload_n 4 200 rfl dX12_finds_199 rfl rfl ?_
            refine a_lload 2 202 rfl dX12_finds_200 rfl ?_
            refine a_put (fs' := [.int (nI (M.1 0)), .int (nI (M.1 1)), .int (nI (M.1 2)), .int (nI (M.1 3)), .ref (g_ad G 39), .ref (g_ad G 40), .ref (g_ad G 41), .ref (g_ad G 42), .ref (g_ad G 43), .ref (g_ad G 44), .int (M.2.1 0), .ref (g_ad G 45), .int (nI (M.1 4)), .int (nI (M.1 5)), .int (M.2.1 1), .int (nI (f_cost 1 w9 (M.2.2.2.1 5) (M.2.2.2.2 2) so)), .long (f_own w9 (M.2.2.2.1 5) so), .ref (g_ad G 46), .ref (g_ad G 47), .ref (g_ad G 48), .int (nI (M.1 6)), .long (M.2.2.1 1), .int (nI (M.1 7)), .int (nI (M.1 8)), .ref (g_ad G 49), .ref (g_ad G 50), .int (nI (M.1 9)), .int (nI (M.1 10)), .int (nI (M.1 11)), .long (M.2.2.1 2), .ref (g_ad G 51), .ref (g_ad G 52), .ref (g_ad G 53), .ref (g_ad G 54), .ref (g_ad G 55), .ref (g_ad G 56), .ref (g_ad G 57), .ref (g_ad G 58), .ref (g_ad G 59), .ref (g_ad G 60), .ref (g_ad G 61), .ref (g_ad G 62), .int (nI (M.1 12))]) 16 cl_11 f_RX12_216_11 (by decide) (g_set_eq (rfl)) rfl rfl rfl (Nat.le_of_ble_eq_true rfl) rfl 205 rfl dX12_finds_202 ?_
            refine a_eq (h2 := g_hp G C (g_hm G (f_ml (f_mi M 2 (nI (f_cost 1 w9 (M.2.2.2.1 5) (M.2.2.2.2 2) so))) 0 (f_own w9 (M.2.2.2.1 5) so)) ++ ob)) rfl rfl rfl (rfl) ?_
            rw [eS9] at k_w9
            refine a_iinc (y := nI (w9 + 1)) (lv' := [(4, .int (nI (w9 + 1))), (10, .int (nI so)), (9, .int (nI (f_cost 1 w9 (M.2.2.2.1 5) (M.2.2.2.2 2) so))), (5, .long (f_own w9 (M.2.2.2.1 5) so)), (0, .ref (g_ad G 38)), (1, .int (nI so)), (2, .int (nI m)), (3, .int 1)]) 3 208 rfl dX12_finds_205 rfl (nI_1 w9) (by decide) rfl ?_
            refine a_goto 9 dX12_finds_208 (by decide) ?_
            refine a_sub (lv' := [(4, .int (nI (w9 + 1))), (0, .ref (g_ad G 38)), (1, .int (nI so)), (2, .int (nI m)), (3, .int 1)]) [0, 4, 5, 6, 7] rfl ?_
            exact k_w9 trivial
          · rw [e2, Bool.false_or] at eS9
            refine a_icmp_eq 193 184 rfl dX12_finds_181 (by decide) (fun hc => absurd hc (of_decide_eq_false e2)) (fun _ => ?_)
            refine a_iload 1 186 rfl dX12_finds_184 rfl ?_
            refine a_aload_n 4 187 rfl dX12_finds_186 rfl rfl ?_
            refine a_get 15 cl_11 f_RX12_213_11 (by decide) (rfl) rfl 190 rfl dX12_finds_187 ?_
            rcases Bool.eq_false_or_eq_true (decide ((F w9).1 ≤ nI (f_cost 1 w9 (M.2.2.2.1 5) (M.2.2.2.2 2) so))) with e3 | e3
            · rw [decide_eq_false (Int32.not_lt.mpr (of_decide_eq_true e3)), cond_false] at eS9
              rw [eS9] at k_w9
              refine a_icmp_ge 205 193 rfl dX12_finds_190 (by decide) (fun _ => ?_) (fun hc => absurd (of_decide_eq_true e3) hc)
              refine a_iinc (y := nI (w9 + 1)) (lv' := [(4, .int (nI (w9 + 1))), (10, .int (nI so)), (9, .int (nI (f_cost 1 w9 (M.2.2.2.1 5) (M.2.2.2.2 2) so))), (5, .long (f_own w9 (M.2.2.2.1 5) so)), (0, .ref (g_ad G 38)), (1, .int (nI so)), (2, .int (nI m)), (3, .int 1)]) 3 208 rfl dX12_finds_205 rfl (nI_1 w9) (by decide) rfl ?_
              refine a_goto 9 dX12_finds_208 (by decide) ?_
              refine a_sub (lv' := [(4, .int (nI (w9 + 1))), (0, .ref (g_ad G 38)), (1, .int (nI so)), (2, .int (nI m)), (3, .int 1)]) [0, 4, 5, 6, 7] rfl ?_
              exact k_w9 trivial
            · rw [decide_eq_true (Int32.not_le.mp (of_decide_eq_false e3)), cond_true] at eS9
              refine a_icmp_ge 205 193 rfl dX12_finds_190 (by decide) (fun hc => absurd hc (of_decide_eq_false e3)) (fun _ => ?_)
              refine a_aload_n 4 194 rfl dX12_finds_193 rfl rfl ?_
              refine a_iload 1 196 rfl dX12_finds_194 rfl ?_
              refine a_put (fs' := [.int (nI (M.1 0)), .int (nI (M.1 1)), .int (nI (M.1 2)), .int (nI (M.1 3)), .ref (g_ad G 39), .ref (g_ad G 40), .ref (g_ad G 41), .ref (g_ad G 42), .ref (g_ad G 43), .ref (g_ad G 44), .int (M.2.1 0), .ref (g_ad G 45), .int (nI (M.1 4)), .int (nI (M.1 5)), .int (M.2.1 1), .int (nI (f_cost 1 w9 (M.2.2.2.1 5) (M.2.2.2.2 2) so)), .long ((F w9).2), .ref (g_ad G 46), .ref (g_ad G 47), .ref (g_ad G 48), .int (nI (M.1 6)), .long (M.2.2.1 1), .int (nI (M.1 7)), .int (nI (M.1 8)), .ref (g_ad G 49), .ref (g_ad G 50), .int (nI (M.1 9)), .int (nI (M.1 10)), .int (nI (M.1 11)), .long (M.2.2.1 2), .ref (g_ad G 51), .ref (g_ad G 52), .ref (g_ad G 53), .ref (g_ad G 54), .ref (g_ad G 55), .ref (g_ad G 56), .ref (g_ad G 57), .ref (g_ad G 58), .ref (g_ad G 59), .ref (g_ad G 60), .ref (g_ad G 61), .ref (g_ad G 62), .int (nI (M.1 12))]) 15 cl_11 f_RX12_213_11 (by decide) (rfl) rfl rfl rfl (Nat.le_of_ble_eq_true rfl) rfl 199 rfl dX12_finds_196 ?_
              refine a_aload_n 4 200 rfl dX12_finds_199 rfl rfl ?_
              refine a_lload 2 202 rfl dX12_finds_200 rfl ?_
              refine a_put (fs' := [.int (nI (M.1 0)), .int (nI (M.1 1)), .int (nI (M.1 2)), .int (nI (M.1 3)), .ref (g_ad G 39), .ref (g_ad G 40), .ref (g_ad G 41), .ref (g_ad G 42), .ref (g_ad G 43), .ref (g_ad G 44), .int (M.2.1 0), .ref (g_ad G 45), .int (nI (M.1 4)), .int (nI (M.1 5)), .int (M.2.1 1), .int (nI (f_cost 1 w9 (M.2.2.2.1 5) (M.2.2.2.2 2) so)), .long (f_own w9 (M.2.2.2.1 5) so), .ref (g_ad G 46), .ref (g_ad G 47), .ref (g_ad G 48), .int (nI (M.1 6)), .long (M.2.2.1 1), .int (nI (M.1 7)), .int (nI (M.1 8)), .ref (g_ad G 49), .ref (g_ad G 50), .int (nI (M.1 9)), .int (nI (M.1 10)), .int (nI (M.1 11)), .long (M.2.2.1 2), .ref (g_ad G 51), .ref (g_ad G 52), .ref (g_ad G 53), .ref (g_ad G 54), .ref (g_ad G 55), .ref (g_ad G 56), .ref (g_ad G 57), .ref (g_ad G 58), .ref (g_ad G 59), .ref (g_ad G 60), .ref (g_ad G 61), .ref (g_ad G 62), .int (nI (M.1 12))]) 16 cl_11 f_RX12_216_11 (by decide) (g_set_eq (rfl)) rfl rfl rfl (Nat.le_of_ble_eq_true rfl) rfl 205 rfl dX12_finds_202 ?_
              refine a_eq (h2 := g_hp G C (g_hm G (f_ml (f_mi M 2 (nI (f_cost 1 w9 (M.2.2.2.1 5) (M.2.2.2.2 2) so))) 0 (f_own w9 (M.2.2.2.1 5) so)) ++ ob)) rfl rfl rfl (rfl) ?_
              rw [eS9] at k_w9
              refine a_iinc (y := nI (w9 + 1)) (lv' := [(4, .int (nI (w9 + 1))), (10, .int (nI so)), (9, .int (nI (f_cost 1 w9 (M.2.2.2.1 5) (M.2.2.2.2 2) so))), (5, .long (f_own w9 (M.2.2.2.1 5) so)), (0, .ref (g_ad G 38)), (1, .int (nI so)), (2, .int (nI m)), (3, .int 1)]) 3 208 rfl dX12_finds_205 rfl (nI_1 w9) (by decide) rfl ?_
              refine a_goto 9 dX12_finds_208 (by decide) ?_
              refine a_sub (lv' := [(4, .int (nI (w9 + 1))), (0, .ref (g_ad G 38)), (1, .int (nI so)), (2, .int (nI m)), (3, .int 1)]) [0, 4, 5, 6, 7] rfl ?_
              exact k_w9 trivial
    · rw [e1, cond_false] at eS9
      rw [eS9] at k_w9
      refine a_icmp_eq 30 27 rfl dX12_finds_24 (by decide) (fun hc => absurd hc (fun z9 => of_decide_eq_false e1 (nI_inj9 (a := (f_pop ((nI w9).toInt64))) (b := m) (by omega) (by omega) z9))) (fun _ => ?_)
      refine a_goto 205 dX12_finds_27 (by decide) ?_
      refine a_iinc (y := nI (w9 + 1)) (lv' := [(4, .int (nI (w9 + 1))), (0, .ref (g_ad G 38)), (1, .int (nI so)), (2, .int (nI m)), (3, .int 1)]) 0 208 rfl dX12_finds_205 rfl (nI_1 w9) (by decide) rfl ?_
      refine a_goto 9 dX12_finds_208 (by decide) ?_
      refine a_sub (lv' := [(4, .int (nI (w9 + 1))), (0, .ref (g_ad G 38)), (1, .int (nI so)), (2, .int (nI m)), (3, .int 1)]) [0, 1, 2, 3, 4] rfl ?_
      exact k_w9 trivial
  · skip
    refine a_iload 0 11 rfl dX12_finds_9 rfl ?_
    refine a_iconst (x := 1) 12 rfl dX12_finds_11 (by decide) ?_
    refine a_iload_n 2 13 rfl dX12_finds_12 rfl rfl ?_
    refine a_ishl 14 rfl dX12_finds_13 ?_
    refine a_eq (st2 := [.int (nI (2 ^ so)), .int (nI (2 ^ so))]) rfl rfl (congrArg (fun z9 => Value.int z9 :: [.int (nI (2 ^ so))]) (f_shlI so (by omega))) rfl ?_
    refine a_icmp_ge 211 17 rfl dX12_finds_14 (by decide) (fun _ => ?_) (fun hc => absurd (nI_le (a := (2 ^ so)) (b := (2 ^ so)) (by omega) (by omega)) hc)
    exact a_return rfl (rfl) (rfl) dX12_finds_211
theorem r_finM2 (hs : so ≤ 16) (hm : m ≤ 100) : g_Run G mX12_finds 2 0 0 [.ref (g_ad G 38), .int (nI so), .int (nI m), .int 2] (g_hp G C (g_hm G M ++ ob)) none (g_hp G C (g_hm G (f_ml (f_mi M 2 (f_fin 2 (M.2.2.2.1 5) (M.2.2.2.2 2) so m (M.2.2.1 0) (2 ^ so)).1) 0 (f_fin 2 (M.2.2.2.1 5) (M.2.2.2.2 2) so m (M.2.2.1 0) (2 ^ so)).2) ++ ob)) := by
  have h2 : 2 ^ so ≤ 65536 := show 2 ^ so ≤ 2 ^ 16 from Nat.pow_le_pow_right (by decide) hs
  obtain ⟨F, eF⟩ : ∃ F, F = f_fin 2 (M.2.2.2.1 5) (M.2.2.2.2 2) so m (M.2.2.1 0) := ⟨_, rfl⟩
  have eS : ∀ w, F (w + 1) = cond (decide (f_pop (nI w).toInt64 = m)) (cond (decide ((F w).1 = -2) || decide (nI (f_cost 2 w (M.2.2.2.1 5) (M.2.2.2.2 2) so) < (F w).1)) (nI (f_cost 2 w (M.2.2.2.1 5) (M.2.2.2.2 2) so), f_own w (M.2.2.2.1 5) so) (F w)) (F w) := by rw [eF]; intro w; rfl
  have e0 : F 0 = (-2, M.2.2.1 0) := by rw [eF]; rfl
  rw [← eF]
  clear eF
  refine g_Run.of (lv := [(0, .ref (g_ad G 38)), (1, .int (nI so)), (2, .int (nI m)), (3, .int 2)]) (by decide) (Nat.le_of_ble_eq_true rfl) rfl ?_
  refine a_aload_n 0 1 rfl dX12_finds_0 rfl rfl ?_
  refine a_bipush (x := (-2)) 3 rfl dX12_finds_1 (by decide) ?_
  refine a_put (fs' := [.int (nI (M.1 0)), .int (nI (M.1 1)), .int (nI (M.1 2)), .int (nI (M.1 3)), .ref (g_ad G 39), .ref (g_ad G 40), .ref (g_ad G 41), .ref (g_ad G 42), .ref (g_ad G 43), .ref (g_ad G 44), .int (M.2.1 0), .ref (g_ad G 45), .int (nI (M.1 4)), .int (nI (M.1 5)), .int (M.2.1 1), .int ((-2)), .long (M.2.2.1 0), .ref (g_ad G 46), .ref (g_ad G 47), .ref (g_ad G 48), .int (nI (M.1 6)), .long (M.2.2.1 1), .int (nI (M.1 7)), .int (nI (M.1 8)), .ref (g_ad G 49), .ref (g_ad G 50), .int (nI (M.1 9)), .int (nI (M.1 10)), .int (nI (M.1 11)), .long (M.2.2.1 2), .ref (g_ad G 51), .ref (g_ad G 52), .ref (g_ad G 53), .ref (g_ad G 54), .ref (g_ad G 55), .ref (g_ad G 56), .ref (g_ad G 57), .ref (g_ad G 58), .ref (g_ad G 59), .ref (g_ad G 60), .ref (g_ad G 61), .ref (g_ad G 62), .int (nI (M.1 12))]) 15 cl_11 f_RX12_213_11 (by decide) (rfl) rfl rfl rfl (Nat.le_of_ble_eq_true rfl) rfl 6 rfl dX12_finds_3 ?_
  refine a_eq (h2 := g_hp G C (g_hm G (f_ml (f_mi M 2 (-2)) 0 (M.2.2.1 0)) ++ ob)) rfl rfl rfl (rfl) ?_
  refine a_eq (h2 := g_hp G C (g_hm G (f_ml (f_mi M 2 (F 0).1) 0 (F 0).2) ++ ob)) rfl rfl rfl (by rw [e0]) ?_
  refine a_iconst (x := 0) 7 rfl dX12_finds_6 (by decide) ?_
  refine a_istore (lv' := [(4, .int 0), (0, .ref (g_ad G 38)), (1, .int (nI so)), (2, .int (nI m)), (3, .int 2)]) 9 rfl dX12_finds_7 (by decide) rfl ?_
  refine a_sub (lv' := [(4, .int (nI 0)), (0, .ref (g_ad G 38)), (1, .int (nI so)), (2, .int (nI m)), (3, .int 2)]) [0, 1, 2, 3, 4] rfl ?_
  refine g_for (P := fun w9 => True) (2 ^ so) (fun w9 => [(4, .int (nI w9)), (0, .ref (g_ad G 38)), (1, .int (nI so)), (2, .int (nI m)), (3, .int 2)]) (fun w9 => g_hp G C (g_hm G (f_ml (f_mi M 2 (F w9).1) 0 (F w9).2) ++ ob)) (trivial) (fun w9 h_w9 p_w9 k_w9 => ?_) (fun p_w9 => ?_)
  · skip
    have hq := f_pop_le (nI w9).toInt64
    have eS9 := eS w9
    refine a_iload 0 11 rfl dX12_finds_9 rfl ?_
    refine a_iconst (x := 1) 12 rfl dX12_finds_11 (by decide) ?_
    refine a_iload_n 2 13 rfl dX12_finds_12 rfl rfl ?_
    refine a_ishl 14 rfl dX12_finds_13 ?_
    refine a_eq (st2 := [.int (nI (2 ^ so)), .int (nI w9)]) rfl rfl (congrArg (fun z9 => Value.int z9 :: [.int (nI w9)]) (f_shlI so (by omega))) rfl ?_
    refine a_icmp_ge 211 17 rfl dX12_finds_14 (by decide) (fun hc => absurd hc (nI_ge (a := w9) (b := (2 ^ so)) (by omega) (by omega))) (fun _ => ?_)
    refine a_iload 0 19 rfl dX12_finds_17 rfl ?_
    refine a_i2l 20 rfl dX12_finds_19 ?_
    refine a_callS (as := [.long ((nI w9).toInt64)]) (rest := []) (st2 := [.int (nI (f_pop ((nI w9).toInt64)))]) (u1 := 0) (v1 := 0) (u2 := 0) (v2 := 0) (r_many) oX12_many q_1311 q_1312 rfl (by omega) (by decide) rfl (Nat.le_of_ble_eq_true rfl) 23 rfl dX12_finds_20 rfl ?_
    refine a_iload_n 3 24 rfl dX12_finds_23 rfl rfl ?_
    rcases Bool.eq_false_or_eq_true (decide (f_pop (nI w9).toInt64 = m)) with e1 | e1
    · rw [e1, cond_true] at eS9
      refine a_icmp_eq 30 27 rfl dX12_finds_24 (by decide) (fun _ => ?_) (fun hc => absurd (congrArg nI (of_decide_eq_true e1)) hc)
      refine a_lconst (x := 0) 31 rfl dX12_finds_30 (by decide) ?_
      refine a_lstore (lv' := [(5, .long 0), (4, .int (nI w9)), (0, .ref (g_ad G 38)), (1, .int (nI so)), (2, .int (nI m)), (3, .int 2)]) 33 rfl dX12_finds_31 (by decide) rfl ?_
      refine a_lconst (x := 0) 34 rfl dX12_finds_33 (by decide) ?_
      refine a_lstore (lv' := [(7, .long 0), (5, .long 0), (4, .int (nI w9)), (0, .ref (g_ad G 38)), (1, .int (nI so)), (2, .int (nI m)), (3, .int 2)]) 36 rfl dX12_finds_34 (by decide) rfl ?_
      refine a_iconst (x := 0) 37 rfl dX12_finds_36 (by decide) ?_
      refine a_istore (lv' := [(9, .int 0), (7, .long 0), (5, .long 0), (4, .int (nI w9)), (0, .ref (g_ad G 38)), (1, .int (nI so)), (2, .int (nI m)), (3, .int 2)]) 39 rfl dX12_finds_37 (by decide) rfl ?_
      refine a_sub (lv' := [(9, .int (nI 0)), (5, .long (f_own w9 (M.2.2.2.1 5) 0)), (7, .long (f_tou w9 (M.2.2.2.2 2) 0)), (4, .int (nI w9)), (0, .ref (g_ad G 38)), (1, .int (nI so)), (2, .int (nI m)), (3, .int 2)]) [0, 2, 1, 3, 4, 5, 6, 7] rfl ?_
      refine g_for (P := fun k9 => True) so (fun k9 => [(9, .int (nI k9)), (5, .long (f_own w9 (M.2.2.2.1 5) k9)), (7, .long (f_tou w9 (M.2.2.2.2 2) k9)), (4, .int (nI w9)), (0, .ref (g_ad G 38)), (1, .int (nI so)), (2, .int (nI m)), (3, .int 2)]) (fun k9 => (g_hp G C (g_hm G (f_ml (f_mi M 2 ((F w9).1)) 0 ((F w9).2)) ++ ob))) (trivial) (fun k9 h_k9 p_k9 k_k9 => ?_) (fun p_k9 => ?_)
      · skip
        refine a_iload 0 41 rfl dX12_finds_39 rfl ?_
        refine a_iload_n 5 42 rfl dX12_finds_41 rfl rfl ?_
        refine a_icmp_ge 88 45 rfl dX12_finds_42 (by decide) (fun hc => absurd hc (nI_ge (a := k9) (b := so) (by omega) (by omega))) (fun _ => ?_)
        refine a_iload 3 47 rfl dX12_finds_45 rfl ?_
        refine a_iload 0 49 rfl dX12_finds_47 rfl ?_
        refine a_ishr 50 rfl dX12_finds_49 ?_
        refine a_iconst (x := 1) 51 rfl dX12_finds_50 (by decide) ?_
        refine a_iand 52 rfl dX12_finds_51 ?_
        refine a_eq (st2 := [.int (f_i (Nat.testBit w9 k9))]) rfl rfl (congrArg (fun z9 => Value.int z9 :: []) (f_tbI (s := w9) (e := k9) (by omega) (by omega))) rfl ?_
        refine a_iconst (x := 1) 53 rfl dX12_finds_52 (by decide) ?_
        refine g_sfx (pc := 82) (lv := [(7, .long (cond (Nat.testBit w9 k9) ((f_tou w9 (M.2.2.2.2 2) k9) ||| ((M.2.2.2.2 2) k9)) (f_tou w9 (M.2.2.2.2 2) k9))), (5, .long (cond (Nat.testBit w9 k9) ((f_own w9 (M.2.2.2.1 5) k9) ||| (f_sl (1 : Int64) ((M.2.2.2.1 5) k9))) (f_own w9 (M.2.2.2.1 5) k9))), (9, .int (nI k9)), (4, .int (nI w9)), (0, .ref (g_ad G 38)), (1, .int (nI so)), (2, .int (nI m)), (3, .int 2)]) (st := []) (h := (g_hp G C (g_hm G (f_ml (f_mi M 2 ((F w9).1)) 0 ((F w9).2)) ++ ob))) (fun key => ?_) ?_
        · skip
          rcases Bool.eq_false_or_eq_true ((Nat.testBit w9 k9)) with c53_1 | c53_1
          · skip
            refine a_icmp_ne 82 56 rfl dX12_finds_53 (by decide) (fun hc => absurd (f_i_T1 c53_1) hc) (fun _ => ?_)
            refine a_lload 1 58 rfl dX12_finds_56 rfl ?_
            refine a_lconst (x := 1) 59 rfl dX12_finds_58 (by decide) ?_
            refine a_aload_n 4 60 rfl dX12_finds_59 rfl rfl ?_
            refine a_get 17 cl_11 f_RX12_38_11 (by decide) (rfl) rfl 63 rfl dX12_finds_60 ?_
            refine a_iload 0 65 rfl dX12_finds_63 rfl ?_
            refine a_iald (rfl) (vp_in_nI (n := k9) (by omega) (by omega)) 66 rfl dX12_finds_65 ?_
            refine a_eq (st2 := [.int ((M.2.2.2.1 5) k9), .long 1, .long (f_own w9 (M.2.2.2.1 5) k9)]) rfl rfl (congrArg (fun z9 => Value.int z9 :: [.long 1, .long (f_own w9 (M.2.2.2.1 5) k9)]) (congrArg (M.2.2.2.1 5) (g_cl (by omega)))) rfl ?_
            refine a_lshl 67 rfl dX12_finds_66 ?_
            refine a_lor 68 rfl dX12_finds_67 ?_
            refine a_lstore (lv' := [(5, .long ((f_own w9 (M.2.2.2.1 5) k9) ||| (f_sl (1 : Int64) ((M.2.2.2.1 5) k9)))), (9, .int (nI k9)), (7, .long (f_tou w9 (M.2.2.2.2 2) k9)), (4, .int (nI w9)), (0, .ref (g_ad G 38)), (1, .int (nI so)), (2, .int (nI m)), (3, .int 2)]) 70 rfl dX12_finds_68 (by decide) rfl ?_
            refine a_lload 2 72 rfl dX12_finds_70 rfl ?_
            refine a_aload_n 4 73 rfl dX12_finds_72 rfl rfl ?_
            refine a_get 18 cl_11 f_RX12_41_11 (by decide) (rfl) rfl 76 rfl dX12_finds_73 ?_
            refine a_iload 1 78 rfl dX12_finds_76 rfl ?_
            refine a_lald (rfl) (vp_in_nI (n := k9) (by omega) (by omega)) 79 rfl dX12_finds_78 ?_
            refine a_eq (st2 := [.long ((M.2.2.2.2 2) k9), .long (f_tou w9 (M.2.2.2.2 2) k9)]) rfl rfl (congrArg (fun z9 => Value.long z9 :: [.long (f_tou w9 (M.2.2.2.2 2) k9)]) (congrArg (M.2.2.2.2 2) (g_cl (by omega)))) rfl ?_
            refine a_lor 80 rfl dX12_finds_79 ?_
            refine a_lstore (lv' := [(7, .long ((f_tou w9 (M.2.2.2.2 2) k9) ||| ((M.2.2.2.2 2) k9))), (5, .long ((f_own w9 (M.2.2.2.1 5) k9) ||| (f_sl (1 : Int64) ((M.2.2.2.1 5) k9)))), (9, .int (nI k9)), (4, .int (nI w9)), (0, .ref (g_ad G 38)), (1, .int (nI so)), (2, .int (nI m)), (3, .int 2)]) 82 rfl dX12_finds_80 (by decide) rfl ?_
            exact a_eq rfl (by rw [c53_1]; rfl) (rfl) rfl key
          · skip
            refine a_icmp_ne 82 56 rfl dX12_finds_53 (by decide) (fun _ => ?_) (fun hc => absurd hc (f_i_F1 c53_1))
            refine a_sub (lv' := [(7, .long (f_tou w9 (M.2.2.2.2 2) k9)), (5, .long (f_own w9 (M.2.2.2.1 5) k9)), (9, .int (nI k9)), (4, .int (nI w9)), (0, .ref (g_ad G 38)), (1, .int (nI so)), (2, .int (nI m)), (3, .int 2)]) [2, 1, 0, 3, 4, 5, 6, 7] rfl ?_
            exact a_eq rfl (by rw [c53_1]; rfl) (rfl) rfl key
        refine a_iinc (y := nI (k9 + 1)) (lv' := [(9, .int (nI (k9 + 1))), (7, .long (cond (Nat.testBit w9 k9) ((f_tou w9 (M.2.2.2.2 2) k9) ||| ((M.2.2.2.2 2) k9)) (f_tou w9 (M.2.2.2.2 2) k9))), (5, .long (cond (Nat.testBit w9 k9) ((f_own w9 (M.2.2.2.1 5) k9) ||| (f_sl (1 : Int64) ((M.2.2.2.1 5) k9))) (f_own w9 (M.2.2.2.1 5) k9))), (4, .int (nI w9)), (0, .ref (g_ad G 38)), (1, .int (nI so)), (2, .int (nI m)), (3, .int 2)]) 2 85 rfl dX12_finds_82 rfl (nI_1 k9) (by decide) rfl ?_
        refine a_goto 39 dX12_finds_85 (by decide) ?_
        refine a_sub (lv' := [(9, .int (nI (k9 + 1))), (5, .long (f_own w9 (M.2.2.2.1 5) (k9 + 1))), (7, .long (f_tou w9 (M.2.2.2.2 2) (k9 + 1))), (4, .int (nI w9)), (0, .ref (g_ad G 38)), (1, .int (nI so)), (2, .int (nI m)), (3, .int 2)]) [0, 2, 1, 3, 4, 5, 6, 7] rfl ?_
        exact k_k9 trivial
      · skip
        refine a_iload 0 41 rfl dX12_finds_39 rfl ?_
        refine a_iload_n 5 42 rfl dX12_finds_41 rfl rfl ?_
        refine a_icmp_ge 88 45 rfl dX12_finds_42 (by decide) (fun _ => ?_) (fun hc => absurd (nI_le (a := so) (b := so) (by omega) (by omega)) hc)
        refine a_iload_n 7 89 rfl dX12_finds_88 rfl rfl ?_
        refine a_iconst (x := 2) 90 rfl dX12_finds_89 (by decide) ?_
        refine a_icmp_ne 101 93 rfl dX12_finds_90 (by decide) (fun hc => absurd ((by decide)) hc) (fun _ => ?_)
        refine a_lload 2 95 rfl dX12_finds_93 rfl ?_
        refine a_callS (as := [.long (f_tou w9 (M.2.2.2.2 2) so)]) (rest := []) (st2 := [.int (nI (f_pop (f_tou w9 (M.2.2.2.2 2) so)))]) (u1 := 0) (v1 := 0) (u2 := 0) (v2 := 0) (r_many) oX12_many q_1311 q_1312 rfl (by omega) (by decide) rfl (Nat.le_of_ble_eq_true rfl) 98 rfl dX12_finds_95 rfl ?_
        refine a_goto 113 dX12_finds_98 (by decide) ?_
        refine a_istore (lv' := [(9, .int (nI (f_pop (f_tou w9 (M.2.2.2.2 2) so)))), (5, .long (f_own w9 (M.2.2.2.1 5) so)), (7, .long (f_tou w9 (M.2.2.2.2 2) so)), (4, .int (nI w9)), (0, .ref (g_ad G 38)), (1, .int (nI so)), (2, .int (nI m)), (3, .int 2)]) 115 rfl dX12_finds_113 (by decide) rfl ?_
        refine a_iload_n 7 116 rfl dX12_finds_115 rfl rfl ?_
        refine a_iconst (x := 1) 117 rfl dX12_finds_116 (by decide) ?_
        refine a_eq (lv2 := [(9, .int (nI (f_cost 2 w9 (M.2.2.2.1 5) (M.2.2.2.2 2) so))), (5, .long (f_own w9 (M.2.2.2.1 5) so)), (7, .long (f_tou w9 (M.2.2.2.2 2) so)), (4, .int (nI w9)), (0, .ref (g_ad G 38)), (1, .int (nI so)), (2, .int (nI m)), (3, .int 2)]) rfl (congrArg (fun z9 => ([(9, .int z9), (5, .long (f_own w9 (M.2.2.2.1 5) so)), (7, .long (f_tou w9 (M.2.2.2.2 2) so)), (4, .int (nI w9)), (0, .ref (g_ad G 38)), (1, .int (nI so)), (2, .int (nI m)), (3, .int 2)] : List (Nat × Value))) (rfl)) rfl rfl ?_
        refine a_icmp_ne 175 120 rfl dX12_finds_117 (by decide) (fun _ => ?_) (fun hc => absurd hc ((by decide)))
        refine a_aload_n 4 176 rfl dX12_finds_175 rfl rfl ?_
        refine a_get 15 cl_11 f_RX12_213_11 (by decide) (rfl) rfl 179 rfl dX12_finds_176 ?_
        refine a_bipush (x := (-2)) 181 rfl dX12_finds_179 (by decide) ?_
        rcases Bool.eq_false_or_eq_true (decide ((F w9).1 = -2)) with e2 | e2
        · rw [e2, Bool.true_or, cond_true] at eS9
          refine a_icmp_eq 193 184 rfl dX12_finds_181 (by decide) (fun _ => ?_) (fun hc => absurd (of_decide_eq_true e2) hc)
          refine a_aload_n 4 194 rfl dX12_finds_193 rfl rfl ?_
          refine a_iload 0 196 rfl dX12_finds_194 rfl ?_
          refine a_put (fs' := [.int (nI (M.1 0)), .int (nI (M.1 1)), .int (nI (M.1 2)), .int (nI (M.1 3)), .ref (g_ad G 39), .ref (g_ad G 40), .ref (g_ad G 41), .ref (g_ad G 42), .ref (g_ad G 43), .ref (g_ad G 44), .int (M.2.1 0), .ref (g_ad G 45), .int (nI (M.1 4)), .int (nI (M.1 5)), .int (M.2.1 1), .int (nI (f_cost 2 w9 (M.2.2.2.1 5) (M.2.2.2.2 2) so)), .long ((F w9).2), .ref (g_ad G 46), .ref (g_ad G 47), .ref (g_ad G 48), .int (nI (M.1 6)), .long (M.2.2.1 1), .int (nI (M.1 7)), .int (nI (M.1 8)), .ref (g_ad G 49), .ref (g_ad G 50), .int (nI (M.1 9)), .int (nI (M.1 10)), .int (nI (M.1 11)), .long (M.2.2.1 2), .ref (g_ad G 51), .ref (g_ad G 52), .ref (g_ad G 53), .ref (g_ad G 54), .ref (g_ad G 55), .ref (g_ad G 56), .ref (g_ad G 57), .ref (g_ad G 58), .ref (g_ad G 59), .ref (g_ad G 60), .ref (g_ad G 61), .ref (g_ad G 62), .int (nI (M.1 12))]) 15 cl_11 f_RX12_213_11 (by decide) (rfl) rfl rfl rfl (Nat.le_of_ble_eq_true rfl) rfl 199 rfl dX12_finds_196 ?_
          refine a_aload_n 4 200 rfl dX12_finds_199 rfl rfl ?_
          refine a_lload 1 202 rfl dX12_finds_200 rfl ?_
          refine a_put (fs' := [.int (nI (M.1 0)), .int (nI (M.1 1)), .int (nI (M.1 2)), .int (nI (M.1 3)), .ref (g_ad G 39), .ref (g_ad G 40), .ref (g_ad G 41), .ref (g_ad G 42), .ref (g_ad G 43), .ref (g_ad G 44), .int (M.2.1 0), .ref (g_ad G 45), .int (nI (M.1 4)), .int (nI (M.1 5)), .int (M.2.1 1), .int (nI (f_cost 2 w9 (M.2.2.2.1 5) (M.2.2.2.2 2) so)), .long (f_own w9 (M.2.2.2.1 5) so), .ref (g_ad G 46), .ref (g_ad G 47), .ref (g_ad G 48), .int (nI (M.1 6)), .long (M.2.2.1 1), .int (nI (M.1 7)), .int (nI (M.1 8)), .ref (g_ad G 49), .ref (g_ad G 50), .int (nI (M.1 9)), .int (nI (M.1 10)), .int (nI (M.1 11)), .long (M.2.2.1 2), .ref (g_ad G 51), .ref (g_ad G 52), .ref (g_ad G 53), .ref (g_ad G 54), .ref (g_ad G 55), .ref (g_ad G 56), .ref (g_ad G 57), .ref (g_ad G 58), .ref (g_ad G 59), .ref (g_ad G 60), .ref (g_ad G 61), .ref (g_ad G 62), .int (nI (M.1 12))]) 16 cl_11 f_RX12_216_11 (by decide) (g_set_eq (rfl)) rfl rfl rfl (Nat.le_of_ble_eq_true rfl) rfl 205 rfl dX12_finds_202 ?_
          refine a_eq (h2 := g_hp G C (g_hm G (f_ml (f_mi M 2 (nI (f_cost 2 w9 (M.2.2.2.1 5) (M.2.2.2.2 2) so))) 0 (f_own w9 (M.2.2.2.1 5) so)) ++ ob)) rfl rfl rfl (rfl) ?_
          rw [eS9] at k_w9
          refine a_iinc (y := nI (w9 + 1)) (lv' := [(4, .int (nI (w9 + 1))), (9, .int (nI (f_cost 2 w9 (M.2.2.2.1 5) (M.2.2.2.2 2) so))), (5, .long (f_own w9 (M.2.2.2.1 5) so)), (7, .long (f_tou w9 (M.2.2.2.2 2) so)), (0, .ref (g_ad G 38)), (1, .int (nI so)), (2, .int (nI m)), (3, .int 2)]) 3 208 rfl dX12_finds_205 rfl (nI_1 w9) (by decide) rfl ?_
          refine a_goto 9 dX12_finds_208 (by decide) ?_
          refine a_sub (lv' := [(4, .int (nI (w9 + 1))), (0, .ref (g_ad G 38)), (1, .int (nI so)), (2, .int (nI m)), (3, .int 2)]) [0, 4, 5, 6, 7] rfl ?_
          exact k_w9 trivial
        · rw [e2, Bool.false_or] at eS9
          refine a_icmp_eq 193 184 rfl dX12_finds_181 (by decide) (fun hc => absurd hc (of_decide_eq_false e2)) (fun _ => ?_)
          refine a_iload 0 186 rfl dX12_finds_184 rfl ?_
          refine a_aload_n 4 187 rfl dX12_finds_186 rfl rfl ?_
          refine a_get 15 cl_11 f_RX12_213_11 (by decide) (rfl) rfl 190 rfl dX12_finds_187 ?_
          rcases Bool.eq_false_or_eq_true (decide ((F w9).1 ≤ nI (f_cost 2 w9 (M.2.2.2.1 5) (M.2.2.2.2 2) so))) with e3 | e3
          · rw [decide_eq_false (Int32.not_lt.mpr (of_decide_eq_true e3)), cond_false] at eS9
            rw [eS9] at k_w9
            refine a_icmp_ge 205 193 rfl dX12_finds_190 (by decide) (fun _ => ?_) (fun hc => absurd (of_decide_eq_true e3) hc)
            refine a_iinc (y := nI (w9 + 1)) (lv' := [(4, .int (nI (w9 + 1))), (9, .int (nI (f_cost 2 w9 (M.2.2.2.1 5) (M.2.2.2.2 2) so))), (5, .long (f_own w9 (M.2.2.2.1 5) so)), (7, .long (f_tou w9 (M.2.2.2.2 2) so)), (0, .ref (g_ad G 38)), (1, .int (nI so)), (2, .int (nI m)), (3, .int 2)]) 3 208 rfl dX12_finds_205 rfl (nI_1 w9) (by decide) rfl ?_
            refine a_goto 9 dX12_finds_208 (by decide) ?_
            refine a_sub (lv' := [(4, .int (nI (w9 + 1))), (0, .ref (g_ad G 38)), (1, .int (nI so)), (2, .int (nI m)), (3, .int 2)]) [0, 4, 5, 6, 7] rfl ?_
            exact k_w9 trivial
          · rw [decide_eq_true (Int32.not_le.mp (of_decide_eq_false e3)), cond_true] at eS9
            refine a_icmp_ge 205 193 rfl dX12_finds_190 (by decide) (fun hc => absurd hc (of_decide_eq_false e3)) (fun _ => ?_)
            refine a_aload_n 4 194 rfl dX12_finds_193 rfl rfl ?_
            refine a_iload 0 196 rfl dX12_finds_194 rfl ?_
            refine a_put (fs' := [.int (nI (M.1 0)), .int (nI (M.1 1)), .int (nI (M.1 2)), .int (nI (M.1 3)), .ref (g_ad G 39), .ref (g_ad G 40), .ref (g_ad G 41), .ref (g_ad G 42), .ref (g_ad G 43), .ref (g_ad G 44), .int (M.2.1 0), .ref (g_ad G 45), .int (nI (M.1 4)), .int (nI (M.1 5)), .int (M.2.1 1), .int (nI (f_cost 2 w9 (M.2.2.2.1 5) (M.2.2.2.2 2) so)), .long ((F w9).2), .ref (g_ad G 46), .ref (g_ad G 47), .ref (g_ad G 48), .int (nI (M.1 6)), .long (M.2.2.1 1), .int (nI (M.1 7)), .int (nI (M.1 8)), .ref (g_ad G 49), .ref (g_ad G 50), .int (nI (M.1 9)), .int (nI (M.1 10)), .int (nI (M.1 11)), .long (M.2.2.1 2), .ref (g_ad G 51), .ref (g_ad G 52), .ref (g_ad G 53), .ref (g_ad G 54), .ref (g_ad G 55), .ref (g_ad G 56), .ref (g_ad G 57), .ref (g_ad G 58), .ref (g_ad G 59), .ref (g_ad G 60), .ref (g_ad G 61), .ref (g_ad G 62), .int (nI (M.1 12))]) 15 cl_11 f_RX12_213_11 (by decide) (rfl) rfl rfl rfl (Nat.le_of_ble_eq_true rfl) rfl 199 rfl dX12_finds_196 ?_
            refine a_aload_n 4 200 rfl dX12_finds_199 rfl rfl ?_
            refine a_lload 1 202 rfl dX12_finds_200 rfl ?_
            refine a_put (fs' := [.int (nI (M.1 0)), .int (nI (M.1 1)), .int (nI (M.1 2)), .int (nI (M.1 3)), .ref (g_ad G 39), .ref (g_ad G 40), .ref (g_ad G 41), .ref (g_ad G 42), .ref (g_ad G 43), .ref (g_ad G 44), .int (M.2.1 0), .ref (g_ad G 45), .int (nI (M.1 4)), .int (nI (M.1 5)), .int (M.2.1 1), .int (nI (f_cost 2 w9 (M.2.2.2.1 5) (M.2.2.2.2 2) so)), .long (f_own w9 (M.2.2.2.1 5) so), .ref (g_ad G 46), .ref (g_ad G 47), .ref (g_ad G 48), .int (nI (M.1 6)), .long (M.2.2.1 1), .int (nI (M.1 7)), .int (nI (M.1 8)), .ref (g_ad G 49), .ref (g_ad G 50), .int (nI (M.1 9)), .int (nI (M.1 10)), .int (nI (M.1 11)), .long (M.2.2.1 2), .ref (g_ad G 51), .ref (g_ad G 52), .ref (g_ad G 53), .ref (g_ad G 54), .ref (g_ad G 55), .ref (g_ad G 56), .ref (g_ad G 57), .ref (g_ad G 58), .ref (g_ad G 59), .ref (g_ad G 60), .ref (g_ad G 61), .ref (g_ad G 62), .int (nI (M.1 12))]) 16 cl_11 f_RX12_216_11 (by decide) (g_set_eq (rfl)) rfl rfl rfl (Nat.le_of_ble_eq_true rfl) rfl 205 rfl dX12_finds_202 ?_
            refine a_eq (h2 := g_hp G C (g_hm G (f_ml (f_mi M 2 (nI (f_cost 2 w9 (M.2.2.2.1 5) (M.2.2.2.2 2) so))) 0 (f_own w9 (M.2.2.2.1 5) so)) ++ ob)) rfl rfl rfl (rfl) ?_
            rw [eS9] at k_w9
            refine a_iinc (y := nI (w9 + 1)) (lv' := [(4, .int (nI (w9 + 1))), (9, .int (nI (f_cost 2 w9 (M.2.2.2.1 5) (M.2.2.2.2 2) so))), (5, .long (f_own w9 (M.2.2.2.1 5) so)), (7, .long (f_tou w9 (M.2.2.2.2 2) so)), (0, .ref (g_ad G 38)), (1, .int (nI so)), (2, .int (nI m)), (3, .int 2)]) 3 208 rfl dX12_finds_205 rfl (nI_1 w9) (by decide) rfl ?_
            refine a_goto 9 dX12_finds_208 (by decide) ?_
            refine a_sub (lv' := [(4, .int (nI (w9 + 1))), (0, .ref (g_ad G 38)), (1, .int (nI so)), (2, .int (nI m)), (3, .int 2)]) [0, 4, 5, 6, 7] rfl ?_
            exact k_w9 trivial
    · rw [e1, cond_false] at eS9
      rw [eS9] at k_w9
      refine a_icmp_eq 30 27 rfl dX12_finds_24 (by decide) (fun hc => absurd hc (fun z9 => of_decide_eq_false e1 (nI_inj9 (a := (f_pop ((nI w9).toInt64))) (b := m) (by omega) (by omega) z9))) (fun _ => ?_)
      refine a_goto 205 dX12_finds_27 (by decide) ?_
      refine a_iinc (y := nI (w9 + 1)) (lv' := [(4, .int (nI (w9 + 1))), (0, .ref (g_ad G 38)), (1, .int (nI so)), (2, .int (nI m)), (3, .int 2)]) 0 208 rfl dX12_finds_205 rfl (nI_1 w9) (by decide) rfl ?_
      refine a_goto 9 dX12_finds_208 (by decide) ?_
      refine a_sub (lv' := [(4, .int (nI (w9 + 1))), (0, .ref (g_ad G 38)), (1, .int (nI so)), (2, .int (nI m)), (3, .int 2)]) [0, 1, 2, 3, 4] rfl ?_
      exact k_w9 trivial
  · skip
    refine a_iload 0 11 rfl dX12_finds_9 rfl ?_
    refine a_iconst (x := 1) 12 rfl dX12_finds_11 (by decide) ?_
    refine a_iload_n 2 13 rfl dX12_finds_12 rfl rfl ?_
    refine a_ishl 14 rfl dX12_finds_13 ?_
    refine a_eq (st2 := [.int (nI (2 ^ so)), .int (nI (2 ^ so))]) rfl rfl (congrArg (fun z9 => Value.int z9 :: [.int (nI (2 ^ so))]) (f_shlI so (by omega))) rfl ?_
    refine a_icmp_ge 211 17 rfl dX12_finds_14 (by decide) (fun _ => ?_) (fun hc => absurd (nI_le (a := (2 ^ so)) (b := (2 ^ so)) (by omega) (by omega)) hc)
    exact a_return rfl (rfl) (rfl) dX12_finds_211
end ML1
