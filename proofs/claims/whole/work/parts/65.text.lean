/-! The model's read, write -/
section MV1
variable {G : g_G} {C : f_C} {M M2 : f_M} {ob h h2 : List va_E} {x : Int64} {y y2 y3 y4 y5 r9 fg : Int32} {i j m k w s o so q : Nat} {R : Nat → Int32} {T : f_T} {tp : Nat → Nat}
theorem r_heA (hf : M.1 9 ≤ 80) (ha : M.1 11 < M.1 9) : g_Run G mX12_here 1 0 0 [.ref (g_ad G 38)] (g_hp G C (g_hm G M ++ ob)) (some (.int (M.2.2.2.1 7 (M.1 11)))) (g_hp G C (g_hm G M ++ ob)) := by
  refine g_Run.of (lv := [(0, .ref (g_ad G 38))]) (by decide) (Nat.le_of_ble_eq_true rfl) rfl ?_
  refine a_aload_n 0 1 rfl dX12_here_0 rfl rfl ?_
  refine a_get 28 cl_11 f_RX12_313_11 (by decide) (rfl) rfl 4 rfl dX12_here_1 ?_
  refine a_aload_n 0 5 rfl dX12_here_4 rfl rfl ?_
  refine a_get 26 cl_11 f_RX12_310_11 (by decide) (rfl) rfl 8 rfl dX12_here_5 ?_
  refine a_icmp_ge 23 11 rfl dX12_here_8 (by decide) (fun hc => absurd hc (nI_ge (a := (M.1 11)) (b := (M.1 9)) (by omega) (by omega))) (fun _ => ?_)
  refine a_aload_n 0 12 rfl dX12_here_11 rfl rfl ?_
  refine a_get 24 cl_11 f_RX12_53_11 (by decide) (rfl) rfl 15 rfl dX12_here_12 ?_
  refine a_aload_n 0 16 rfl dX12_here_15 rfl rfl ?_
  refine a_get 28 cl_11 f_RX12_313_11 (by decide) (rfl) rfl 19 rfl dX12_here_16 ?_
  refine a_iald (rfl) (vp_in_nI (n := (M.1 11)) (by omega) (by omega)) 20 rfl dX12_here_19 ?_
  refine a_eq (st2 := [.int ((M.2.2.2.1 7) (M.1 11))]) rfl rfl (congrArg (fun z9 => Value.int z9 :: []) (congrArg (M.2.2.2.1 7) (g_cl (by omega)))) rfl ?_
  refine a_goto 24 dX12_here_20 (by decide) ?_
  exact a_ireturn .int rfl rfl (rfl) (rfl) dX12_here_24
theorem r_heB (hf : M.1 9 ≤ 80) (ha : M.1 11 = M.1 9) : g_Run G mX12_here 1 0 0 [.ref (g_ad G 38)] (g_hp G C (g_hm G M ++ ob)) (some (.int (-1))) (g_hp G C (g_hm G M ++ ob)) := by
  refine g_Run.of (lv := [(0, .ref (g_ad G 38))]) (by decide) (Nat.le_of_ble_eq_true rfl) rfl ?_
  refine a_aload_n 0 1 rfl dX12_here_0 rfl rfl ?_
  refine a_get 28 cl_11 f_RX12_313_11 (by decide) (rfl) rfl 4 rfl dX12_here_1 ?_
  refine a_aload_n 0 5 rfl dX12_here_4 rfl rfl ?_
  refine a_get 26 cl_11 f_RX12_310_11 (by decide) (rfl) rfl 8 rfl dX12_here_5 ?_
  refine a_icmp_ge 23 11 rfl dX12_here_8 (by decide) (fun _ => ?_) (fun hc => absurd (nI_le (a := (M.1 9)) (b := (M.1 11)) (by omega) (by omega)) hc)
  refine a_iconst (x := (-1)) 24 rfl dX12_here_23 (by decide) ?_
  exact a_ireturn .int rfl rfl (rfl) (rfl) dX12_here_24
theorem f_nm1 {k9 : Nat} (hk : k9 < 2 ^ 31) : ¬ nI k9 ≤ (-1) := by
  intro z
  rw [Int32.le_iff_toInt_le, nI_toInt hk] at z
  have e9 : (-1 : Int32).toInt = -1 := by decide
  omega
theorem f_n48 (c : Nat) : ¬ (-1 : Int32) = nI 48 ∧ ¬ (-1 : Int32) = nI 44 := ⟨by decide, by decide⟩
/-- the end of a set that was read -/
def f_rsE (M : f_M) (set : Nat) : f_M := f_ml M 2 (M.2.2.1 2 ||| cond (decide (set = 0)) 0 (f_sl 1 (nI set)))
theorem r_rsT {set64 : Nat} (hs : set64 < 64) : g_A G mX12_readsSet 3 0 0 90 [(1, .int (nI set64)), (0, .ref (g_ad G 38))] [] (g_hp G C (g_hm G M ++ ob)) (some (.int (f_i (!decide (set64 = 0))))) (g_hp G C (g_hm G (f_rsE M set64) ++ ob)) := by
  unfold f_rsE
  refine a_aload_n 1 91 rfl dX12_readsSet_90 rfl rfl ?_
  refine a_dup 92 rfl dX12_readsSet_91 rfl ?_
  refine a_get 29 cl_11 f_RX12_319_11 (by decide) (rfl) rfl 95 rfl dX12_readsSet_92 ?_
  refine a_iload_n 0 96 rfl dX12_readsSet_95 rfl rfl ?_
  refine g_sfx (pc := 106) (lv := [(1, .int (nI set64)), (0, .ref (g_ad G 38))]) (st := [.long (cond (decide (set64 = 0)) 0 (f_sl (1 : Int64) (nI set64))), .long (M.2.2.1 2), .ref (g_ad G 38)]) (h := (g_hp G C (g_hm G M ++ ob))) (fun key => ?_) ?_
  · skip
    rcases Bool.eq_false_or_eq_true (decide (set64 = 0)) with c96_1 | c96_1
    · skip
      have dc96_1 := of_decide_eq_true c96_1
      refine a_if_ne 103 99 rfl dX12_readsSet_96 (by decide) (fun hc => absurd (congrArg nI (of_decide_eq_true c96_1)) hc) (fun _ => ?_)
      refine a_lconst (x := 0) 100 rfl dX12_readsSet_99 (by decide) ?_
      refine a_goto 106 dX12_readsSet_100 (by decide) ?_
      exact a_eq rfl (rfl) (by rw [c96_1]; rfl) rfl key
    · skip
      have dc96_1 := of_decide_eq_false c96_1
      refine a_if_ne 103 99 rfl dX12_readsSet_96 (by decide) (fun _ => ?_) (fun hc => absurd hc (fun z9 => of_decide_eq_false c96_1 (nI_inj9 (a := set64) (b := 0) (by omega) (by omega) z9)))
      refine a_lconst (x := 1) 104 rfl dX12_readsSet_103 (by decide) ?_
      refine a_iload_n 0 105 rfl dX12_readsSet_104 rfl rfl ?_
      refine a_lshl 106 rfl dX12_readsSet_105 ?_
      exact a_eq rfl (rfl) (by rw [c96_1]; rfl) rfl key
  refine a_lor 107 rfl dX12_readsSet_106 ?_
  refine a_put (fs' := [.int (nI (M.1 0)), .int (nI (M.1 1)), .int (nI (M.1 2)), .int (nI (M.1 3)), .ref (g_ad G 39), .ref (g_ad G 40), .ref (g_ad G 41), .ref (g_ad G 42), .ref (g_ad G 43), .ref (g_ad G 44), .int (M.2.1 0), .ref (g_ad G 45), .int (nI (M.1 4)), .int (nI (M.1 5)), .int (M.2.1 1), .int (M.2.1 2), .long (M.2.2.1 0), .ref (g_ad G 46), .ref (g_ad G 47), .ref (g_ad G 48), .int (nI (M.1 6)), .long (M.2.2.1 1), .int (nI (M.1 7)), .int (nI (M.1 8)), .ref (g_ad G 49), .ref (g_ad G 50), .int (nI (M.1 9)), .int (nI (M.1 10)), .int (nI (M.1 11)), .long ((M.2.2.1 2) ||| (cond (decide (set64 = 0)) 0 (f_sl (1 : Int64) (nI set64)))), .ref (g_ad G 51), .ref (g_ad G 52), .ref (g_ad G 53), .ref (g_ad G 54), .ref (g_ad G 55), .ref (g_ad G 56), .ref (g_ad G 57), .ref (g_ad G 58), .ref (g_ad G 59), .ref (g_ad G 60), .ref (g_ad G 61), .ref (g_ad G 62), .int (nI (M.1 12))]) 29 cl_11 f_RX12_319_11 (by decide) (rfl) rfl rfl rfl (Nat.le_of_ble_eq_true rfl) rfl 110 rfl dX12_readsSet_107 ?_
  refine a_eq (h2 := g_hp G C (g_hm G (f_ml M 2 ((M.2.2.1 2) ||| (cond (decide (set64 = 0)) 0 (f_sl (1 : Int64) (nI set64))))) ++ ob)) rfl rfl rfl (rfl) ?_
  refine a_iload_n 0 111 rfl dX12_readsSet_110 rfl rfl ?_
  refine g_sfx (pc := 119) (lv := [(1, .int (nI set64)), (0, .ref (g_ad G 38))]) (st := [.int (f_i (!(decide (set64 = 0))))]) (h := (g_hp G C (g_hm G (f_ml M 2 ((M.2.2.1 2) ||| (cond (decide (set64 = 0)) 0 (f_sl (1 : Int64) (nI set64))))) ++ ob))) (fun key => ?_) ?_
  · skip
    rcases Bool.eq_false_or_eq_true (decide (set64 = 0)) with c111_1 | c111_1
    · skip
      have dc111_1 := of_decide_eq_true c111_1
      refine a_if_eq 118 114 rfl dX12_readsSet_111 (by decide) (fun _ => ?_) (fun hc => absurd (congrArg nI (of_decide_eq_true c111_1)) hc)
      refine a_iconst (x := 0) 119 rfl dX12_readsSet_118 (by decide) ?_
      exact a_eq rfl (rfl) (by rw [c111_1]; rfl) rfl key
    · skip
      have dc111_1 := of_decide_eq_false c111_1
      refine a_if_eq 118 114 rfl dX12_readsSet_111 (by decide) (fun hc => absurd hc (fun z9 => of_decide_eq_false c111_1 (nI_inj9 (a := set64) (b := 0) (by omega) (by omega) z9))) (fun _ => ?_)
      refine a_iconst (x := 1) 115 rfl dX12_readsSet_114 (by decide) ?_
      refine a_goto 119 dX12_readsSet_115 (by decide) ?_
      exact a_eq rfl (rfl) (by rw [c111_1]; rfl) rfl key
  exact a_ireturn .boolean rfl (f_i_nar _) (rfl) (rfl) dX12_readsSet_119
theorem r_rsL {t : Nat} (hn : M.1 0 ≤ 6) (hf : M.1 9 ≤ 80) (htp : ∀ k, k < M.1 9 → M.2.2.2.1 7 k = nI (tp k) ∧ tp k ≤ 126) : ∀ set l a, a + t = M.1 9 → set < 64 → l ≤ 6 → g_A G mX12_readsSet 3 0 0 35 [(2, .int (nI l - 1)), (1, .int (nI set)), (0, .ref (g_ad G 38))] [] (g_hp G C (g_hm G (f_mn M 11 a) ++ ob)) (some (.int (f_i (!decide ((f_rdM (M.1 0) (M.1 9) tp t set l a).1 = 0))))) (g_hp G C (g_hm G (f_rsE (f_mn M 11 (f_rdM (M.1 0) (M.1 9) tp t set l a).2) (f_rdM (M.1 0) (M.1 9) tp t set l a).1) ++ ob)) := by
  induction t with
  | zero =>
    intro set l a ha hs hl
    have e1 : decide (nI (97 + l) ≤ (-1) ∧ (-1) ≤ nI (97 + M.1 0 - 1)) = false := decide_eq_false (fun z9 => f_nm1 (by omega) z9.1)
    refine a_aload_n 2 36 rfl dX12_readsSet_35 rfl rfl ?_
    refine a_callV (as := []) (rest := []) (st2 := [.int ((-1))]) (u1 := 0) (v1 := 0) (u2 := 0) (v2 := 0) (r_heB (M := f_mn M 11 a) hf (show a = M.1 9 by omega)) (⟨_, _, _, _, rfl, rfl⟩) oX12_here q_1560 q_1562 q_113 rfl (by omega) (by decide) rfl (Nat.le_of_ble_eq_true rfl) 39 rfl dX12_readsSet_36 rfl ?_
    refine a_i2l 40 rfl dX12_readsSet_39 ?_
    refine a_bipush (x := 97) 42 rfl dX12_readsSet_40 (by decide) ?_
    refine a_iload_n 0 43 rfl dX12_readsSet_42 rfl rfl ?_
    refine a_iadd 44 rfl dX12_readsSet_43 ?_
    refine a_iconst (x := 1) 45 rfl dX12_readsSet_44 (by decide) ?_
    refine a_iadd 46 rfl dX12_readsSet_45 ?_
    refine a_eq (st2 := [.int (nI (97 + l)), .long ((-1 : Int32).toInt64)]) rfl rfl (congrArg (fun z9 => Value.int z9 :: [.long ((-1 : Int32).toInt64)]) (f_l97 l)) rfl ?_
    refine a_i2l 47 rfl dX12_readsSet_46 ?_
    refine a_bipush (x := 97) 49 rfl dX12_readsSet_47 (by decide) ?_
    refine a_aload_n 2 50 rfl dX12_readsSet_49 rfl rfl ?_
    refine a_get 0 cl_11 f_RX12_9_11 (by decide) (rfl) rfl 53 rfl dX12_readsSet_50 ?_
    refine a_iadd 54 rfl dX12_readsSet_53 ?_
    refine a_eq (st2 := [.int (nI (97 + (M.1 0))), .long ((nI (97 + l)).toInt64), .long ((-1 : Int32).toInt64)]) rfl rfl (congrArg (fun z9 => Value.int z9 :: [.long ((nI (97 + l)).toInt64), .long ((-1 : Int32).toInt64)]) (nI_add 97 (M.1 0))) rfl ?_
    refine a_iconst (x := 1) 55 rfl dX12_readsSet_54 (by decide) ?_
    refine a_isub 56 rfl dX12_readsSet_55 ?_
    refine a_eq (st2 := [.int (nI ((97 + (M.1 0)) - 1)), .long ((nI (97 + l)).toInt64), .long ((-1 : Int32).toInt64)]) rfl rfl (congrArg (fun z9 => Value.int z9 :: [.long ((nI (97 + l)).toInt64), .long ((-1 : Int32).toInt64)]) (pk_sub (a := (97 + (M.1 0))) (b := 1) (by omega))) rfl ?_
    refine a_i2l 57 rfl dX12_readsSet_56 ?_
    refine a_callS (as := [.long ((-1 : Int32).toInt64), .long ((nI (97 + l)).toInt64), .long ((nI ((97 + (M.1 0)) - 1)).toInt64)]) (rest := []) (st2 := [.int (f_i (decide ((nI (97 + l)) ≤ (-1 : Int32) ∧ (-1 : Int32) ≤ (nI ((97 + (M.1 0)) - 1)))))]) (u1 := 0) (v1 := 0) (u2 := 0) (v2 := 0) (r_isInB (y := (-1 : Int32)) (a := (nI (97 + l))) (b := (nI ((97 + (M.1 0)) - 1))) rfl rfl) oX12_isIn q_1242 q_1243 rfl (by omega) (by decide) rfl (Nat.le_of_ble_eq_true rfl) 60 rfl dX12_readsSet_57 rfl ?_
    refine a_if_eq 90 63 rfl dX12_readsSet_60 (by decide) (fun _ => ?_) (fun hc => absurd (f_i_F e1) hc)
    refine a_sub (lv' := [(1, .int (nI set)), (0, .ref (g_ad G 38))]) [1, 2] rfl ?_
    exact r_rsT hs
  | succ t ih =>
    intro set l a ha hs hl
    obtain ⟨et, ht⟩ := htp a (by omega)
    have wh := r_heA (G := G) (C := C) (ob := ob) (M := f_mn M 11 a) hf (show a < M.1 9 by omega)
    rw [show (f_mn M 11 a).2.2.2.1 7 ((f_mn M 11 a).1 11) = nI (tp a) from et] at wh
    obtain ⟨c, ec⟩ : ∃ c, c = tp a := ⟨_, rfl⟩
    rw [← ec] at wh ht
    have eR : f_rdM (M.1 0) (M.1 9) tp (t + 1) set l a = cond (decide (a < M.1 9) && (decide (97 + l ≤ c) && decide (c ≤ 96 + M.1 0))) (f_rdM (M.1 0) (M.1 9) tp t (set ||| 2 ^ (c - 97)) (c - 96) (a + 1)) (set, a) := by rw [ec]; rfl
    rw [decide_eq_true (show a < M.1 9 by omega), Bool.true_and] at eR
    by_cases e1 : 97 + l ≤ c ∧ c ≤ 96 + M.1 0
    · rw [decide_eq_true e1.1, decide_eq_true e1.2, Bool.true_and, cond_true] at eR
      rw [eR]
      have e2 : decide (nI (97 + l) ≤ nI c ∧ nI c ≤ nI (97 + M.1 0 - 1)) = true := decide_eq_true ⟨nI_le (by omega) (by omega), nI_le (by omega) (by omega)⟩
      have h2 := f_2x (c := c) (n := M.1 0) (by omega) e1.2 hn
      refine a_aload_n 2 36 rfl dX12_readsSet_35 rfl rfl ?_
      refine a_callV (as := []) (rest := []) (st2 := [.int (nI c)]) (u1 := 0) (v1 := 0) (u2 := 0) (v2 := 0) (wh) (⟨_, _, _, _, rfl, rfl⟩) oX12_here q_1560 q_1562 q_113 rfl (by omega) (by decide) rfl (Nat.le_of_ble_eq_true rfl) 39 rfl dX12_readsSet_36 rfl ?_
      refine a_i2l 40 rfl dX12_readsSet_39 ?_
      refine a_bipush (x := 97) 42 rfl dX12_readsSet_40 (by decide) ?_
      refine a_iload_n 0 43 rfl dX12_readsSet_42 rfl rfl ?_
      refine a_iadd 44 rfl dX12_readsSet_43 ?_
      refine a_iconst (x := 1) 45 rfl dX12_readsSet_44 (by decide) ?_
      refine a_iadd 46 rfl dX12_readsSet_45 ?_
      refine a_eq (st2 := [.int (nI (97 + l)), .long ((nI c).toInt64)]) rfl rfl (congrArg (fun z9 => Value.int z9 :: [.long ((nI c).toInt64)]) (f_l97 l)) rfl ?_
      refine a_i2l 47 rfl dX12_readsSet_46 ?_
      refine a_bipush (x := 97) 49 rfl dX12_readsSet_47 (by decide) ?_
      refine a_aload_n 2 50 rfl dX12_readsSet_49 rfl rfl ?_
      refine a_get 0 cl_11 f_RX12_9_11 (by decide) (rfl) rfl 53 rfl dX12_readsSet_50 ?_
      refine a_iadd 54 rfl dX12_readsSet_53 ?_
      refine a_eq (st2 := [.int (nI (97 + (M.1 0))), .long ((nI (97 + l)).toInt64), .long ((nI c).toInt64)]) rfl rfl (congrArg (fun z9 => Value.int z9 :: [.long ((nI (97 + l)).toInt64), .long ((nI c).toInt64)]) (nI_add 97 (M.1 0))) rfl ?_
      refine a_iconst (x := 1) 55 rfl dX12_readsSet_54 (by decide) ?_
      refine a_isub 56 rfl dX12_readsSet_55 ?_
      refine a_eq (st2 := [.int (nI ((97 + (M.1 0)) - 1)), .long ((nI (97 + l)).toInt64), .long ((nI c).toInt64)]) rfl rfl (congrArg (fun z9 => Value.int z9 :: [.long ((nI (97 + l)).toInt64), .long ((nI c).toInt64)]) (pk_sub (a := (97 + (M.1 0))) (b := 1) (by omega))) rfl ?_
      refine a_i2l 57 rfl dX12_readsSet_56 ?_
      refine a_callS (as := [.long ((nI c).toInt64), .long ((nI (97 + l)).toInt64), .long ((nI ((97 + (M.1 0)) - 1)).toInt64)]) (rest := []) (st2 := [.int (f_i (decide ((nI (97 + l)) ≤ (nI c) ∧ (nI c) ≤ (nI ((97 + (M.1 0)) - 1)))))]) (u1 := 0) (v1 := 0) (u2 := 0) (v2 := 0) (r_isInB (y := (nI c)) (a := (nI (97 + l))) (b := (nI ((97 + (M.1 0)) - 1))) rfl rfl) oX12_isIn q_1242 q_1243 rfl (by omega) (by decide) rfl (Nat.le_of_ble_eq_true rfl) 60 rfl dX12_readsSet_57 rfl ?_
      refine a_if_eq 90 63 rfl dX12_readsSet_60 (by decide) (fun hc => absurd hc (f_i_T e2)) (fun _ => ?_)
      refine a_aload_n 2 64 rfl dX12_readsSet_63 rfl rfl ?_
      refine a_callV (as := []) (rest := []) (st2 := [.int (nI c)]) (u1 := 0) (v1 := 0) (u2 := 0) (v2 := 0) (wh) (⟨_, _, _, _, rfl, rfl⟩) oX12_here q_1560 q_1562 q_113 rfl (by omega) (by decide) rfl (Nat.le_of_ble_eq_true rfl) 67 rfl dX12_readsSet_64 rfl ?_
      refine a_bipush (x := 97) 69 rfl dX12_readsSet_67 (by decide) ?_
      refine a_isub 70 rfl dX12_readsSet_69 ?_
      refine a_eq (st2 := [.int (nI (c - 97))]) rfl rfl (congrArg (fun z9 => Value.int z9 :: []) (pk_sub (a := c) (b := 97) (by omega))) rfl ?_
      refine a_istore_n (lv' := [(2, .int (nI (c - 97))), (1, .int (nI set)), (0, .ref (g_ad G 38))]) 71 rfl dX12_readsSet_70 rfl (by decide) rfl ?_
      refine a_iload_n 1 72 rfl dX12_readsSet_71 rfl rfl ?_
      refine a_iconst (x := 1) 73 rfl dX12_readsSet_72 (by decide) ?_
      refine a_iload_n 0 74 rfl dX12_readsSet_73 rfl rfl ?_
      refine a_ishl 75 rfl dX12_readsSet_74 ?_
      refine a_eq (st2 := [.int (nI (2 ^ (c - 97))), .int (nI set)]) rfl rfl (congrArg (fun z9 => Value.int z9 :: [.int (nI set)]) (f_shlI (c - 97) (by omega))) rfl ?_
      refine a_ior 76 rfl dX12_readsSet_75 ?_
      refine a_eq (st2 := [.int (nI (set ||| (2 ^ (c - 97))))]) rfl rfl (congrArg (fun z9 => Value.int z9 :: []) (nI_or set (2 ^ (c - 97)))) rfl ?_
      refine a_istore_n (lv' := [(1, .int (nI (set ||| (2 ^ (c - 97))))), (2, .int (nI (c - 97))), (0, .ref (g_ad G 38))]) 77 rfl dX12_readsSet_76 rfl (by decide) rfl ?_
      refine a_aload_n 2 78 rfl dX12_readsSet_77 rfl rfl ?_
      refine a_dup 79 rfl dX12_readsSet_78 rfl ?_
      refine a_get 28 cl_11 f_RX12_313_11 (by decide) (rfl) rfl 82 rfl dX12_readsSet_79 ?_
      refine a_iconst (x := 1) 83 rfl dX12_readsSet_82 (by decide) ?_
      refine a_iadd 84 rfl dX12_readsSet_83 ?_
      refine a_eq (st2 := [.int (nI (a + 1)), .ref (g_ad G 38)]) rfl rfl (congrArg (fun z9 => Value.int z9 :: [.ref (g_ad G 38)]) (nI_add a 1)) rfl ?_
      refine a_put (fs' := [.int (nI (M.1 0)), .int (nI (M.1 1)), .int (nI (M.1 2)), .int (nI (M.1 3)), .ref (g_ad G 39), .ref (g_ad G 40), .ref (g_ad G 41), .ref (g_ad G 42), .ref (g_ad G 43), .ref (g_ad G 44), .int (M.2.1 0), .ref (g_ad G 45), .int (nI (M.1 4)), .int (nI (M.1 5)), .int (M.2.1 1), .int (M.2.1 2), .long (M.2.2.1 0), .ref (g_ad G 46), .ref (g_ad G 47), .ref (g_ad G 48), .int (nI (M.1 6)), .long (M.2.2.1 1), .int (nI (M.1 7)), .int (nI (M.1 8)), .ref (g_ad G 49), .ref (g_ad G 50), .int (nI (M.1 9)), .int (nI (M.1 10)), .int (nI (a + 1)), .long (M.2.2.1 2), .ref (g_ad G 51), .ref (g_ad G 52), .ref (g_ad G 53), .ref (g_ad G 54), .ref (g_ad G 55), .ref (g_ad G 56), .ref (g_ad G 57), .ref (g_ad G 58), .ref (g_ad G 59), .ref (g_ad G 60), .ref (g_ad G 61), .ref (g_ad G 62), .int (nI (M.1 12))]) 28 cl_11 f_RX12_313_11 (by decide) (rfl) rfl rfl rfl (Nat.le_of_ble_eq_true rfl) rfl 87 rfl dX12_readsSet_84 ?_
      refine a_eq (h2 := g_hp G C (g_hm G (f_mn M 11 (a + 1)) ++ ob)) rfl rfl rfl (rfl) ?_
      refine a_goto 35 dX12_readsSet_87 (by decide) ?_
      refine a_eq (lv2 := [(1, .int (nI (set ||| (2 ^ (c - 97))))), (2, .int (nI (c - 96) - 1)), (0, .ref (g_ad G 38))]) rfl (congrArg (fun z9 => ([(1, .int (nI (set ||| (2 ^ (c - 97))))), (2, .int z9), (0, .ref (g_ad G 38))] : List (Nat × Value))) (f_l96 (by omega))) rfl rfl ?_
      refine a_sub (lv' := [(2, .int (nI (c - 96) - 1)), (1, .int (nI (set ||| (2 ^ (c - 97))))), (0, .ref (g_ad G 38))]) [1, 0, 2] rfl ?_
      exact ih (set ||| 2 ^ (c - 97)) (c - 96) (a + 1) (by omega) (Nat.or_lt_two_pow (n := 6) hs h2) (by omega)
    · have e3 : (decide (97 + l ≤ c) && decide (c ≤ 96 + M.1 0)) = false := by
        rw [← Bool.decide_and]; exact decide_eq_false e1
      rw [e3, cond_false] at eR
      rw [eR]
      have e2 : decide (nI (97 + l) ≤ nI c ∧ nI c ≤ nI (97 + M.1 0 - 1)) = false := decide_eq_false (fun z9 => e1 (by
        have z1 := (nI_leI (by omega) (by omega)).mp z9.1
        have z2 := (nI_leI (by omega) (by omega)).mp z9.2
        omega))
      refine a_aload_n 2 36 rfl dX12_readsSet_35 rfl rfl ?_
      refine a_callV (as := []) (rest := []) (st2 := [.int (nI c)]) (u1 := 0) (v1 := 0) (u2 := 0) (v2 := 0) (wh) (⟨_, _, _, _, rfl, rfl⟩) oX12_here q_1560 q_1562 q_113 rfl (by omega) (by decide) rfl (Nat.le_of_ble_eq_true rfl) 39 rfl dX12_readsSet_36 rfl ?_
      refine a_i2l 40 rfl dX12_readsSet_39 ?_
      refine a_bipush (x := 97) 42 rfl dX12_readsSet_40 (by decide) ?_
      refine a_iload_n 0 43 rfl dX12_readsSet_42 rfl rfl ?_
      refine a_iadd 44 rfl dX12_readsSet_43 ?_
      refine a_iconst (x := 1) 45 rfl dX12_readsSet_44 (by decide) ?_
      refine a_iadd 46 rfl dX12_readsSet_45 ?_
      refine a_eq (st2 := [.int (nI (97 + l)), .long ((nI c).toInt64)]) rfl rfl (congrArg (fun z9 => Value.int z9 :: [.long ((nI c).toInt64)]) (f_l97 l)) rfl ?_
      refine a_i2l 47 rfl dX12_readsSet_46 ?_
      refine a_bipush (x := 97) 49 rfl dX12_readsSet_47 (by decide) ?_
      refine a_aload_n 2 50 rfl dX12_readsSet_49 rfl rfl ?_
      refine a_get 0 cl_11 f_RX12_9_11 (by decide) (rfl) rfl 53 rfl dX12_readsSet_50 ?_
      refine a_iadd 54 rfl dX12_readsSet_53 ?_
      refine a_eq (st2 := [.int (nI (97 + (M.1 0))), .long ((nI (97 + l)).toInt64), .long ((nI c).toInt64)]) rfl rfl (congrArg (fun z9 => Value.int z9 :: [.long ((nI (97 + l)).toInt64), .long ((nI c).toInt64)]) (nI_add 97 (M.1 0))) rfl ?_
      refine a_iconst (x := 1) 55 rfl dX12_readsSet_54 (by decide) ?_
      refine a_isub 56 rfl dX12_readsSet_55 ?_
      refine a_eq (st2 := [.int (nI ((97 + (M.1 0)) - 1)), .long ((nI (97 + l)).toInt64), .long ((nI c).toInt64)]) rfl rfl (congrArg (fun z9 => Value.int z9 :: [.long ((nI (97 + l)).toInt64), .long ((nI c).toInt64)]) (pk_sub (a := (97 + (M.1 0))) (b := 1) (by omega))) rfl ?_
      refine a_i2l 57 rfl dX12_readsSet_56 ?_
      refine a_callS (as := [.long ((nI c).toInt64), .long ((nI (97 + l)).toInt64), .long ((nI ((97 + (M.1 0)) - 1)).toInt64)]) (rest := []) (st2 := [.int (f_i (decide ((nI (97 + l)) ≤ (nI c) ∧ (nI c) ≤ (nI ((97 + (M.1 0)) - 1)))))]) (u1 := 0) (v1 := 0) (u2 := 0) (v2 := 0) (r_isInB (y := (nI c)) (a := (nI (97 + l))) (b := (nI ((97 + (M.1 0)) - 1))) rfl rfl) oX12_isIn q_1242 q_1243 rfl (by omega) (by decide) rfl (Nat.le_of_ble_eq_true rfl) 60 rfl dX12_readsSet_57 rfl ?_
      refine a_if_eq 90 63 rfl dX12_readsSet_60 (by decide) (fun _ => ?_) (fun hc => absurd (f_i_F e2) hc)
      refine a_sub (lv' := [(1, .int (nI set)), (0, .ref (g_ad G 38))]) [1, 2] rfl ?_
      exact r_rsT hs
def f_rsM2 (M : f_M) (r : Bool × Int64 × Nat) : f_M := f_ml (f_mn M 11 r.2.2) 2 r.2.1
theorem r_rsM {a : Nat} (hn : M.1 0 ≤ 6) (hf : M.1 9 ≤ 80) (htp : ∀ k, k < M.1 9 → M.2.2.2.1 7 k = nI (tp k) ∧ tp k ≤ 126) (ha : a ≤ M.1 9) : g_Run G mX12_readsSet 3 0 0 [.ref (g_ad G 38)] (g_hp G C (g_hm G (f_ml (f_mn M 11 a) 2 x) ++ ob)) (some (.int (f_i (f_rsS (M.1 0) (M.1 9) tp a x).1))) (g_hp G C (g_hm G (f_rsM2 M (f_rsS (M.1 0) (M.1 9) tp a x)) ++ ob)) := by
  have wl := r_rsL (G := G) (C := C) (ob := ob) (M := f_ml (f_mn M 11 a) 2 x) (tp := tp) (t := M.1 9 - a) hn hf htp 0 0 a (show a + (M.1 9 - a) = M.1 9 by omega) (by omega) (by omega)
  rcases Nat.lt_or_ge a (M.1 9) with e1 | e1
  · obtain ⟨et, ht⟩ := htp a e1
    have wh := r_heA (G := G) (C := C) (ob := ob) (M := f_ml (f_mn M 11 a) 2 x) hf e1
    rw [show (f_ml (f_mn M 11 a) 2 x).2.2.2.1 7 ((f_ml (f_mn M 11 a) 2 x).1 11) = nI (tp a) from et] at wh
    by_cases e2 : tp a = 48
    · have eS : f_rsS (M.1 0) (M.1 9) tp a x = (true, x ||| 1, a + 1) := by unfold f_rsS; rw [decide_eq_true e1, decide_eq_true e2]; rfl
      rw [eS]
      rw [e2] at wh
      refine g_Run.of (lv := [(0, .ref (g_ad G 38))]) (by decide) (Nat.le_of_ble_eq_true rfl) rfl ?_
      refine a_aload_n 0 1 rfl dX12_readsSet_0 rfl rfl ?_
      refine a_callV (as := []) (rest := []) (st2 := [.int (nI 48)]) (u1 := 0) (v1 := 0) (u2 := 0) (v2 := 0) (wh) (⟨_, _, _, _, rfl, rfl⟩) oX12_here q_1560 q_1562 q_113 rfl (by omega) (by decide) rfl (Nat.le_of_ble_eq_true rfl) 4 rfl dX12_readsSet_1 rfl ?_
      refine a_bipush (x := 48) 6 rfl dX12_readsSet_4 (by decide) ?_
      refine a_icmp_ne 31 9 rfl dX12_readsSet_6 (by decide) (fun hc => absurd (rfl) hc) (fun _ => ?_)
      refine a_aload_n 0 10 rfl dX12_readsSet_9 rfl rfl ?_
      refine a_dup 11 rfl dX12_readsSet_10 rfl ?_
      refine a_get 28 cl_11 f_RX12_313_11 (by decide) (rfl) rfl 14 rfl dX12_readsSet_11 ?_
      refine a_iconst (x := 1) 15 rfl dX12_readsSet_14 (by decide) ?_
      refine a_iadd 16 rfl dX12_readsSet_15 ?_
      refine a_eq (st2 := [.int (nI (a + 1)), .ref (g_ad G 38)]) rfl rfl (congrArg (fun z9 => Value.int z9 :: [.ref (g_ad G 38)]) (nI_add a 1)) rfl ?_
      refine a_put (fs' := [.int (nI (M.1 0)), .int (nI (M.1 1)), .int (nI (M.1 2)), .int (nI (M.1 3)), .ref (g_ad G 39), .ref (g_ad G 40), .ref (g_ad G 41), .ref (g_ad G 42), .ref (g_ad G 43), .ref (g_ad G 44), .int (M.2.1 0), .ref (g_ad G 45), .int (nI (M.1 4)), .int (nI (M.1 5)), .int (M.2.1 1), .int (M.2.1 2), .long (M.2.2.1 0), .ref (g_ad G 46), .ref (g_ad G 47), .ref (g_ad G 48), .int (nI (M.1 6)), .long (M.2.2.1 1), .int (nI (M.1 7)), .int (nI (M.1 8)), .ref (g_ad G 49), .ref (g_ad G 50), .int (nI (M.1 9)), .int (nI (M.1 10)), .int (nI (a + 1)), .long x, .ref (g_ad G 51), .ref (g_ad G 52), .ref (g_ad G 53), .ref (g_ad G 54), .ref (g_ad G 55), .ref (g_ad G 56), .ref (g_ad G 57), .ref (g_ad G 58), .ref (g_ad G 59), .ref (g_ad G 60), .ref (g_ad G 61), .ref (g_ad G 62), .int (nI (M.1 12))]) 28 cl_11 f_RX12_313_11 (by decide) (rfl) rfl rfl rfl (Nat.le_of_ble_eq_true rfl) rfl 19 rfl dX12_readsSet_16 ?_
      refine a_eq (h2 := g_hp G C (g_hm G (f_mn (f_ml M 2 x) 11 (a + 1)) ++ ob)) rfl rfl rfl (rfl) ?_
      refine a_aload_n 0 20 rfl dX12_readsSet_19 rfl rfl ?_
      refine a_dup 21 rfl dX12_readsSet_20 rfl ?_
      refine a_get 29 cl_11 f_RX12_319_11 (by decide) (rfl) rfl 24 rfl dX12_readsSet_21 ?_
      refine a_lconst (x := 1) 25 rfl dX12_readsSet_24 (by decide) ?_
      refine a_lor 26 rfl dX12_readsSet_25 ?_
      refine a_put (fs' := [.int (nI (M.1 0)), .int (nI (M.1 1)), .int (nI (M.1 2)), .int (nI (M.1 3)), .ref (g_ad G 39), .ref (g_ad G 40), .ref (g_ad G 41), .ref (g_ad G 42), .ref (g_ad G 43), .ref (g_ad G 44), .int (M.2.1 0), .ref (g_ad G 45), .int (nI (M.1 4)), .int (nI (M.1 5)), .int (M.2.1 1), .int (M.2.1 2), .long (M.2.2.1 0), .ref (g_ad G 46), .ref (g_ad G 47), .ref (g_ad G 48), .int (nI (M.1 6)), .long (M.2.2.1 1), .int (nI (M.1 7)), .int (nI (M.1 8)), .ref (g_ad G 49), .ref (g_ad G 50), .int (nI (M.1 9)), .int (nI (M.1 10)), .int (nI (a + 1)), .long (x ||| 1), .ref (g_ad G 51), .ref (g_ad G 52), .ref (g_ad G 53), .ref (g_ad G 54), .ref (g_ad G 55), .ref (g_ad G 56), .ref (g_ad G 57), .ref (g_ad G 58), .ref (g_ad G 59), .ref (g_ad G 60), .ref (g_ad G 61), .ref (g_ad G 62), .int (nI (M.1 12))]) 29 cl_11 f_RX12_319_11 (by decide) (rfl) rfl rfl rfl (Nat.le_of_ble_eq_true rfl) rfl 29 rfl dX12_readsSet_26 ?_
      refine a_eq (h2 := g_hp G C (g_hm G (f_ml (f_mn M 11 (a + 1)) 2 (x ||| 1)) ++ ob)) rfl rfl rfl (rfl) ?_
      refine a_iconst (x := 1) 30 rfl dX12_readsSet_29 (by decide) ?_
      exact a_ireturn .boolean rfl rfl (rfl) (rfl) dX12_readsSet_30
    · have eS : f_rsS (M.1 0) (M.1 9) tp a x = (!decide ((f_rdM (M.1 0) (M.1 9) tp (M.1 9 - a) 0 0 a).1 = 0), x ||| cond (decide ((f_rdM (M.1 0) (M.1 9) tp (M.1 9 - a) 0 0 a).1 = 0)) 0 (f_sl 1 (nI (f_rdM (M.1 0) (M.1 9) tp (M.1 9 - a) 0 0 a).1)), (f_rdM (M.1 0) (M.1 9) tp (M.1 9 - a) 0 0 a).2) := by unfold f_rsS; rw [decide_eq_true e1, decide_eq_false e2]; rfl
      rw [eS]
      refine g_Run.of (lv := [(0, .ref (g_ad G 38))]) (by decide) (Nat.le_of_ble_eq_true rfl) rfl ?_
      refine a_aload_n 0 1 rfl dX12_readsSet_0 rfl rfl ?_
      refine a_callV (as := []) (rest := []) (st2 := [.int (nI (tp a))]) (u1 := 0) (v1 := 0) (u2 := 0) (v2 := 0) (wh) (⟨_, _, _, _, rfl, rfl⟩) oX12_here q_1560 q_1562 q_113 rfl (by omega) (by decide) rfl (Nat.le_of_ble_eq_true rfl) 4 rfl dX12_readsSet_1 rfl ?_
      refine a_bipush (x := 48) 6 rfl dX12_readsSet_4 (by decide) ?_
      refine a_icmp_ne 31 9 rfl dX12_readsSet_6 (by decide) (fun _ => ?_) (fun hc => absurd hc ((fun z9 => e2 (nI_inj9 (a := tp a) (b := 48) (by omega) (by omega) z9))))
      refine a_iconst (x := 0) 32 rfl dX12_readsSet_31 (by decide) ?_
      refine a_istore_n (lv' := [(1, .int 0), (0, .ref (g_ad G 38))]) 33 rfl dX12_readsSet_32 rfl (by decide) rfl ?_
      refine a_iconst (x := (-1)) 34 rfl dX12_readsSet_33 (by decide) ?_
      refine a_istore_n (lv' := [(2, .int ((-1))), (1, .int 0), (0, .ref (g_ad G 38))]) 35 rfl dX12_readsSet_34 rfl (by decide) rfl ?_
      refine a_sub (lv' := [(2, .int (nI 0 - 1)), (1, .int (nI 0)), (0, .ref (g_ad G 38))]) [0, 1, 2] rfl ?_
      exact wl
  · have eS : f_rsS (M.1 0) (M.1 9) tp a x = (!decide ((f_rdM (M.1 0) (M.1 9) tp (M.1 9 - a) 0 0 a).1 = 0), x ||| cond (decide ((f_rdM (M.1 0) (M.1 9) tp (M.1 9 - a) 0 0 a).1 = 0)) 0 (f_sl 1 (nI (f_rdM (M.1 0) (M.1 9) tp (M.1 9 - a) 0 0 a).1)), (f_rdM (M.1 0) (M.1 9) tp (M.1 9 - a) 0 0 a).2) := by unfold f_rsS; rw [decide_eq_false (show ¬ a < M.1 9 by omega)]; rfl
    rw [eS]
    refine g_Run.of (lv := [(0, .ref (g_ad G 38))]) (by decide) (Nat.le_of_ble_eq_true rfl) rfl ?_
    refine a_aload_n 0 1 rfl dX12_readsSet_0 rfl rfl ?_
    refine a_callV (as := []) (rest := []) (st2 := [.int ((-1))]) (u1 := 0) (v1 := 0) (u2 := 0) (v2 := 0) (r_heB (M := f_ml (f_mn M 11 a) 2 x) hf (show a = M.1 9 by omega)) (⟨_, _, _, _, rfl, rfl⟩) oX12_here q_1560 q_1562 q_113 rfl (by omega) (by decide) rfl (Nat.le_of_ble_eq_true rfl) 4 rfl dX12_readsSet_1 rfl ?_
    refine a_bipush (x := 48) 6 rfl dX12_readsSet_4 (by decide) ?_
    refine a_icmp_ne 31 9 rfl dX12_readsSet_6 (by decide) (fun _ => ?_) (fun hc => absurd hc ((by decide)))
    refine a_iconst (x := 0) 32 rfl dX12_readsSet_31 (by decide) ?_
    refine a_istore_n (lv' := [(1, .int 0), (0, .ref (g_ad G 38))]) 33 rfl dX12_readsSet_32 rfl (by decide) rfl ?_
    refine a_iconst (x := (-1)) 34 rfl dX12_readsSet_33 (by decide) ?_
    refine a_istore_n (lv' := [(2, .int ((-1))), (1, .int 0), (0, .ref (g_ad G 38))]) 35 rfl dX12_readsSet_34 rfl (by decide) rfl ?_
    refine a_sub (lv' := [(2, .int (nI 0 - 1)), (1, .int (nI 0)), (0, .ref (g_ad G 38))]) [0, 1, 2] rfl ?_
    exact wl
def f_reS (M : f_M) (tp : Nat → Nat) : Bool × Int64 × Nat := f_rdA (M.1 0) (M.1 9) tp (M.1 9) (f_rsS (M.1 0) (M.1 9) tp 0 0)
theorem f_rdA_a (n fed : Nat) (tp : Nat → Nat) : ∀ t st, st.2.2 ≤ fed → (f_rdA n fed tp t st).2.2 ≤ fed := by
  intro t
  induction t with
  | zero => intro st h; exact h
  | succ t ih =>
    intro st h
    rw [f_rdA]
    cases e : (st.1 && (decide (st.2.2 < fed) && decide (tp st.2.2 = 44)))
    · exact h
    · rw [cond_true]
      rw [Bool.and_eq_true, Bool.and_eq_true] at e
      have h1 := of_decide_eq_true e.2.1
      exact ih _ (f_rsS_a (by omega)).2
theorem r_readM_ok (hm : M.1 1 ≤ 8) (hn : M.1 0 ≤ 6) (hf : M.1 9 ≤ 80) (htp : ∀ k, k < M.1 9 → M.2.2.2.1 7 k = nI (tp k) ∧ tp k ≤ 126) (hb : ((f_reS M tp).1 && decide ((f_reS M tp).2.2 = M.1 9)) = true) : g_Run G mX12_read 6 0 0 [.ref (g_ad G 38)] (g_hp G C (g_hm G M ++ ob)) (some (.int (if M.1 1 = 8 then -3 else nI (M.1 1)))) (g_hp G C (g_hm G (f_coM (f_mn (f_rsM2 M (f_reS M tp)) 9 0) (f_reS M tp).2.1) ++ ob)) := by
  have key : ∀ t st, st.2.2 ≤ M.1 9 → M.1 9 ≤ st.2.2 + t → (g_A G mX12_read 6 0 0 46 [(1, .int (f_i (f_rdA (M.1 0) (M.1 9) tp t st).1)), (0, .ref (g_ad G 38))] [] (g_hp G C (g_hm G (f_rsM2 M (f_rdA (M.1 0) (M.1 9) tp t st)) ++ ob)) (some (.int (if M.1 1 = 8 then -3 else nI (M.1 1)))) (g_hp G C (g_hm G (f_coM (f_mn (f_rsM2 M (f_reS M tp)) 9 0) (f_reS M tp).2.1) ++ ob))) → g_A G mX12_read 6 0 0 15 [(1, .int (f_i st.1)), (0, .ref (g_ad G 38))] [] (g_hp G C (g_hm G (f_rsM2 M st) ++ ob)) (some (.int (if M.1 1 = 8 then -3 else nI (M.1 1)))) (g_hp G C (g_hm G (f_coM (f_mn (f_rsM2 M (f_reS M tp)) 9 0) (f_reS M tp).2.1) ++ ob)) := by
    intro t
    induction t with
    | zero =>
      intro st h1 h2 kk
      rcases Bool.eq_false_or_eq_true st.1 with e1 | e1
      · skip
        refine a_iload_n 0 16 rfl dX12_read_15 rfl rfl ?_
        refine a_if_eq 46 19 rfl dX12_read_16 (by decide) (fun hc => absurd hc (f_i_T e1)) (fun _ => ?_)
        refine a_aload_n 1 20 rfl dX12_read_19 rfl rfl ?_
        refine a_callV (as := []) (rest := []) (st2 := [.int ((-1))]) (u1 := 0) (v1 := 0) (u2 := 0) (v2 := 0) (r_heB (M := f_ml (f_mn M 11 st.2.2) 2 st.2.1) hf (show st.2.2 = M.1 9 by omega)) (⟨_, _, _, _, rfl, rfl⟩) oX12_here q_1560 q_1562 q_113 rfl (by omega) (by decide) rfl (Nat.le_of_ble_eq_true rfl) 23 rfl dX12_read_20 rfl ?_
        refine a_bipush (x := 44) 25 rfl dX12_read_23 (by decide) ?_
        refine a_icmp_ne 46 28 rfl dX12_read_25 (by decide) (fun _ => ?_) (fun hc => absurd hc ((by decide)))
        refine a_sub (lv' := [(1, .int (f_i (st.1))), (0, .ref (g_ad G 38))]) [0, 1] rfl ?_
        exact kk
      · skip
        refine a_iload_n 0 16 rfl dX12_read_15 rfl rfl ?_
        refine a_if_eq 46 19 rfl dX12_read_16 (by decide) (fun _ => ?_) (fun hc => absurd (f_i_F e1) hc)
        refine a_sub (lv' := [(1, .int (f_i (st.1))), (0, .ref (g_ad G 38))]) [0, 1] rfl ?_
        exact kk
    | succ t ih =>
      intro st h1 h2 kk
      rw [f_rdA] at kk
      rcases Bool.eq_false_or_eq_true st.1 with e1 | e1
      · rcases Nat.lt_or_ge st.2.2 (M.1 9) with e2 | e2
        · obtain ⟨et, ht⟩ := htp st.2.2 e2
          have wh := r_heA (G := G) (C := C) (ob := ob) (M := f_ml (f_mn M 11 st.2.2) 2 st.2.1) hf e2
          rw [show (f_ml (f_mn M 11 st.2.2) 2 st.2.1).2.2.2.1 7 ((f_ml (f_mn M 11 st.2.2) 2 st.2.1).1 11) = nI (tp st.2.2) from et] at wh
          by_cases e3 : tp st.2.2 = 44
          · rw [e1, decide_eq_true e2, decide_eq_true e3] at kk
            rw [e3] at wh
            have hs := f_rsS_a (n := M.1 0) (fed := M.1 9) (tp := tp) (a := st.2.2 + 1) (rs := st.2.1) (by omega)
            refine a_iload_n 0 16 rfl dX12_read_15 rfl rfl ?_
            refine a_if_eq 46 19 rfl dX12_read_16 (by decide) (fun hc => absurd hc (f_i_T e1)) (fun _ => ?_)
            refine a_aload_n 1 20 rfl dX12_read_19 rfl rfl ?_
            refine a_callV (as := []) (rest := []) (st2 := [.int (nI 44)]) (u1 := 0) (v1 := 0) (u2 := 0) (v2 := 0) (wh) (⟨_, _, _, _, rfl, rfl⟩) oX12_here q_1560 q_1562 q_113 rfl (by omega) (by decide) rfl (Nat.le_of_ble_eq_true rfl) 23 rfl dX12_read_20 rfl ?_
            refine a_bipush (x := 44) 25 rfl dX12_read_23 (by decide) ?_
            refine a_icmp_ne 46 28 rfl dX12_read_25 (by decide) (fun hc => absurd (rfl) hc) (fun _ => ?_)
            refine a_aload_n 1 29 rfl dX12_read_28 rfl rfl ?_
            refine a_dup 30 rfl dX12_read_29 rfl ?_
            refine a_get 28 cl_11 f_RX12_313_11 (by decide) (rfl) rfl 33 rfl dX12_read_30 ?_
            refine a_iconst (x := 1) 34 rfl dX12_read_33 (by decide) ?_
            refine a_iadd 35 rfl dX12_read_34 ?_
            refine a_eq (st2 := [.int (nI (st.2.2 + 1)), .ref (g_ad G 38)]) rfl rfl (congrArg (fun z9 => Value.int z9 :: [.ref (g_ad G 38)]) (nI_add st.2.2 1)) rfl ?_
            refine a_put (fs' := [.int (nI (M.1 0)), .int (nI (M.1 1)), .int (nI (M.1 2)), .int (nI (M.1 3)), .ref (g_ad G 39), .ref (g_ad G 40), .ref (g_ad G 41), .ref (g_ad G 42), .ref (g_ad G 43), .ref (g_ad G 44), .int (M.2.1 0), .ref (g_ad G 45), .int (nI (M.1 4)), .int (nI (M.1 5)), .int (M.2.1 1), .int (M.2.1 2), .long (M.2.2.1 0), .ref (g_ad G 46), .ref (g_ad G 47), .ref (g_ad G 48), .int (nI (M.1 6)), .long (M.2.2.1 1), .int (nI (M.1 7)), .int (nI (M.1 8)), .ref (g_ad G 49), .ref (g_ad G 50), .int (nI (M.1 9)), .int (nI (M.1 10)), .int (nI (st.2.2 + 1)), .long st.2.1, .ref (g_ad G 51), .ref (g_ad G 52), .ref (g_ad G 53), .ref (g_ad G 54), .ref (g_ad G 55), .ref (g_ad G 56), .ref (g_ad G 57), .ref (g_ad G 58), .ref (g_ad G 59), .ref (g_ad G 60), .ref (g_ad G 61), .ref (g_ad G 62), .int (nI (M.1 12))]) 28 cl_11 f_RX12_313_11 (by decide) (rfl) rfl rfl rfl (Nat.le_of_ble_eq_true rfl) rfl 38 rfl dX12_read_35 ?_
            refine a_eq (h2 := g_hp G C (g_hm G (f_mn (f_ml M 2 st.2.1) 11 (st.2.2 + 1)) ++ ob)) rfl rfl rfl (rfl) ?_
            refine a_eq (h2 := g_hp G C (g_hm G (f_ml (f_mn M 11 (st.2.2 + 1)) 2 st.2.1) ++ ob)) rfl rfl rfl (rfl) ?_
            refine a_aload_n 1 39 rfl dX12_read_38 rfl rfl ?_
            refine a_callV (as := []) (rest := []) (st2 := [.int (f_i (f_rsS (M.1 0) (M.1 9) tp (st.2.2 + 1) st.2.1).1)]) (u1 := 0) (v1 := 0) (u2 := 0) (v2 := 0) (r_rsM (M := M) (tp := tp) (a := st.2.2 + 1) (x := st.2.1) hn hf htp (by omega)) (⟨_, _, _, _, rfl, rfl⟩) oX12_readsSet q_1556 q_1558 q_112 rfl (by omega) (by decide) rfl (Nat.le_of_ble_eq_true rfl) 42 rfl dX12_read_39 rfl ?_
            refine a_istore_n (lv' := [(1, .int (f_i (f_rsS (M.1 0) (M.1 9) tp (st.2.2 + 1) st.2.1).1)), (0, .ref (g_ad G 38))]) 43 rfl dX12_read_42 rfl (by decide) rfl ?_
            refine a_goto 15 dX12_read_43 (by decide) ?_
            exact ih _ hs.2 (by omega) kk
          · rw [e1, decide_eq_true e2, decide_eq_false e3] at kk
            refine a_iload_n 0 16 rfl dX12_read_15 rfl rfl ?_
            refine a_if_eq 46 19 rfl dX12_read_16 (by decide) (fun hc => absurd hc (f_i_T e1)) (fun _ => ?_)
            refine a_aload_n 1 20 rfl dX12_read_19 rfl rfl ?_
            refine a_callV (as := []) (rest := []) (st2 := [.int (nI (tp st.2.2))]) (u1 := 0) (v1 := 0) (u2 := 0) (v2 := 0) (wh) (⟨_, _, _, _, rfl, rfl⟩) oX12_here q_1560 q_1562 q_113 rfl (by omega) (by decide) rfl (Nat.le_of_ble_eq_true rfl) 23 rfl dX12_read_20 rfl ?_
            refine a_bipush (x := 44) 25 rfl dX12_read_23 (by decide) ?_
            refine a_icmp_ne 46 28 rfl dX12_read_25 (by decide) (fun _ => ?_) (fun hc => absurd hc ((fun z9 => e3 (nI_inj9 (a := tp st.2.2) (b := 44) (by omega) (by omega) z9))))
            refine a_sub (lv' := [(1, .int (f_i (st.1))), (0, .ref (g_ad G 38))]) [0, 1] rfl ?_
            exact kk
        · rw [e1, decide_eq_false (show ¬ st.2.2 < M.1 9 by omega)] at kk
          refine a_iload_n 0 16 rfl dX12_read_15 rfl rfl ?_
          refine a_if_eq 46 19 rfl dX12_read_16 (by decide) (fun hc => absurd hc (f_i_T e1)) (fun _ => ?_)
          refine a_aload_n 1 20 rfl dX12_read_19 rfl rfl ?_
          refine a_callV (as := []) (rest := []) (st2 := [.int ((-1))]) (u1 := 0) (v1 := 0) (u2 := 0) (v2 := 0) (r_heB (M := f_ml (f_mn M 11 st.2.2) 2 st.2.1) hf (show st.2.2 = M.1 9 by omega)) (⟨_, _, _, _, rfl, rfl⟩) oX12_here q_1560 q_1562 q_113 rfl (by omega) (by decide) rfl (Nat.le_of_ble_eq_true rfl) 23 rfl dX12_read_20 rfl ?_
          refine a_bipush (x := 44) 25 rfl dX12_read_23 (by decide) ?_
          refine a_icmp_ne 46 28 rfl dX12_read_25 (by decide) (fun _ => ?_) (fun hc => absurd hc ((by decide)))
          refine a_sub (lv' := [(1, .int (f_i (st.1))), (0, .ref (g_ad G 38))]) [0, 1] rfl ?_
          exact kk
      · rw [e1] at kk
        refine a_iload_n 0 16 rfl dX12_read_15 rfl rfl ?_
        refine a_if_eq 46 19 rfl dX12_read_16 (by decide) (fun _ => ?_) (fun hc => absurd (f_i_F e1) hc)
        refine a_sub (lv' := [(1, .int (f_i (st.1))), (0, .ref (g_ad G 38))]) [0, 1] rfl ?_
        exact kk
  have ha0 := f_rsS_a (n := M.1 0) (fed := M.1 9) (tp := tp) (a := 0) (rs := 0) (by omega)
  have ha := f_rdA_a (M.1 0) (M.1 9) tp (M.1 9) (f_rsS (M.1 0) (M.1 9) tp 0 0) ha0.2
  obtain ⟨st, es⟩ : ∃ st, st = f_reS M tp := ⟨_, rfl⟩
  refine g_Run.of (lv := [(0, .ref (g_ad G 38))]) (by decide) (Nat.le_of_ble_eq_true rfl) rfl ?_
  refine a_aload_n 0 1 rfl dX12_read_0 rfl rfl ?_
  refine a_iconst (x := 0) 2 rfl dX12_read_1 (by decide) ?_
  refine a_put (fs' := [.int (nI (M.1 0)), .int (nI (M.1 1)), .int (nI (M.1 2)), .int (nI (M.1 3)), .ref (g_ad G 39), .ref (g_ad G 40), .ref (g_ad G 41), .ref (g_ad G 42), .ref (g_ad G 43), .ref (g_ad G 44), .int (M.2.1 0), .ref (g_ad G 45), .int (nI (M.1 4)), .int (nI (M.1 5)), .int (M.2.1 1), .int (M.2.1 2), .long (M.2.2.1 0), .ref (g_ad G 46), .ref (g_ad G 47), .ref (g_ad G 48), .int (nI (M.1 6)), .long (M.2.2.1 1), .int (nI (M.1 7)), .int (nI (M.1 8)), .ref (g_ad G 49), .ref (g_ad G 50), .int (nI (M.1 9)), .int (nI (M.1 10)), .int 0, .long (M.2.2.1 2), .ref (g_ad G 51), .ref (g_ad G 52), .ref (g_ad G 53), .ref (g_ad G 54), .ref (g_ad G 55), .ref (g_ad G 56), .ref (g_ad G 57), .ref (g_ad G 58), .ref (g_ad G 59), .ref (g_ad G 60), .ref (g_ad G 61), .ref (g_ad G 62), .int (nI (M.1 12))]) 28 cl_11 f_RX12_313_11 (by decide) (rfl) rfl rfl rfl (Nat.le_of_ble_eq_true rfl) rfl 5 rfl dX12_read_2 ?_
  refine a_eq (h2 := g_hp G C (g_hm G (f_mn M 11 0) ++ ob)) rfl rfl rfl (rfl) ?_
  refine a_aload_n 0 6 rfl dX12_read_5 rfl rfl ?_
  refine a_lconst (x := 0) 7 rfl dX12_read_6 (by decide) ?_
  refine a_put (fs' := [.int (nI (M.1 0)), .int (nI (M.1 1)), .int (nI (M.1 2)), .int (nI (M.1 3)), .ref (g_ad G 39), .ref (g_ad G 40), .ref (g_ad G 41), .ref (g_ad G 42), .ref (g_ad G 43), .ref (g_ad G 44), .int (M.2.1 0), .ref (g_ad G 45), .int (nI (M.1 4)), .int (nI (M.1 5)), .int (M.2.1 1), .int (M.2.1 2), .long (M.2.2.1 0), .ref (g_ad G 46), .ref (g_ad G 47), .ref (g_ad G 48), .int (nI (M.1 6)), .long (M.2.2.1 1), .int (nI (M.1 7)), .int (nI (M.1 8)), .ref (g_ad G 49), .ref (g_ad G 50), .int (nI (M.1 9)), .int (nI (M.1 10)), .int (nI 0), .long 0, .ref (g_ad G 51), .ref (g_ad G 52), .ref (g_ad G 53), .ref (g_ad G 54), .ref (g_ad G 55), .ref (g_ad G 56), .ref (g_ad G 57), .ref (g_ad G 58), .ref (g_ad G 59), .ref (g_ad G 60), .ref (g_ad G 61), .ref (g_ad G 62), .int (nI (M.1 12))]) 29 cl_11 f_RX12_319_11 (by decide) (rfl) rfl rfl rfl (Nat.le_of_ble_eq_true rfl) rfl 10 rfl dX12_read_7 ?_
  refine a_eq (h2 := g_hp G C (g_hm G (f_ml (f_mn M 11 0) 2 0) ++ ob)) rfl rfl rfl (rfl) ?_
  refine a_aload_n 0 11 rfl dX12_read_10 rfl rfl ?_
  refine a_callV (as := []) (rest := []) (st2 := [.int (f_i (f_rsS (M.1 0) (M.1 9) tp 0 0).1)]) (u1 := 0) (v1 := 0) (u2 := 0) (v2 := 0) (r_rsM (M := M) (tp := tp) (a := 0) (x := 0) hn hf htp (by omega)) (⟨_, _, _, _, rfl, rfl⟩) oX12_readsSet q_1556 q_1558 q_112 rfl (by omega) (by decide) rfl (Nat.le_of_ble_eq_true rfl) 14 rfl dX12_read_11 rfl ?_
  refine a_istore_n (lv' := [(1, .int (f_i (f_rsS (M.1 0) (M.1 9) tp 0 0).1)), (0, .ref (g_ad G 38))]) 15 rfl dX12_read_14 rfl (by decide) rfl ?_
  refine key (M.1 9) (f_rsS (M.1 0) (M.1 9) tp 0 0) ha0.2 (by omega) ?_
  rw [show f_rdA (M.1 0) (M.1 9) tp (M.1 9) (f_rsS (M.1 0) (M.1 9) tp 0 0) = st from es.symm] at ha ⊢
  rw [← es] at hb ⊢
  clear es key ha0
  refine a_iload_n 0 47 rfl dX12_read_46 rfl rfl ?_
  refine a_aload_n 1 48 rfl dX12_read_47 rfl rfl ?_
  refine a_get 28 cl_11 f_RX12_313_11 (by decide) (rfl) rfl 51 rfl dX12_read_48 ?_
  refine a_aload_n 1 52 rfl dX12_read_51 rfl rfl ?_
  refine a_get 26 cl_11 f_RX12_310_11 (by decide) (rfl) rfl 55 rfl dX12_read_52 ?_
  refine g_sfx (pc := 63) (lv := [(1, .int (f_i (st.1))), (0, .ref (g_ad G 38))]) (st := [.int (f_i (decide (st.2.2 = (M.1 9)))), .int (f_i (st.1))]) (h := (g_hp G C (g_hm G (f_ml (f_mn M 11 st.2.2) 2 st.2.1) ++ ob))) (fun key => ?_) ?_
  · skip
    rcases Bool.eq_false_or_eq_true (decide (st.2.2 = (M.1 9))) with c55_1 | c55_1
    · skip
      have dc55_1 := of_decide_eq_true c55_1
      refine a_icmp_ne 62 58 rfl dX12_read_55 (by decide) (fun hc => absurd (congrArg nI (of_decide_eq_true c55_1)) hc) (fun _ => ?_)
      refine a_iconst (x := 1) 59 rfl dX12_read_58 (by decide) ?_
      refine a_goto 63 dX12_read_59 (by decide) ?_
      exact a_eq rfl (rfl) (by rw [c55_1]; rfl) rfl key
    · skip
      have dc55_1 := of_decide_eq_false c55_1
      refine a_icmp_ne 62 58 rfl dX12_read_55 (by decide) (fun _ => ?_) (fun hc => absurd hc (fun z9 => of_decide_eq_false c55_1 (nI_inj9 (a := st.2.2) (b := (M.1 9)) (by omega) (by omega) z9)))
      refine a_iconst (x := 0) 63 rfl dX12_read_62 (by decide) ?_
      exact a_eq rfl (rfl) (by rw [c55_1]; rfl) rfl key
  refine a_iand 64 rfl dX12_read_63 ?_
  refine a_eq (st2 := [.int (f_i ((st.1) && (decide (st.2.2 = (M.1 9)))))]) rfl rfl (congrArg (fun z9 => Value.int z9 :: []) (f_i_and (st.1) (decide (st.2.2 = (M.1 9))))) rfl ?_
  refine a_istore_n (lv' := [(1, .int (f_i ((st.1) && (decide (st.2.2 = (M.1 9)))))), (0, .ref (g_ad G 38))]) 65 rfl dX12_read_64 rfl (by decide) rfl ?_
  refine a_aload_n 1 66 rfl dX12_read_65 rfl rfl ?_
  refine a_iconst (x := 0) 67 rfl dX12_read_66 (by decide) ?_
  refine a_put (fs' := [.int (nI (M.1 0)), .int (nI (M.1 1)), .int (nI (M.1 2)), .int (nI (M.1 3)), .ref (g_ad G 39), .ref (g_ad G 40), .ref (g_ad G 41), .ref (g_ad G 42), .ref (g_ad G 43), .ref (g_ad G 44), .int (M.2.1 0), .ref (g_ad G 45), .int (nI (M.1 4)), .int (nI (M.1 5)), .int (M.2.1 1), .int (M.2.1 2), .long (M.2.2.1 0), .ref (g_ad G 46), .ref (g_ad G 47), .ref (g_ad G 48), .int (nI (M.1 6)), .long (M.2.2.1 1), .int (nI (M.1 7)), .int (nI (M.1 8)), .ref (g_ad G 49), .ref (g_ad G 50), .int 0, .int (nI (M.1 10)), .int (nI st.2.2), .long st.2.1, .ref (g_ad G 51), .ref (g_ad G 52), .ref (g_ad G 53), .ref (g_ad G 54), .ref (g_ad G 55), .ref (g_ad G 56), .ref (g_ad G 57), .ref (g_ad G 58), .ref (g_ad G 59), .ref (g_ad G 60), .ref (g_ad G 61), .ref (g_ad G 62), .int (nI (M.1 12))]) 26 cl_11 f_RX12_310_11 (by decide) (rfl) rfl rfl rfl (Nat.le_of_ble_eq_true rfl) rfl 70 rfl dX12_read_67 ?_
  refine a_eq (h2 := g_hp G C (g_hm G (f_mn (f_ml (f_mn M 11 st.2.2) 2 st.2.1) 9 0) ++ ob)) rfl rfl rfl (rfl) ?_
  refine a_iload_n 0 71 rfl dX12_read_70 rfl rfl ?_
  refine a_if_eq 85 74 rfl dX12_read_71 (by decide) (fun hc => absurd hc (f_i_T hb)) (fun _ => ?_)
  refine a_aload_n 1 75 rfl dX12_read_74 rfl rfl ?_
  refine a_aload_n 1 76 rfl dX12_read_75 rfl rfl ?_
  refine a_get 29 cl_11 f_RX12_319_11 (by decide) (rfl) rfl 79 rfl dX12_read_76 ?_
  refine a_callV (as := [.long st.2.1]) (rest := []) (st2 := [.int (if M.1 1 = 8 then -3 else nI (M.1 1))]) (u1 := 0) (v1 := 0) (u2 := 0) (v2 := 0) (r_comes (M := f_mn (f_ml (f_mn M 11 st.2.2) 2 st.2.1) 9 0) hm) (⟨_, _, _, _, rfl, rfl⟩) oX12_comes q_1261 q_1263 q_86 rfl (by omega) (by decide) rfl (Nat.le_of_ble_eq_true rfl) 82 rfl dX12_read_79 rfl ?_
  refine a_goto 92 dX12_read_82 (by decide) ?_
  exact a_ireturn .int rfl rfl (rfl) (rfl) dX12_read_92

theorem r_readM_no (hm : True) (hn : M.1 0 ≤ 6) (hf : M.1 9 ≤ 80) (htp : ∀ k, k < M.1 9 → M.2.2.2.1 7 k = nI (tp k) ∧ tp k ≤ 126) (hb : ((f_reS M tp).1 && decide ((f_reS M tp).2.2 = M.1 9)) = false) : g_Run G mX12_read 6 0 0 [.ref (g_ad G 38)] (g_hp G C (g_hm G M ++ ob)) (some (.int ((-100) - nI (f_reS M tp).2.2))) (g_hp G C (g_hm G (f_mn (f_rsM2 M (f_reS M tp)) 9 0) ++ ob)) := by
  have key : ∀ t st, st.2.2 ≤ M.1 9 → M.1 9 ≤ st.2.2 + t → (g_A G mX12_read 6 0 0 46 [(1, .int (f_i (f_rdA (M.1 0) (M.1 9) tp t st).1)), (0, .ref (g_ad G 38))] [] (g_hp G C (g_hm G (f_rsM2 M (f_rdA (M.1 0) (M.1 9) tp t st)) ++ ob)) (some (.int ((-100) - nI (f_reS M tp).2.2))) (g_hp G C (g_hm G (f_mn (f_rsM2 M (f_reS M tp)) 9 0) ++ ob))) → g_A G mX12_read 6 0 0 15 [(1, .int (f_i st.1)), (0, .ref (g_ad G 38))] [] (g_hp G C (g_hm G (f_rsM2 M st) ++ ob)) (some (.int ((-100) - nI (f_reS M tp).2.2))) (g_hp G C (g_hm G (f_mn (f_rsM2 M (f_reS M tp)) 9 0) ++ ob)) := by
    intro t
    induction t with
    | zero =>
      intro st h1 h2 kk
      rcases Bool.eq_false_or_eq_true st.1 with e1 | e1
      · skip
        refine a_iload_n 0 16 rfl dX12_read_15 rfl rfl ?_
        refine a_if_eq 46 19 rfl dX12_read_16 (by decide) (fun hc => absurd hc (f_i_T e1)) (fun _ => ?_)
        refine a_aload_n 1 20 rfl dX12_read_19 rfl rfl ?_
        refine a_callV (as := []) (rest := []) (st2 := [.int ((-1))]) (u1 := 0) (v1 := 0) (u2 := 0) (v2 := 0) (r_heB (M := f_ml (f_mn M 11 st.2.2) 2 st.2.1) hf (show st.2.2 = M.1 9 by omega)) (⟨_, _, _, _, rfl, rfl⟩) oX12_here q_1560 q_1562 q_113 rfl (by omega) (by decide) rfl (Nat.le_of_ble_eq_true rfl) 23 rfl dX12_read_20 rfl ?_
        refine a_bipush (x := 44) 25 rfl dX12_read_23 (by decide) ?_
        refine a_icmp_ne 46 28 rfl dX12_read_25 (by decide) (fun _ => ?_) (fun hc => absurd hc ((by decide)))
        refine a_sub (lv' := [(1, .int (f_i (st.1))), (0, .ref (g_ad G 38))]) [0, 1] rfl ?_
        exact kk
      · skip
        refine a_iload_n 0 16 rfl dX12_read_15 rfl rfl ?_
        refine a_if_eq 46 19 rfl dX12_read_16 (by decide) (fun _ => ?_) (fun hc => absurd (f_i_F e1) hc)
        refine a_sub (lv' := [(1, .int (f_i (st.1))), (0, .ref (g_ad G 38))]) [0, 1] rfl ?_
        exact kk
    | succ t ih =>
      intro st h1 h2 kk
      rw [f_rdA] at kk
      rcases Bool.eq_false_or_eq_true st.1 with e1 | e1
      · rcases Nat.lt_or_ge st.2.2 (M.1 9) with e2 | e2
        · obtain ⟨et, ht⟩ := htp st.2.2 e2
          have wh := r_heA (G := G) (C := C) (ob := ob) (M := f_ml (f_mn M 11 st.2.2) 2 st.2.1) hf e2
          rw [show (f_ml (f_mn M 11 st.2.2) 2 st.2.1).2.2.2.1 7 ((f_ml (f_mn M 11 st.2.2) 2 st.2.1).1 11) = nI (tp st.2.2) from et] at wh
          by_cases e3 : tp st.2.2 = 44
          · rw [e1, decide_eq_true e2, decide_eq_true e3] at kk
            rw [e3] at wh
            have hs := f_rsS_a (n := M.1 0) (fed := M.1 9) (tp := tp) (a := st.2.2 + 1) (rs := st.2.1) (by omega)
            refine a_iload_n 0 16 rfl dX12_read_15 rfl rfl ?_
            refine a_if_eq 46 19 rfl dX12_read_16 (by decide) (fun hc => absurd hc (f_i_T e1)) (fun _ => ?_)
            refine a_aload_n 1 20 rfl dX12_read_19 rfl rfl ?_
            refine a_callV (as := []) (rest := []) (st2 := [.int (nI 44)]) (u1 := 0) (v1 := 0) (u2 := 0) (v2 := 0) (wh) (⟨_, _, _, _, rfl, rfl⟩) oX12_here q_1560 q_1562 q_113 rfl (by omega) (by decide) rfl (Nat.le_of_ble_eq_true rfl) 23 rfl dX12_read_20 rfl ?_
            refine a_bipush (x := 44) 25 rfl dX12_read_23 (by decide) ?_
            refine a_icmp_ne 46 28 rfl dX12_read_25 (by decide) (fun hc => absurd (rfl) hc) (fun _ => ?_)
            refine a_aload_n 1 29 rfl dX12_read_28 rfl rfl ?_
            refine a_dup 30 rfl dX12_read_29 rfl ?_
            refine a_get 28 cl_11 f_RX12_313_11 (by decide) (rfl) rfl 33 rfl dX12_read_30 ?_
            refine a_iconst (x := 1) 34 rfl dX12_read_33 (by decide) ?_
            refine a_iadd 35 rfl dX12_read_34 ?_
            refine a_eq (st2 := [.int (nI (st.2.2 + 1)), .ref (g_ad G 38)]) rfl rfl (congrArg (fun z9 => Value.int z9 :: [.ref (g_ad G 38)]) (nI_add st.2.2 1)) rfl ?_
            refine a_put (fs' := [.int (nI (M.1 0)), .int (nI (M.1 1)), .int (nI (M.1 2)), .int (nI (M.1 3)), .ref (g_ad G 39), .ref (g_ad G 40), .ref (g_ad G 41), .ref (g_ad G 42), .ref (g_ad G 43), .ref (g_ad G 44), .int (M.2.1 0), .ref (g_ad G 45), .int (nI (M.1 4)), .int (nI (M.1 5)), .int (M.2.1 1), .int (M.2.1 2), .long (M.2.2.1 0), .ref (g_ad G 46), .ref (g_ad G 47), .ref (g_ad G 48), .int (nI (M.1 6)), .long (M.2.2.1 1), .int (nI (M.1 7)), .int (nI (M.1 8)), .ref (g_ad G 49), .ref (g_ad G 50), .int (nI (M.1 9)), .int (nI (M.1 10)), .int (nI (st.2.2 + 1)), .long st.2.1, .ref (g_ad G 51), .ref (g_ad G 52), .ref (g_ad G 53), .ref (g_ad G 54), .ref (g_ad G 55), .ref (g_ad G 56), .ref (g_ad G 57), .ref (g_ad G 58), .ref (g_ad G 59), .ref (g_ad G 60), .ref (g_ad G 61), .ref (g_ad G 62), .int (nI (M.1 12))]) 28 cl_11 f_RX12_313_11 (by decide) (rfl) rfl rfl rfl (Nat.le_of_ble_eq_true rfl) rfl 38 rfl dX12_read_35 ?_
            refine a_eq (h2 := g_hp G C (g_hm G (f_mn (f_ml M 2 st.2.1) 11 (st.2.2 + 1)) ++ ob)) rfl rfl rfl (rfl) ?_
            refine a_eq (h2 := g_hp G C (g_hm G (f_ml (f_mn M 11 (st.2.2 + 1)) 2 st.2.1) ++ ob)) rfl rfl rfl (rfl) ?_
            refine a_aload_n 1 39 rfl dX12_read_38 rfl rfl ?_
            refine a_callV (as := []) (rest := []) (st2 := [.int (f_i (f_rsS (M.1 0) (M.1 9) tp (st.2.2 + 1) st.2.1).1)]) (u1 := 0) (v1 := 0) (u2 := 0) (v2 := 0) (r_rsM (M := M) (tp := tp) (a := st.2.2 + 1) (x := st.2.1) hn hf htp (by omega)) (⟨_, _, _, _, rfl, rfl⟩) oX12_readsSet q_1556 q_1558 q_112 rfl (by omega) (by decide) rfl (Nat.le_of_ble_eq_true rfl) 42 rfl dX12_read_39 rfl ?_
            refine a_istore_n (lv' := [(1, .int (f_i (f_rsS (M.1 0) (M.1 9) tp (st.2.2 + 1) st.2.1).1)), (0, .ref (g_ad G 38))]) 43 rfl dX12_read_42 rfl (by decide) rfl ?_
            refine a_goto 15 dX12_read_43 (by decide) ?_
            exact ih _ hs.2 (by omega) kk
          · rw [e1, decide_eq_true e2, decide_eq_false e3] at kk
            refine a_iload_n 0 16 rfl dX12_read_15 rfl rfl ?_
            refine a_if_eq 46 19 rfl dX12_read_16 (by decide) (fun hc => absurd hc (f_i_T e1)) (fun _ => ?_)
            refine a_aload_n 1 20 rfl dX12_read_19 rfl rfl ?_
            refine a_callV (as := []) (rest := []) (st2 := [.int (nI (tp st.2.2))]) (u1 := 0) (v1 := 0) (u2 := 0) (v2 := 0) (wh) (⟨_, _, _, _, rfl, rfl⟩) oX12_here q_1560 q_1562 q_113 rfl (by omega) (by decide) rfl (Nat.le_of_ble_eq_true rfl) 23 rfl dX12_read_20 rfl ?_
            refine a_bipush (x := 44) 25 rfl dX12_read_23 (by decide) ?_
            refine a_icmp_ne 46 28 rfl dX12_read_25 (by decide) (fun _ => ?_) (fun hc => absurd hc ((fun z9 => e3 (nI_inj9 (a := tp st.2.2) (b := 44) (by omega) (by omega) z9))))
            refine a_sub (lv' := [(1, .int (f_i (st.1))), (0, .ref (g_ad G 38))]) [0, 1] rfl ?_
            exact kk
        · rw [e1, decide_eq_false (show ¬ st.2.2 < M.1 9 by omega)] at kk
          refine a_iload_n 0 16 rfl dX12_read_15 rfl rfl ?_
          refine a_if_eq 46 19 rfl dX12_read_16 (by decide) (fun hc => absurd hc (f_i_T e1)) (fun _ => ?_)
          refine a_aload_n 1 20 rfl dX12_read_19 rfl rfl ?_
          refine a_callV (as := []) (rest := []) (st2 := [.int ((-1))]) (u1 := 0) (v1 := 0) (u2 := 0) (v2 := 0) (r_heB (M := f_ml (f_mn M 11 st.2.2) 2 st.2.1) hf (show st.2.2 = M.1 9 by omega)) (⟨_, _, _, _, rfl, rfl⟩) oX12_here q_1560 q_1562 q_113 rfl (by omega) (by decide) rfl (Nat.le_of_ble_eq_true rfl) 23 rfl dX12_read_20 rfl ?_
          refine a_bipush (x := 44) 25 rfl dX12_read_23 (by decide) ?_
          refine a_icmp_ne 46 28 rfl dX12_read_25 (by decide) (fun _ => ?_) (fun hc => absurd hc ((by decide)))
          refine a_sub (lv' := [(1, .int (f_i (st.1))), (0, .ref (g_ad G 38))]) [0, 1] rfl ?_
          exact kk
      · rw [e1] at kk
        refine a_iload_n 0 16 rfl dX12_read_15 rfl rfl ?_
        refine a_if_eq 46 19 rfl dX12_read_16 (by decide) (fun _ => ?_) (fun hc => absurd (f_i_F e1) hc)
        refine a_sub (lv' := [(1, .int (f_i (st.1))), (0, .ref (g_ad G 38))]) [0, 1] rfl ?_
        exact kk
  have ha0 := f_rsS_a (n := M.1 0) (fed := M.1 9) (tp := tp) (a := 0) (rs := 0) (by omega)
  have ha := f_rdA_a (M.1 0) (M.1 9) tp (M.1 9) (f_rsS (M.1 0) (M.1 9) tp 0 0) ha0.2
  obtain ⟨st, es⟩ : ∃ st, st = f_reS M tp := ⟨_, rfl⟩
  refine g_Run.of (lv := [(0, .ref (g_ad G 38))]) (by decide) (Nat.le_of_ble_eq_true rfl) rfl ?_
  refine a_aload_n 0 1 rfl dX12_read_0 rfl rfl ?_
  refine a_iconst (x := 0) 2 rfl dX12_read_1 (by decide) ?_
  refine a_put (fs' := [.int (nI (M.1 0)), .int (nI (M.1 1)), .int (nI (M.1 2)), .int (nI (M.1 3)), .ref (g_ad G 39), .ref (g_ad G 40), .ref (g_ad G 41), .ref (g_ad G 42), .ref (g_ad G 43), .ref (g_ad G 44), .int (M.2.1 0), .ref (g_ad G 45), .int (nI (M.1 4)), .int (nI (M.1 5)), .int (M.2.1 1), .int (M.2.1 2), .long (M.2.2.1 0), .ref (g_ad G 46), .ref (g_ad G 47), .ref (g_ad G 48), .int (nI (M.1 6)), .long (M.2.2.1 1), .int (nI (M.1 7)), .int (nI (M.1 8)), .ref (g_ad G 49), .ref (g_ad G 50), .int (nI (M.1 9)), .int (nI (M.1 10)), .int 0, .long (M.2.2.1 2), .ref (g_ad G 51), .ref (g_ad G 52), .ref (g_ad G 53), .ref (g_ad G 54), .ref (g_ad G 55), .ref (g_ad G 56), .ref (g_ad G 57), .ref (g_ad G 58), .ref (g_ad G 59), .ref (g_ad G 60), .ref (g_ad G 61), .ref (g_ad G 62), .int (nI (M.1 12))]) 28 cl_11 f_RX12_313_11 (by decide) (rfl) rfl rfl rfl (Nat.le_of_ble_eq_true rfl) rfl 5 rfl dX12_read_2 ?_
  refine a_eq (h2 := g_hp G C (g_hm G (f_mn M 11 0) ++ ob)) rfl rfl rfl (rfl) ?_
  refine a_aload_n 0 6 rfl dX12_read_5 rfl rfl ?_
  refine a_lconst (x := 0) 7 rfl dX12_read_6 (by decide) ?_
  refine a_put (fs' := [.int (nI (M.1 0)), .int (nI (M.1 1)), .int (nI (M.1 2)), .int (nI (M.1 3)), .ref (g_ad G 39), .ref (g_ad G 40), .ref (g_ad G 41), .ref (g_ad G 42), .ref (g_ad G 43), .ref (g_ad G 44), .int (M.2.1 0), .ref (g_ad G 45), .int (nI (M.1 4)), .int (nI (M.1 5)), .int (M.2.1 1), .int (M.2.1 2), .long (M.2.2.1 0), .ref (g_ad G 46), .ref (g_ad G 47), .ref (g_ad G 48), .int (nI (M.1 6)), .long (M.2.2.1 1), .int (nI (M.1 7)), .int (nI (M.1 8)), .ref (g_ad G 49), .ref (g_ad G 50), .int (nI (M.1 9)), .int (nI (M.1 10)), .int (nI 0), .long 0, .ref (g_ad G 51), .ref (g_ad G 52), .ref (g_ad G 53), .ref (g_ad G 54), .ref (g_ad G 55), .ref (g_ad G 56), .ref (g_ad G 57), .ref (g_ad G 58), .ref (g_ad G 59), .ref (g_ad G 60), .ref (g_ad G 61), .ref (g_ad G 62), .int (nI (M.1 12))]) 29 cl_11 f_RX12_319_11 (by decide) (rfl) rfl rfl rfl (Nat.le_of_ble_eq_true rfl) rfl 10 rfl dX12_read_7 ?_
  refine a_eq (h2 := g_hp G C (g_hm G (f_ml (f_mn M 11 0) 2 0) ++ ob)) rfl rfl rfl (rfl) ?_
  refine a_aload_n 0 11 rfl dX12_read_10 rfl rfl ?_
  refine a_callV (as := []) (rest := []) (st2 := [.int (f_i (f_rsS (M.1 0) (M.1 9) tp 0 0).1)]) (u1 := 0) (v1 := 0) (u2 := 0) (v2 := 0) (r_rsM (M := M) (tp := tp) (a := 0) (x := 0) hn hf htp (by omega)) (⟨_, _, _, _, rfl, rfl⟩) oX12_readsSet q_1556 q_1558 q_112 rfl (by omega) (by decide) rfl (Nat.le_of_ble_eq_true rfl) 14 rfl dX12_read_11 rfl ?_
  refine a_istore_n (lv' := [(1, .int (f_i (f_rsS (M.1 0) (M.1 9) tp 0 0).1)), (0, .ref (g_ad G 38))]) 15 rfl dX12_read_14 rfl (by decide) rfl ?_
  refine key (M.1 9) (f_rsS (M.1 0) (M.1 9) tp 0 0) ha0.2 (by omega) ?_
  rw [show f_rdA (M.1 0) (M.1 9) tp (M.1 9) (f_rsS (M.1 0) (M.1 9) tp 0 0) = st from es.symm] at ha ⊢
  rw [← es] at hb ⊢
  clear es key ha0
  refine a_iload_n 0 47 rfl dX12_read_46 rfl rfl ?_
  refine a_aload_n 1 48 rfl dX12_read_47 rfl rfl ?_
  refine a_get 28 cl_11 f_RX12_313_11 (by decide) (rfl) rfl 51 rfl dX12_read_48 ?_
  refine a_aload_n 1 52 rfl dX12_read_51 rfl rfl ?_
  refine a_get 26 cl_11 f_RX12_310_11 (by decide) (rfl) rfl 55 rfl dX12_read_52 ?_
  refine g_sfx (pc := 63) (lv := [(1, .int (f_i (st.1))), (0, .ref (g_ad G 38))]) (st := [.int (f_i (decide (st.2.2 = (M.1 9)))), .int (f_i (st.1))]) (h := (g_hp G C (g_hm G (f_ml (f_mn M 11 st.2.2) 2 st.2.1) ++ ob))) (fun key => ?_) ?_
  · skip
    rcases Bool.eq_false_or_eq_true (decide (st.2.2 = (M.1 9))) with c55_1 | c55_1
    · skip
      have dc55_1 := of_decide_eq_true c55_1
      refine a_icmp_ne 62 58 rfl dX12_read_55 (by decide) (fun hc => absurd (congrArg nI (of_decide_eq_true c55_1)) hc) (fun _ => ?_)
      refine a_iconst (x := 1) 59 rfl dX12_read_58 (by decide) ?_
      refine a_goto 63 dX12_read_59 (by decide) ?_
      exact a_eq rfl (rfl) (by rw [c55_1]; rfl) rfl key
    · skip
      have dc55_1 := of_decide_eq_false c55_1
      refine a_icmp_ne 62 58 rfl dX12_read_55 (by decide) (fun _ => ?_) (fun hc => absurd hc (fun z9 => of_decide_eq_false c55_1 (nI_inj9 (a := st.2.2) (b := (M.1 9)) (by omega) (by omega) z9)))
      refine a_iconst (x := 0) 63 rfl dX12_read_62 (by decide) ?_
      exact a_eq rfl (rfl) (by rw [c55_1]; rfl) rfl key
  refine a_iand 64 rfl dX12_read_63 ?_
  refine a_eq (st2 := [.int (f_i ((st.1) && (decide (st.2.2 = (M.1 9)))))]) rfl rfl (congrArg (fun z9 => Value.int z9 :: []) (f_i_and (st.1) (decide (st.2.2 = (M.1 9))))) rfl ?_
  refine a_istore_n (lv' := [(1, .int (f_i ((st.1) && (decide (st.2.2 = (M.1 9)))))), (0, .ref (g_ad G 38))]) 65 rfl dX12_read_64 rfl (by decide) rfl ?_
  refine a_aload_n 1 66 rfl dX12_read_65 rfl rfl ?_
  refine a_iconst (x := 0) 67 rfl dX12_read_66 (by decide) ?_
  refine a_put (fs' := [.int (nI (M.1 0)), .int (nI (M.1 1)), .int (nI (M.1 2)), .int (nI (M.1 3)), .ref (g_ad G 39), .ref (g_ad G 40), .ref (g_ad G 41), .ref (g_ad G 42), .ref (g_ad G 43), .ref (g_ad G 44), .int (M.2.1 0), .ref (g_ad G 45), .int (nI (M.1 4)), .int (nI (M.1 5)), .int (M.2.1 1), .int (M.2.1 2), .long (M.2.2.1 0), .ref (g_ad G 46), .ref (g_ad G 47), .ref (g_ad G 48), .int (nI (M.1 6)), .long (M.2.2.1 1), .int (nI (M.1 7)), .int (nI (M.1 8)), .ref (g_ad G 49), .ref (g_ad G 50), .int 0, .int (nI (M.1 10)), .int (nI st.2.2), .long st.2.1, .ref (g_ad G 51), .ref (g_ad G 52), .ref (g_ad G 53), .ref (g_ad G 54), .ref (g_ad G 55), .ref (g_ad G 56), .ref (g_ad G 57), .ref (g_ad G 58), .ref (g_ad G 59), .ref (g_ad G 60), .ref (g_ad G 61), .ref (g_ad G 62), .int (nI (M.1 12))]) 26 cl_11 f_RX12_310_11 (by decide) (rfl) rfl rfl rfl (Nat.le_of_ble_eq_true rfl) rfl 70 rfl dX12_read_67 ?_
  refine a_eq (h2 := g_hp G C (g_hm G (f_mn (f_ml (f_mn M 11 st.2.2) 2 st.2.1) 9 0) ++ ob)) rfl rfl rfl (rfl) ?_
  refine a_iload_n 0 71 rfl dX12_read_70 rfl rfl ?_
  refine a_if_eq 85 74 rfl dX12_read_71 (by decide) (fun _ => ?_) (fun hc => absurd (f_i_F hb) hc)
  refine a_bipush (x := (-100)) 87 rfl dX12_read_85 (by decide) ?_
  refine a_aload_n 1 88 rfl dX12_read_87 rfl rfl ?_
  refine a_get 28 cl_11 f_RX12_313_11 (by decide) (rfl) rfl 91 rfl dX12_read_88 ?_
  refine a_isub 92 rfl dX12_read_91 ?_
  exact a_ireturn .int rfl rfl (rfl) (rfl) dX12_read_92

theorem r_wrsM {c : Nat} {l : List Nat} (hl : l.length < 500) : g_Run G mX12_writes 1 0 0 [.ref (g_ad G 38), .int (nI c)] (g_hp G C (g_hm G (f_wM M l) ++ ob)) none (g_hp G C (g_hm G (f_wM M (l ++ [c])) ++ ob)) := by
  have hcl : (nI l.length).toNatClampNeg = l.length := g_cl (by omega)
  have e9 : f_wM M (l ++ [c]) = f_mn (f_mI M 8 (upd (f_lay (M.2.2.2.1 8) 0 l) l.length (nI c))) 10 (l.length + 1) := by
    unfold f_wM
    rw [f_lay_app, Nat.zero_add, List.length_append]; rfl
  rw [e9]
  refine g_Run.of (lv := [(0, .ref (g_ad G 38)), (1, .int (nI c))]) (by decide) (Nat.le_of_ble_eq_true rfl) rfl ?_
  refine a_aload_n 0 1 rfl dX12_writes_0 rfl rfl ?_
  refine a_get 25 cl_11 f_RX12_56_11 (by decide) (rfl) rfl 4 rfl dX12_writes_1 ?_
  refine a_aload_n 0 5 rfl dX12_writes_4 rfl rfl ?_
  refine a_get 27 cl_11 f_RX12_326_11 (by decide) (rfl) rfl 8 rfl dX12_writes_5 ?_
  refine a_iload_n 1 9 rfl dX12_writes_8 rfl rfl ?_
  refine a_iast (rfl) (vp_in_nI (n := l.length) (by omega) (by omega)) 10 rfl dX12_writes_9 ?_
  refine a_eq (h2 := g_hp G C (g_hm G (f_mI (f_mn M 10 l.length) 8 (upd (f_lay (M.2.2.2.1 8) 0 l) l.length (nI c))) ++ ob)) rfl rfl rfl (by show (((g_hp G C (g_hm G (f_mn (f_mI M 8 (f_lay (M.2.2.2.1 8) 0 l)) 10 l.length) ++ ob)).set 50 (c_I G 500 (upd (f_lay (M.2.2.2.1 8) 0 l) (nI l.length).toNatClampNeg (nI c)))) : List va_E) = _; rw [hcl]; rfl) ?_
  refine a_aload_n 0 11 rfl dX12_writes_10 rfl rfl ?_
  refine a_dup 12 rfl dX12_writes_11 rfl ?_
  refine a_get 27 cl_11 f_RX12_326_11 (by decide) (rfl) rfl 15 rfl dX12_writes_12 ?_
  refine a_iconst (x := 1) 16 rfl dX12_writes_15 (by decide) ?_
  refine a_iadd 17 rfl dX12_writes_16 ?_
  refine a_eq (st2 := [.int (nI (l.length + 1)), .ref (g_ad G 38)]) rfl rfl (congrArg (fun z9 => Value.int z9 :: [.ref (g_ad G 38)]) (nI_add l.length 1)) rfl ?_
  refine a_put (fs' := [.int (nI (M.1 0)), .int (nI (M.1 1)), .int (nI (M.1 2)), .int (nI (M.1 3)), .ref (g_ad G 39), .ref (g_ad G 40), .ref (g_ad G 41), .ref (g_ad G 42), .ref (g_ad G 43), .ref (g_ad G 44), .int (M.2.1 0), .ref (g_ad G 45), .int (nI (M.1 4)), .int (nI (M.1 5)), .int (M.2.1 1), .int (M.2.1 2), .long (M.2.2.1 0), .ref (g_ad G 46), .ref (g_ad G 47), .ref (g_ad G 48), .int (nI (M.1 6)), .long (M.2.2.1 1), .int (nI (M.1 7)), .int (nI (M.1 8)), .ref (g_ad G 49), .ref (g_ad G 50), .int (nI (M.1 9)), .int (nI (l.length + 1)), .int (nI (M.1 11)), .long (M.2.2.1 2), .ref (g_ad G 51), .ref (g_ad G 52), .ref (g_ad G 53), .ref (g_ad G 54), .ref (g_ad G 55), .ref (g_ad G 56), .ref (g_ad G 57), .ref (g_ad G 58), .ref (g_ad G 59), .ref (g_ad G 60), .ref (g_ad G 61), .ref (g_ad G 62), .int (nI (M.1 12))]) 27 cl_11 f_RX12_326_11 (by decide) (rfl) rfl rfl rfl (Nat.le_of_ble_eq_true rfl) rfl 20 rfl dX12_writes_17 ?_
  refine a_eq (h2 := g_hp G C (g_hm G (f_mn (f_mI M 8 (upd (f_lay (M.2.2.2.1 8) 0 l) l.length (nI c))) 10 (l.length + 1)) ++ ob)) rfl rfl rfl (rfl) ?_
  exact a_return rfl (rfl) (rfl) dX12_writes_20
theorem r_wriM_out (hm : M.1 1 ≤ 8) (hi : ¬ vp_in y (M.1 1)) : g_Run G mX12_write 6 0 0 [.ref (g_ad G 38), .int y] (g_hp G C (g_hm G M ++ ob)) (some (.int (-1))) (g_hp G C (g_hm G M ++ ob)) := by
  refine g_Run.of (lv := [(0, .ref (g_ad G 38)), (1, .int y)]) (by decide) (Nat.le_of_ble_eq_true rfl) rfl ?_
  refine a_aload_n 0 1 rfl dX12_write_0 rfl rfl ?_
  refine a_iload_n 1 2 rfl dX12_write_1 rfl rfl ?_
  refine a_callV (as := [.int y]) (rest := []) (st2 := [.int 0]) (u1 := 0) (v1 := 0) (u2 := 0) (v2 := 0) (r_isFam_out hm hi) (⟨_, _, _, _, rfl, rfl⟩) oX12_isFamily q_1273 q_1275 q_87 rfl (by omega) (by decide) rfl (Nat.le_of_ble_eq_true rfl) 5 rfl dX12_write_2 rfl ?_
  refine a_if_ne 10 8 rfl dX12_write_5 (by decide) (fun hc => absurd (rfl) hc) (fun _ => ?_)
  refine a_iconst (x := (-1)) 9 rfl dX12_write_8 (by decide) ?_
  exact a_ireturn .int rfl rfl (rfl) (rfl) dX12_write_9
theorem f_lt2_le (s : Nat) : ∀ e, (f_lt2 s e).length ≤ e := by
  intro e
  induction e with
  | zero => exact Nat.le_refl _
  | succ e ih =>
    rw [f_lt2]
    cases Nat.testBit s e
    · rw [cond_false]; omega
    · rw [cond_true, List.length_append]; show _ + 1 ≤ _; omega
theorem r_wriM (hn : M.1 0 ≤ 6) (hi : f_mis M j T) : g_Run G mX12_write 6 0 0 [.ref (g_ad G 38), .int (nI j)] (g_hp G C (g_hm G M ++ ob)) (some (.int (nI (f_wr2 (M.1 0) (f_mso M T) (2 ^ M.1 0)).length))) (g_hp G C (g_hm G (f_wM M (f_wr2 (M.1 0) (f_mso M T) (2 ^ M.1 0))) ++ ob)) := by
  have hp : 2 ^ M.1 0 ≤ 64 := Nat.pow_le_pow_right (by decide) hn
  have ws := r_mso (G := G) (C := C) (ob := ob) hn hi
  obtain ⟨x, ex⟩ : ∃ x, x = f_mso M T := ⟨_, rfl⟩
  rw [← ex] at ws ⊢
  have k69 : ∀ (r : Option Value) (h' : List va_E) (s9 : Nat) (l2 : List Nat), s9 < 64 → l2.length ≤ 400 → g_A G mX12_write 6 0 0 107 [(4, .int (nI s9)), (2, .long x), (0, .ref (g_ad G 38))] [] (g_hp G C (g_hm G (f_wM M (l2 ++ f_lt2 s9 (M.1 0))) ++ ob)) r h' → g_A G mX12_write 6 0 0 69 [(4, .int (nI s9)), (2, .long x), (0, .ref (g_ad G 38))] [] (g_hp G C (g_hm G (f_wM M l2) ++ ob)) r h' := by
    intro r h' s9 l2 hs9 hl2 kk
    rw [show f_wM M l2 = f_wM M (l2 ++ f_lt2 s9 0) by rw [f_lt2, List.append_nil]]
    refine a_iconst (x := 0) 70 rfl dX12_write_69 (by decide) ?_
    refine a_istore (lv' := [(5, .int 0), (4, .int (nI s9)), (2, .long x), (0, .ref (g_ad G 38))]) 72 rfl dX12_write_70 (by decide) rfl ?_
    refine a_sub (lv' := [(5, .int (nI 0)), (4, .int (nI s9)), (2, .long x), (0, .ref (g_ad G 38))]) [0, 1, 2, 3] rfl ?_
    refine g_for (P := fun e9 => True) (M.1 0) (fun e9 => [(5, .int (nI e9)), (4, .int (nI s9)), (2, .long x), (0, .ref (g_ad G 38))]) (fun e9 => g_hp G C (g_hm G (f_mn (f_mI M 8 (f_lay (M.2.2.2.1 8) 0 (l2 ++ f_lt2 s9 e9))) 10 (l2 ++ f_lt2 s9 e9).length) ++ ob)) (trivial) (fun e9 h_e9 p_e9 k_e9 => ?_) (fun p_e9 => ?_)
    · have hle := f_lt2_le s9 e9
      have hlen : (l2 ++ f_lt2 s9 e9).length < 500 := by rw [List.length_append]; omega
      have eL : f_lt2 s9 (e9 + 1) = cond (Nat.testBit s9 e9) (f_lt2 s9 e9 ++ [97 + e9]) (f_lt2 s9 e9) := rfl
      refine a_iload 0 74 rfl dX12_write_72 rfl ?_
      refine a_aload_n 3 75 rfl dX12_write_74 rfl rfl ?_
      refine a_get 0 cl_11 f_RX12_9_11 (by decide) (rfl) rfl 78 rfl dX12_write_75 ?_
      refine a_icmp_ge 107 81 rfl dX12_write_78 (by decide) (fun hc => absurd hc (nI_ge (a := e9) (b := (M.1 0)) (by omega) (by omega))) (fun _ => ?_)
      refine a_iload 1 83 rfl dX12_write_81 rfl ?_
      refine a_iload 0 85 rfl dX12_write_83 rfl ?_
      refine a_ishr 86 rfl dX12_write_85 ?_
      refine a_iconst (x := 1) 87 rfl dX12_write_86 (by decide) ?_
      refine a_iand 88 rfl dX12_write_87 ?_
      refine a_eq (st2 := [.int (f_i (Nat.testBit s9 e9))]) rfl rfl (congrArg (fun z9 => Value.int z9 :: []) (f_tbI (s := s9) (e := e9) (by omega) (by omega))) rfl ?_
      refine a_iconst (x := 1) 89 rfl dX12_write_88 (by decide) ?_
      rcases Bool.eq_false_or_eq_true (Nat.testBit s9 e9) with e1 | e1
      · rw [e1, cond_true] at eL
        have wr := r_wrsM (G := G) (C := C) (ob := ob) (M := M) (c := 97 + e9) (l := l2 ++ f_lt2 s9 e9) hlen
        rw [List.append_assoc, ← eL] at wr
        refine a_icmp_ne 101 92 rfl dX12_write_89 (by decide) (fun hc => absurd (f_i_T1 e1) hc) (fun _ => ?_)
        refine a_aload_n 3 93 rfl dX12_write_92 rfl rfl ?_
        refine a_bipush (x := 97) 95 rfl dX12_write_93 (by decide) ?_
        refine a_iload 0 97 rfl dX12_write_95 rfl ?_
        refine a_iadd 98 rfl dX12_write_97 ?_
        refine a_eq (st2 := [.int (nI (97 + e9)), .ref (g_ad G 38)]) rfl rfl (congrArg (fun z9 => Value.int z9 :: [.ref (g_ad G 38)]) (nI_add 97 e9)) rfl ?_
        refine a_callV (as := [.int (nI (97 + e9))]) (rest := []) (st2 := []) (u1 := 0) (v1 := 0) (u2 := 0) (v2 := 0) (wr) (⟨_, _, _, _, rfl, rfl⟩) oX12_writes q_1568 q_1570 q_114 rfl (by omega) (by decide) rfl (Nat.le_of_ble_eq_true rfl) 101 rfl dX12_write_98 rfl ?_
        refine a_iinc (y := nI (e9 + 1)) (lv' := [(5, .int (nI (e9 + 1))), (4, .int (nI s9)), (2, .long x), (0, .ref (g_ad G 38))]) 0 104 rfl dX12_write_101 rfl (nI_1 e9) (by decide) rfl ?_
        refine a_goto 72 dX12_write_104 (by decide) ?_
        refine a_sub (lv' := [(5, .int (nI (e9 + 1))), (4, .int (nI s9)), (2, .long x), (0, .ref (g_ad G 38))]) [0, 1, 2, 3] rfl ?_
        exact k_e9 trivial
      · rw [e1, cond_false] at eL
        rw [eL] at k_e9
        refine a_icmp_ne 101 92 rfl dX12_write_89 (by decide) (fun _ => ?_) (fun hc => absurd hc (f_i_F1 e1))
        refine a_iinc (y := nI (e9 + 1)) (lv' := [(5, .int (nI (e9 + 1))), (4, .int (nI s9)), (2, .long x), (0, .ref (g_ad G 38))]) 0 104 rfl dX12_write_101 rfl (nI_1 e9) (by decide) rfl ?_
        refine a_goto 72 dX12_write_104 (by decide) ?_
        refine a_sub (lv' := [(5, .int (nI (e9 + 1))), (4, .int (nI s9)), (2, .long x), (0, .ref (g_ad G 38))]) [0, 1, 2, 3] rfl ?_
        exact k_e9 trivial
    · skip
      refine a_iload 0 74 rfl dX12_write_72 rfl ?_
      refine a_aload_n 3 75 rfl dX12_write_74 rfl rfl ?_
      refine a_get 0 cl_11 f_RX12_9_11 (by decide) (rfl) rfl 78 rfl dX12_write_75 ?_
      refine a_icmp_ge 107 81 rfl dX12_write_78 (by decide) (fun _ => ?_) (fun hc => absurd (nI_le (a := (M.1 0)) (b := (M.1 0)) (by omega) (by omega)) hc)
      refine a_sub (lv' := [(4, .int (nI s9)), (2, .long x), (0, .ref (g_ad G 38))]) [1, 2, 3] rfl ?_
      exact kk
  have k58 : ∀ (r : Option Value) (h' : List va_E) (s9 : Nat) (l2 : List Nat), s9 < 64 → l2.length ≤ 399 → g_A G mX12_write 6 0 0 107 [(4, .int (nI s9)), (2, .long x), (0, .ref (g_ad G 38))] [] (g_hp G C (g_hm G (f_wM M ((l2 ++ cond (decide (s9 = 0)) [48] []) ++ f_lt2 s9 (M.1 0))) ++ ob)) r h' → g_A G mX12_write 6 0 0 58 [(4, .int (nI s9)), (2, .long x), (0, .ref (g_ad G 38))] [] (g_hp G C (g_hm G (f_wM M l2) ++ ob)) r h' := by
    intro r h' s9 l2 hs9 hl2 kk
    rcases Nat.eq_zero_or_pos s9 with e1 | e1
    · rw [decide_eq_true e1, cond_true] at kk
      have wr := r_wrsM (G := G) (C := C) (ob := ob) (M := M) (c := 48) (l := l2) (by omega)
      have k2 := k69 r h' s9 (l2 ++ [48]) hs9 (by rw [List.length_append]; show _ + 1 ≤ _; omega) kk
      refine a_iload 0 60 rfl dX12_write_58 rfl ?_
      refine a_if_ne 69 63 rfl dX12_write_60 (by decide) (fun hc => absurd (congrArg nI (by omega)) hc) (fun _ => ?_)
      refine a_aload_n 2 64 rfl dX12_write_63 rfl rfl ?_
      refine a_bipush (x := 48) 66 rfl dX12_write_64 (by decide) ?_
      refine a_callV (as := [.int 48]) (rest := []) (st2 := []) (u1 := 0) (v1 := 0) (u2 := 0) (v2 := 0) (wr) (⟨_, _, _, _, rfl, rfl⟩) oX12_writes q_1568 q_1570 q_114 rfl (by omega) (by decide) rfl (Nat.le_of_ble_eq_true rfl) 69 rfl dX12_write_66 rfl ?_
      exact k2
    · rw [decide_eq_false (by omega), cond_false, List.append_nil] at kk
      have k2 := k69 r h' s9 l2 hs9 (by omega) kk
      refine a_iload 0 60 rfl dX12_write_58 rfl ?_
      refine a_if_ne 69 63 rfl dX12_write_60 (by decide) (fun _ => ?_) (fun hc => absurd hc (fun z9 => absurd (nI_inj9 (a := s9) (b := 0) (by omega) (by omega) z9) (by omega)))
      exact k2
  refine g_Run.of (lv := [(0, .ref (g_ad G 38)), (1, .int (nI j))]) (by decide) (Nat.le_of_ble_eq_true rfl) rfl ?_
  refine a_aload_n 0 1 rfl dX12_write_0 rfl rfl ?_
  refine a_iload_n 1 2 rfl dX12_write_1 rfl rfl ?_
  refine a_callV (as := [.int (nI j)]) (rest := []) (st2 := [.int 1]) (u1 := 0) (v1 := 0) (u2 := 0) (v2 := 0) (r_isFam_in hi.2.1 hi.1) (⟨_, _, _, _, rfl, rfl⟩) oX12_isFamily q_1273 q_1275 q_87 rfl (by omega) (by decide) rfl (Nat.le_of_ble_eq_true rfl) 5 rfl dX12_write_2 rfl ?_
  refine a_if_ne 10 8 rfl dX12_write_5 (by decide) (fun _ => ?_) (fun hc => absurd hc ((by decide)))
  refine a_aload_n 0 11 rfl dX12_write_10 rfl rfl ?_
  refine a_iload_n 1 12 rfl dX12_write_11 rfl rfl ?_
  refine a_callV (as := [.int (nI j)]) (rest := []) (st2 := [.long x]) (u1 := 0) (v1 := 0) (u2 := 0) (v2 := 0) (ws) (⟨_, _, _, _, rfl, rfl⟩) oX12_setsOf q_1296 q_1298 q_89 rfl (by omega) (by decide) rfl (Nat.le_of_ble_eq_true rfl) 15 rfl dX12_write_12 rfl ?_
  refine a_lstore_n (lv' := [(2, .long x), (0, .ref (g_ad G 38)), (1, .int (nI j))]) 16 rfl dX12_write_15 rfl (by decide) rfl ?_
  refine a_aload_n 1 17 rfl dX12_write_16 rfl rfl ?_
  refine a_iconst (x := 0) 18 rfl dX12_write_17 (by decide) ?_
  refine a_put (fs' := [.int (nI (M.1 0)), .int (nI (M.1 1)), .int (nI (M.1 2)), .int (nI (M.1 3)), .ref (g_ad G 39), .ref (g_ad G 40), .ref (g_ad G 41), .ref (g_ad G 42), .ref (g_ad G 43), .ref (g_ad G 44), .int (M.2.1 0), .ref (g_ad G 45), .int (nI (M.1 4)), .int (nI (M.1 5)), .int (M.2.1 1), .int (M.2.1 2), .long (M.2.2.1 0), .ref (g_ad G 46), .ref (g_ad G 47), .ref (g_ad G 48), .int (nI (M.1 6)), .long (M.2.2.1 1), .int (nI (M.1 7)), .int (nI (M.1 8)), .ref (g_ad G 49), .ref (g_ad G 50), .int (nI (M.1 9)), .int 0, .int (nI (M.1 11)), .long (M.2.2.1 2), .ref (g_ad G 51), .ref (g_ad G 52), .ref (g_ad G 53), .ref (g_ad G 54), .ref (g_ad G 55), .ref (g_ad G 56), .ref (g_ad G 57), .ref (g_ad G 58), .ref (g_ad G 59), .ref (g_ad G 60), .ref (g_ad G 61), .ref (g_ad G 62), .int (nI (M.1 12))]) 27 cl_11 f_RX12_326_11 (by decide) (rfl) rfl rfl rfl (Nat.le_of_ble_eq_true rfl) rfl 21 rfl dX12_write_18 ?_
  refine a_eq (h2 := g_hp G C (g_hm G (f_mI (f_mn M 10 0) 8 (M.2.2.2.1 8)) ++ ob)) rfl rfl rfl (rfl) ?_
  refine a_iconst (x := 0) 22 rfl dX12_write_21 (by decide) ?_
  refine a_istore (lv' := [(4, .int 0), (2, .long x), (0, .ref (g_ad G 38)), (1, .int (nI j))]) 24 rfl dX12_write_22 (by decide) rfl ?_
  refine a_eq (h2 := g_hp G C (g_hm G (f_wM M (f_wr2 (M.1 0) x 0)) ++ ob)) rfl rfl rfl (rfl) ?_
  refine a_sub (lv' := [(4, .int (nI 0)), (2, .long x), (0, .ref (g_ad G 38))]) [0, 1, 2] rfl ?_
  refine g_for (P := fun s9 => True) (2 ^ M.1 0) (fun s9 => [(4, .int (nI s9)), (2, .long x), (0, .ref (g_ad G 38))]) (fun s9 => g_hp G C (g_hm G (f_mn (f_mI M 8 (f_lay (M.2.2.2.1 8) 0 (f_wr2 (M.1 0) x s9))) 10 (f_wr2 (M.1 0) x s9).length) ++ ob)) (trivial) (fun s9 h_s9 p_s9 k_s9 => ?_) (fun p_s9 => ?_)
  · have hb1 := f_wr2_le (M.1 0) x s9
    have hb2 := f_wb2_mono (M.1 0) s9 (2 ^ M.1 0 - s9)
    have hb3 := f_wb2_le (M.1 0) (by omega)
    rw [show s9 + (2 ^ M.1 0 - s9) = 2 ^ M.1 0 by omega] at hb2
    have eW : f_wr2 (M.1 0) x (s9 + 1) = cond (f_b x s9) (f_ws2 (M.1 0) s9 (f_wr2 (M.1 0) x s9)) (f_wr2 (M.1 0) x s9) := rfl
    refine a_iload 0 26 rfl dX12_write_24 rfl ?_
    refine a_aload_n 2 27 rfl dX12_write_26 rfl rfl ?_
    refine a_callV (as := []) (rest := [.int (nI s9)]) (st2 := [.int (nI (2 ^ M.1 0)), .int (nI s9)]) (u1 := 0) (v1 := 0) (u2 := 0) (v2 := 0) (r_allM (M := f_mn (f_mI M 8 (f_lay (M.2.2.2.1 8) 0 (f_wr2 (M.1 0) x s9))) 10 ((f_wr2 (M.1 0) x s9).length)) hn) (⟨_, _, _, _, rfl, rfl⟩) oX12_all q_1253 q_1255 q_85 rfl (by omega) (by decide) rfl (Nat.le_of_ble_eq_true rfl) 30 rfl dX12_write_27 rfl ?_
    refine a_icmp_ge 113 33 rfl dX12_write_30 (by decide) (fun hc => absurd hc (nI_ge (a := s9) (b := (2 ^ M.1 0)) (by omega) (by omega))) (fun _ => ?_)
    refine a_lload_n 1 34 rfl dX12_write_33 rfl rfl ?_
    refine a_iload 0 36 rfl dX12_write_34 rfl ?_
    refine a_callS (as := [.long x, .int (nI s9)]) (rest := []) (st2 := [.int (f_i (f_b x s9))]) (u1 := 0) (v1 := 0) (u2 := 0) (v2 := 0) (r_hasB (s := s9) (by omega)) oX12_has q_1304 q_1305 rfl (by omega) (by decide) rfl (Nat.le_of_ble_eq_true rfl) 39 rfl dX12_write_36 rfl ?_
    rcases Bool.eq_false_or_eq_true (f_b x s9) with e1 | e1
    · rw [e1, cond_true] at eW
      obtain ⟨l9, el⟩ : ∃ l9, l9 = f_wr2 (M.1 0) x s9 := ⟨_, rfl⟩
      rw [← el] at hb1 eW ⊢
      have kk : g_A G mX12_write 6 0 0 107 [(4, .int (nI s9)), (2, .long x), (0, .ref (g_ad G 38))] [] (g_hp G C (g_hm G (f_wM M (f_wr2 (M.1 0) x (s9 + 1))) ++ ob)) (some (.int (nI (f_wr2 (M.1 0) x (2 ^ M.1 0)).length))) (g_hp G C (g_hm G (f_wM M (f_wr2 (M.1 0) x (2 ^ M.1 0))) ++ ob)) := by
        refine a_iinc (y := nI (s9 + 1)) (lv' := [(4, .int (nI (s9 + 1))), (2, .long x), (0, .ref (g_ad G 38))]) 0 110 rfl dX12_write_107 rfl (nI_1 s9) (by decide) rfl ?_
        refine a_goto 24 dX12_write_110 (by decide) ?_
        refine a_sub (lv' := [(4, .int (nI (s9 + 1))), (2, .long x), (0, .ref (g_ad G 38))]) [0, 1, 2] rfl ?_
        exact k_s9 trivial
      rw [eW, f_ws2] at kk
      rcases Nat.eq_zero_or_pos l9.length with e2 | e2
      · rw [decide_eq_true (by omega), cond_true] at kk
        have k2 := k58 _ _ s9 l9 (by omega) (by omega) kk
        refine a_if_ne 45 42 rfl dX12_write_39 (by decide) (fun _ => ?_) (fun hc => absurd hc (f_i_T e1))
        refine a_aload_n 2 46 rfl dX12_write_45 rfl rfl ?_
        refine a_get 27 cl_11 f_RX12_326_11 (by decide) (rfl) rfl 49 rfl dX12_write_46 ?_
        refine a_if_le 58 52 rfl dX12_write_49 (by decide) (fun _ => ?_) (fun hc => absurd (nI_le (a := l9.length) (b := 0) (by omega) (by omega)) hc)
        exact k2
      · rw [decide_eq_false (by omega), cond_false] at kk
        have wr := r_wrsM (G := G) (C := C) (ob := ob) (M := M) (c := 44) (l := l9) (by omega)
        have k2 := k58 _ _ s9 (l9 ++ [44]) (by omega) (by rw [List.length_append]; show _ + 1 ≤ _; omega) kk
        refine a_if_ne 45 42 rfl dX12_write_39 (by decide) (fun _ => ?_) (fun hc => absurd hc (f_i_T e1))
        refine a_aload_n 2 46 rfl dX12_write_45 rfl rfl ?_
        refine a_get 27 cl_11 f_RX12_326_11 (by decide) (rfl) rfl 49 rfl dX12_write_46 ?_
        refine a_if_le 58 52 rfl dX12_write_49 (by decide) (fun hc => absurd hc (nI_ge (a := 0) (b := l9.length) (by omega) (by omega))) (fun _ => ?_)
        refine a_aload_n 2 53 rfl dX12_write_52 rfl rfl ?_
        refine a_bipush (x := 44) 55 rfl dX12_write_53 (by decide) ?_
        refine a_callV (as := [.int 44]) (rest := []) (st2 := []) (u1 := 0) (v1 := 0) (u2 := 0) (v2 := 0) (wr) (⟨_, _, _, _, rfl, rfl⟩) oX12_writes q_1568 q_1570 q_114 rfl (by omega) (by decide) rfl (Nat.le_of_ble_eq_true rfl) 58 rfl dX12_write_55 rfl ?_
        exact k2
    · rw [e1, cond_false] at eW
      rw [eW] at k_s9
      refine a_if_ne 45 42 rfl dX12_write_39 (by decide) (fun hc => absurd (f_i_F e1) hc) (fun _ => ?_)
      refine a_goto 107 dX12_write_42 (by decide) ?_
      refine a_iinc (y := nI (s9 + 1)) (lv' := [(4, .int (nI (s9 + 1))), (2, .long x), (0, .ref (g_ad G 38))]) 0 110 rfl dX12_write_107 rfl (nI_1 s9) (by decide) rfl ?_
      refine a_goto 24 dX12_write_110 (by decide) ?_
      refine a_sub (lv' := [(4, .int (nI (s9 + 1))), (2, .long x), (0, .ref (g_ad G 38))]) [0, 1, 2] rfl ?_
      exact k_s9 trivial
  · skip
    have hb1 := f_wr2_le (M.1 0) x (2 ^ M.1 0)
    have hb3 := f_wb2_le (M.1 0) (by omega)
    refine a_iload 0 26 rfl dX12_write_24 rfl ?_
    refine a_aload_n 2 27 rfl dX12_write_26 rfl rfl ?_
    refine a_callV (as := []) (rest := [.int (nI (2 ^ M.1 0))]) (st2 := [.int (nI (2 ^ M.1 0)), .int (nI (2 ^ M.1 0))]) (u1 := 0) (v1 := 0) (u2 := 0) (v2 := 0) (r_allM (M := f_mn (f_mI M 8 (f_lay (M.2.2.2.1 8) 0 (f_wr2 (M.1 0) x (2 ^ M.1 0)))) 10 (f_wr2 (M.1 0) x (2 ^ M.1 0)).length) hn) (⟨_, _, _, _, rfl, rfl⟩) oX12_all q_1253 q_1255 q_85 rfl (by omega) (by decide) rfl (Nat.le_of_ble_eq_true rfl) 30 rfl dX12_write_27 rfl ?_
    refine a_icmp_ge 113 33 rfl dX12_write_30 (by decide) (fun _ => ?_) (fun hc => absurd (nI_le (a := (2 ^ M.1 0)) (b := (2 ^ M.1 0)) (by omega) (by omega)) hc)
    refine a_aload_n 2 114 rfl dX12_write_113 rfl rfl ?_
    refine a_get 27 cl_11 f_RX12_326_11 (by decide) (rfl) rfl 117 rfl dX12_write_114 ?_
    exact a_ireturn .int rfl rfl (rfl) (rfl) dX12_write_117
end MV1
