/-! bits: the model's call -/
def f_szM (x : Int64) : Nat → Nat
  | 0 => 0
  | s + 1 => f_szM x s + cond (f_b x s) (f_pop (nI s).toInt64) 0
theorem f_szM_le (x : Int64) : ∀ s, s ≤ 64 → f_szM x s ≤ s * 6
  | 0, _ => Nat.zero_le _
  | s + 1, h => by
    have e1 := f_szM_le x s (by omega)
    have e2 := (f_popI s (by omega)).2
    show f_szM x s + cond (f_b x s) (f_pop (nI s).toInt64) 0 ≤ _
    cases f_b x s
    · show f_szM x s + 0 ≤ _; omega
    · show f_szM x s + f_pop (nI s).toInt64 ≤ _; omega
section BM1
variable {G : g_G} {C : f_C} {M : f_M} {ob h : List va_E} {x : Int64} {y y2 y3 : Int32} {i j : Nat} {T : f_T}
theorem r_bitsM_out (hm : M.1 1 ≤ 8) (hi : ¬ vp_in y (M.1 1)) : g_Run G mX12_bits_ 6 0 0 [.ref (g_ad G 38), .int y, .int y2] (g_hp G C (g_hm G M ++ ob)) (some (.long (-9223372036854775808))) (g_hp G C (g_hm G M ++ ob)) := by
  refine g_Run.of (lv := [(0, .ref (g_ad G 38)), (1, .int y), (2, .int y2)]) (by decide) (Nat.le_of_ble_eq_true rfl) rfl ?_
  refine a_aload_n 0 1 rfl dX12_bits__0 rfl rfl ?_
  refine a_iload_n 1 2 rfl dX12_bits__1 rfl rfl ?_
  refine a_callV (as := [.int y]) (rest := []) (st2 := [.int 0]) (u1 := 0) (v1 := 0) (u2 := 0) (v2 := 0) (r_isFam_out hm hi) (⟨_, _, _, _, rfl, rfl⟩) oX12_isFamily q_1273 q_1275 q_87 rfl (by omega) (by decide) rfl (Nat.le_of_ble_eq_true rfl) 5 rfl dX12_bits__2 rfl ?_
  refine a_if_eq 20 8 rfl dX12_bits__5 (by decide) (fun _ => ?_) (fun hc => absurd (rfl) hc)
  refine a_ldc2 q_1295 23 rfl dX12_bits__20 ?_
  exact a_lreturn rfl (rfl) (rfl) dX12_bits__23
theorem r_bitsM_bad (hm : M.1 1 ≤ 8) (hj : j < M.1 1) (hb : ¬ ((0 : Int32) ≤ y2 ∧ y2 ≤ 2)) : g_Run G mX12_bits_ 6 0 0 [.ref (g_ad G 38), .int (nI j), .int y2] (g_hp G C (g_hm G M ++ ob)) (some (.long (-9223372036854775808))) (g_hp G C (g_hm G M ++ ob)) := by
  refine g_Run.of (lv := [(0, .ref (g_ad G 38)), (1, .int (nI j)), (2, .int y2)]) (by decide) (Nat.le_of_ble_eq_true rfl) rfl ?_
  refine a_aload_n 0 1 rfl dX12_bits__0 rfl rfl ?_
  refine a_iload_n 1 2 rfl dX12_bits__1 rfl rfl ?_
  refine a_callV (as := [.int (nI j)]) (rest := []) (st2 := [.int 1]) (u1 := 0) (v1 := 0) (u2 := 0) (v2 := 0) (r_isFam_in hm hj) (⟨_, _, _, _, rfl, rfl⟩) oX12_isFamily q_1273 q_1275 q_87 rfl (by omega) (by decide) rfl (Nat.le_of_ble_eq_true rfl) 5 rfl dX12_bits__2 rfl ?_
  refine a_if_eq 20 8 rfl dX12_bits__5 (by decide) (fun hc => absurd hc ((by decide))) (fun _ => ?_)
  refine a_iload_n 2 9 rfl dX12_bits__8 rfl rfl ?_
  refine a_i2l 10 rfl dX12_bits__9 ?_
  refine a_lconst (x := 0) 11 rfl dX12_bits__10 (by decide) ?_
  refine a_ldc2 q_1404 14 rfl dX12_bits__11 ?_
  refine a_callS (as := [.long y2.toInt64, .long 0, .long 2]) (rest := []) (st2 := [.int (f_i (decide ((0 : Int32) ≤ y2 ∧ y2 ≤ 2)))]) (u1 := 0) (v1 := 0) (u2 := 0) (v2 := 0) (r_isInB (y := y2) (a := 0) (b := 2) rfl rfl) oX12_isIn q_1242 q_1243 rfl (by omega) (by decide) rfl (Nat.le_of_ble_eq_true rfl) 17 rfl dX12_bits__14 rfl ?_
  refine a_if_ne 24 20 rfl dX12_bits__17 (by decide) (fun hc => absurd (f_i_F (decide_eq_false hb)) hc) (fun _ => ?_)
  refine a_ldc2 q_1295 23 rfl dX12_bits__20 ?_
  exact a_lreturn rfl (rfl) (rfl) dX12_bits__23
theorem r_bitsM_0 (hn : M.1 0 ≤ 6) (hi : f_mis M j T) (hz : True) : g_Run G mX12_bits_ 6 0 0 [.ref (g_ad G 38), .int (nI j), .int 0] (g_hp G C (g_hm G M ++ ob)) (some (.long (f_qB (f_pop (f_mso M T)) (2 ^ M.1 0)))) (g_hp G C (g_hm G M ++ ob)) := by
  have hp := f_pop_le (f_mso M T)
  have h2 := f_2n hn
  have hs := f_szM_le (f_mso M T) (2 ^ M.1 0) (by omega)
  refine g_Run.of (lv := [(0, .ref (g_ad G 38)), (1, .int (nI j)), (2, .int 0)]) (by decide) (Nat.le_of_ble_eq_true rfl) rfl ?_
  refine a_aload_n 0 1 rfl dX12_bits__0 rfl rfl ?_
  refine a_iload_n 1 2 rfl dX12_bits__1 rfl rfl ?_
  refine a_callV (as := [.int (nI j)]) (rest := []) (st2 := [.int 1]) (u1 := 0) (v1 := 0) (u2 := 0) (v2 := 0) (r_isFam_in hi.2.1 hi.1) (⟨_, _, _, _, rfl, rfl⟩) oX12_isFamily q_1273 q_1275 q_87 rfl (by omega) (by decide) rfl (Nat.le_of_ble_eq_true rfl) 5 rfl dX12_bits__2 rfl ?_
  refine a_if_eq 20 8 rfl dX12_bits__5 (by decide) (fun hc => absurd hc ((by decide))) (fun _ => ?_)
  refine a_iload_n 2 9 rfl dX12_bits__8 rfl rfl ?_
  refine a_i2l 10 rfl dX12_bits__9 ?_
  refine a_lconst (x := 0) 11 rfl dX12_bits__10 (by decide) ?_
  refine a_ldc2 q_1404 14 rfl dX12_bits__11 ?_
  refine a_callS (as := [.long ((0 : Int32).toInt64), .long 0, .long 2]) (rest := []) (st2 := [.int (f_i (decide ((0 : Int32) ≤ (0 : Int32) ∧ (0 : Int32) ≤ 2)))]) (u1 := 0) (v1 := 0) (u2 := 0) (v2 := 0) (r_isInB (y := (0 : Int32)) (a := 0) (b := 2) rfl rfl) oX12_isIn q_1242 q_1243 rfl (by omega) (by decide) rfl (Nat.le_of_ble_eq_true rfl) 17 rfl dX12_bits__14 rfl ?_
  refine a_if_ne 24 20 rfl dX12_bits__17 (by decide) (fun _ => ?_) (fun hc => absurd hc (f_i_T (by decide)))
  refine a_aload_n 0 25 rfl dX12_bits__24 rfl rfl ?_
  refine a_iload_n 1 26 rfl dX12_bits__25 rfl rfl ?_
  refine a_callV (as := [.int (nI j)]) (rest := []) (st2 := [.long (f_mso M T)]) (u1 := 0) (v1 := 0) (u2 := 0) (v2 := 0) (r_mso hn hi) (⟨_, _, _, _, rfl, rfl⟩) oX12_setsOf q_1296 q_1298 q_89 rfl (by omega) (by decide) rfl (Nat.le_of_ble_eq_true rfl) 29 rfl dX12_bits__26 rfl ?_
  refine a_lstore_n (lv' := [(3, .long (f_mso M T)), (0, .ref (g_ad G 38)), (1, .int (nI j)), (2, .int 0)]) 30 rfl dX12_bits__29 rfl (by decide) rfl ?_
  refine a_iconst (x := 0) 31 rfl dX12_bits__30 (by decide) ?_
  refine a_istore (lv' := [(5, .int 0), (3, .long (f_mso M T)), (0, .ref (g_ad G 38)), (1, .int (nI j)), (2, .int 0)]) 33 rfl dX12_bits__31 (by decide) rfl ?_
  refine a_iconst (x := 0) 34 rfl dX12_bits__33 (by decide) ?_
  refine a_istore (lv' := [(6, .int 0), (5, .int 0), (3, .long (f_mso M T)), (0, .ref (g_ad G 38)), (1, .int (nI j)), (2, .int 0)]) 36 rfl dX12_bits__34 (by decide) rfl ?_
  refine a_sub (lv' := [(6, .int (nI 0)), (5, .int (nI (f_szM (f_mso M T) 0))), (0, .ref (g_ad G 38)), (1, .int (nI j)), (2, .int 0), (3, .long (f_mso M T))]) [0, 1, 3, 4, 5, 2] rfl ?_
  refine g_for (P := fun s9 => True) (2 ^ M.1 0) (fun s9 => [(6, .int (nI s9)), (5, .int (nI (f_szM (f_mso M T) s9))), (0, .ref (g_ad G 38)), (1, .int (nI j)), (2, .int 0), (3, .long (f_mso M T))]) (fun s9 => (g_hp G C (g_hm G M ++ ob))) (trivial) (fun s9 h_s9 p_s9 k_s9 => ?_) (fun p_s9 => ?_)
  · skip
    have hq := f_pop_le (nI s9).toInt64
    refine a_iload 0 38 rfl dX12_bits__36 rfl ?_
    refine a_aload_n 2 39 rfl dX12_bits__38 rfl rfl ?_
    refine a_callV (as := []) (rest := [.int (nI s9)]) (st2 := [.int (nI (2 ^ M.1 0)), .int (nI s9)]) (u1 := 0) (v1 := 0) (u2 := 0) (v2 := 0) (r_allM hn) (⟨_, _, _, _, rfl, rfl⟩) oX12_all q_1253 q_1255 q_85 rfl (by omega) (by decide) rfl (Nat.le_of_ble_eq_true rfl) 42 rfl dX12_bits__39 rfl ?_
    refine a_icmp_ge 75 45 rfl dX12_bits__42 (by decide) (fun hc => absurd hc (nI_ge (a := s9) (b := (2 ^ M.1 0)) (by omega) (by omega))) (fun _ => ?_)
    refine a_iload 1 47 rfl dX12_bits__45 rfl ?_
    refine a_lload_n 5 48 rfl dX12_bits__47 rfl rfl ?_
    refine a_iload 0 50 rfl dX12_bits__48 rfl ?_
    refine a_callS (as := [.long (f_mso M T), .int (nI s9)]) (rest := [.int (nI (f_szM (f_mso M T) s9))]) (st2 := [.int (f_i (f_b (f_mso M T) s9)), .int (nI (f_szM (f_mso M T) s9))]) (u1 := 0) (v1 := 0) (u2 := 0) (v2 := 0) (r_hasB (s := s9) (by omega)) oX12_has q_1304 q_1305 rfl (by omega) (by decide) rfl (Nat.le_of_ble_eq_true rfl) 53 rfl dX12_bits__50 rfl ?_
    refine g_sfx (pc := 66) (lv := [(6, .int (nI s9)), (5, .int (nI (f_szM (f_mso M T) s9))), (0, .ref (g_ad G 38)), (1, .int (nI j)), (2, .int 0), (3, .long (f_mso M T))]) (st := [.int (nI (cond (f_b (f_mso M T) s9) (f_pop ((nI s9).toInt64)) 0)), .int (nI (f_szM (f_mso M T) s9))]) (h := (g_hp G C (g_hm G M ++ ob))) (fun key => ?_) ?_
    · skip
      rcases Bool.eq_false_or_eq_true ((f_b (f_mso M T) s9)) with c53_1 | c53_1
      · skip
        refine a_if_eq 65 56 rfl dX12_bits__53 (by decide) (fun hc => absurd hc (f_i_T c53_1)) (fun _ => ?_)
        refine a_iload 0 58 rfl dX12_bits__56 rfl ?_
        refine a_i2l 59 rfl dX12_bits__58 ?_
        refine a_callS (as := [.long ((nI s9).toInt64)]) (rest := [.int (nI (f_szM (f_mso M T) s9))]) (st2 := [.int (nI (f_pop ((nI s9).toInt64))), .int (nI (f_szM (f_mso M T) s9))]) (u1 := 0) (v1 := 0) (u2 := 0) (v2 := 0) (r_many) oX12_many q_1311 q_1312 rfl (by omega) (by decide) rfl (Nat.le_of_ble_eq_true rfl) 62 rfl dX12_bits__59 rfl ?_
        refine a_goto 66 dX12_bits__62 (by decide) ?_
        exact a_eq rfl (rfl) (by rw [c53_1]; rfl) rfl key
      · skip
        refine a_if_eq 65 56 rfl dX12_bits__53 (by decide) (fun _ => ?_) (fun hc => absurd (f_i_F c53_1) hc)
        refine a_iconst (x := 0) 66 rfl dX12_bits__65 (by decide) ?_
        exact a_eq rfl (rfl) (by rw [c53_1]; rfl) rfl key
    refine a_iadd 67 rfl dX12_bits__66 ?_
    refine a_eq (st2 := [.int (nI ((f_szM (f_mso M T) s9) + (cond (f_b (f_mso M T) s9) (f_pop ((nI s9).toInt64)) 0)))]) rfl rfl (congrArg (fun z9 => Value.int z9 :: []) (nI_add (f_szM (f_mso M T) s9) (cond (f_b (f_mso M T) s9) (f_pop ((nI s9).toInt64)) 0))) rfl ?_
    refine a_istore (lv' := [(5, .int (nI ((f_szM (f_mso M T) s9) + (cond (f_b (f_mso M T) s9) (f_pop ((nI s9).toInt64)) 0)))), (6, .int (nI s9)), (0, .ref (g_ad G 38)), (1, .int (nI j)), (2, .int 0), (3, .long (f_mso M T))]) 69 rfl dX12_bits__67 (by decide) rfl ?_
    refine a_iinc (y := nI (s9 + 1)) (lv' := [(6, .int (nI (s9 + 1))), (5, .int (nI ((f_szM (f_mso M T) s9) + (cond (f_b (f_mso M T) s9) (f_pop ((nI s9).toInt64)) 0)))), (0, .ref (g_ad G 38)), (1, .int (nI j)), (2, .int 0), (3, .long (f_mso M T))]) 1 72 rfl dX12_bits__69 rfl (nI_1 s9) (by decide) rfl ?_
    refine a_goto 36 dX12_bits__72 (by decide) ?_
    refine a_sub (lv' := [(6, .int (nI (s9 + 1))), (5, .int (nI (f_szM (f_mso M T) (s9 + 1)))), (0, .ref (g_ad G 38)), (1, .int (nI j)), (2, .int 0), (3, .long (f_mso M T))]) [0, 1, 2, 3, 4, 5] rfl ?_
    exact k_s9 trivial
  · skip
    refine a_iload 0 38 rfl dX12_bits__36 rfl ?_
    refine a_aload_n 2 39 rfl dX12_bits__38 rfl rfl ?_
    refine a_callV (as := []) (rest := [.int (nI (2 ^ M.1 0))]) (st2 := [.int (nI (2 ^ M.1 0)), .int (nI (2 ^ M.1 0))]) (u1 := 0) (v1 := 0) (u2 := 0) (v2 := 0) (r_allM hn) (⟨_, _, _, _, rfl, rfl⟩) oX12_all q_1253 q_1255 q_85 rfl (by omega) (by decide) rfl (Nat.le_of_ble_eq_true rfl) 42 rfl dX12_bits__39 rfl ?_
    refine a_icmp_ge 75 45 rfl dX12_bits__42 (by decide) (fun _ => ?_) (fun hc => absurd (nI_le (a := (2 ^ M.1 0)) (b := (2 ^ M.1 0)) (by omega) (by omega)) hc)
    refine a_iload_n 4 76 rfl dX12_bits__75 rfl rfl ?_
    refine a_iconst (x := 1) 77 rfl dX12_bits__76 (by decide) ?_
    refine a_icmp_ne 106 80 rfl dX12_bits__77 (by decide) (fun _ => ?_) (fun hc => absurd hc ((by decide)))
    refine a_lload_n 5 107 rfl dX12_bits__106 rfl rfl ?_
    refine a_callS (as := [.long (f_mso M T)]) (rest := []) (st2 := [.int (nI (f_pop (f_mso M T)))]) (u1 := 0) (v1 := 0) (u2 := 0) (v2 := 0) (r_many) oX12_many q_1311 q_1312 rfl (by omega) (by decide) rfl (Nat.le_of_ble_eq_true rfl) 110 rfl dX12_bits__107 rfl ?_
    refine a_i2f 111 rfl dX12_bits__110 ?_
    refine a_aload_n 2 112 rfl dX12_bits__111 rfl rfl ?_
    refine a_callV (as := []) (rest := [.float (FP.i2f (nI (f_pop (f_mso M T))))]) (st2 := [.int (nI (2 ^ M.1 0)), .float (FP.i2f (nI (f_pop (f_mso M T))))]) (u1 := 0) (v1 := 0) (u2 := 0) (v2 := 0) (r_allM hn) (⟨_, _, _, _, rfl, rfl⟩) oX12_all q_1253 q_1255 q_85 rfl (by omega) (by decide) rfl (Nat.le_of_ble_eq_true rfl) 115 rfl dX12_bits__112 rfl ?_
    refine a_i2f 116 rfl dX12_bits__115 ?_
    refine a_fdiv 117 rfl dX12_bits__116 ((f_q_ok (a := f_pop (f_mso M T)) (b := 2 ^ M.1 0) (by omega) h2.1 h2.2)) ?_
    refine a_fstore (lv' := [(6, .float (FP.fdiv (FP.i2f (nI (f_pop (f_mso M T)))) (FP.i2f (nI (2 ^ M.1 0))))), (5, .int (nI (f_szM (f_mso M T) (2 ^ M.1 0)))), (0, .ref (g_ad G 38)), (1, .int (nI j)), (2, .int 0), (3, .long (f_mso M T))]) 119 rfl dX12_bits__117 (by decide) rfl ?_
    refine a_iload_n 4 120 rfl dX12_bits__119 rfl rfl ?_
    refine a_if_ne 132 123 rfl dX12_bits__120 (by decide) (fun hc => absurd (rfl) hc) (fun _ => ?_)
    refine a_fload 0 125 rfl dX12_bits__123 rfl ?_
    refine a_callS (as := [.float (FP.fdiv (FP.i2f (nI (f_pop (f_mso M T)))) (FP.i2f (nI (2 ^ M.1 0))))]) (rest := []) (st2 := [.int ((f_q32 (f_pop (f_mso M T)) (2 ^ M.1 0)).toInt32)]) (u1 := 0) (v1 := 0) (u2 := 0) (v2 := 0) (r_f2bits (f_q_self (a := f_pop (f_mso M T)) (b := 2 ^ M.1 0) (by omega) h2.1 h2.2)) oJxf58ca_floatToIntBits_5c35a q_1501 q_1502 rfl (by omega) (by decide) rfl (Nat.le_of_ble_eq_true rfl) 128 rfl dX12_bits__125 rfl ?_
    refine a_i2l 129 rfl dX12_bits__128 ?_
    refine a_goto 140 dX12_bits__129 (by decide) ?_
    exact a_lreturn rfl (congrArg (fun z9 => some (Value.long z9)) (f_q_bits (a := f_pop (f_mso M T)) (b := 2 ^ M.1 0) (by omega) h2.1 h2.2)) (rfl) dX12_bits__140

theorem r_bitsM_1z (hn : M.1 0 ≤ 6) (hi : f_mis M j T) (hz : f_mso M T = 0) : g_Run G mX12_bits_ 6 0 0 [.ref (g_ad G 38), .int (nI j), .int 1] (g_hp G C (g_hm G M ++ ob)) (some (.long (-9223372036854775808))) (g_hp G C (g_hm G M ++ ob)) := by
  have hp := f_pop_le (f_mso M T)
  have h2 := f_2n hn
  have hs := f_szM_le (f_mso M T) (2 ^ M.1 0) (by omega)
  refine g_Run.of (lv := [(0, .ref (g_ad G 38)), (1, .int (nI j)), (2, .int 1)]) (by decide) (Nat.le_of_ble_eq_true rfl) rfl ?_
  refine a_aload_n 0 1 rfl dX12_bits__0 rfl rfl ?_
  refine a_iload_n 1 2 rfl dX12_bits__1 rfl rfl ?_
  refine a_callV (as := [.int (nI j)]) (rest := []) (st2 := [.int 1]) (u1 := 0) (v1 := 0) (u2 := 0) (v2 := 0) (r_isFam_in hi.2.1 hi.1) (⟨_, _, _, _, rfl, rfl⟩) oX12_isFamily q_1273 q_1275 q_87 rfl (by omega) (by decide) rfl (Nat.le_of_ble_eq_true rfl) 5 rfl dX12_bits__2 rfl ?_
  refine a_if_eq 20 8 rfl dX12_bits__5 (by decide) (fun hc => absurd hc ((by decide))) (fun _ => ?_)
  refine a_iload_n 2 9 rfl dX12_bits__8 rfl rfl ?_
  refine a_i2l 10 rfl dX12_bits__9 ?_
  refine a_lconst (x := 0) 11 rfl dX12_bits__10 (by decide) ?_
  refine a_ldc2 q_1404 14 rfl dX12_bits__11 ?_
  refine a_callS (as := [.long ((1 : Int32).toInt64), .long 0, .long 2]) (rest := []) (st2 := [.int (f_i (decide ((0 : Int32) ≤ (1 : Int32) ∧ (1 : Int32) ≤ 2)))]) (u1 := 0) (v1 := 0) (u2 := 0) (v2 := 0) (r_isInB (y := (1 : Int32)) (a := 0) (b := 2) rfl rfl) oX12_isIn q_1242 q_1243 rfl (by omega) (by decide) rfl (Nat.le_of_ble_eq_true rfl) 17 rfl dX12_bits__14 rfl ?_
  refine a_if_ne 24 20 rfl dX12_bits__17 (by decide) (fun _ => ?_) (fun hc => absurd hc (f_i_T (by decide)))
  refine a_aload_n 0 25 rfl dX12_bits__24 rfl rfl ?_
  refine a_iload_n 1 26 rfl dX12_bits__25 rfl rfl ?_
  refine a_callV (as := [.int (nI j)]) (rest := []) (st2 := [.long (f_mso M T)]) (u1 := 0) (v1 := 0) (u2 := 0) (v2 := 0) (r_mso hn hi) (⟨_, _, _, _, rfl, rfl⟩) oX12_setsOf q_1296 q_1298 q_89 rfl (by omega) (by decide) rfl (Nat.le_of_ble_eq_true rfl) 29 rfl dX12_bits__26 rfl ?_
  refine a_lstore_n (lv' := [(3, .long (f_mso M T)), (0, .ref (g_ad G 38)), (1, .int (nI j)), (2, .int 1)]) 30 rfl dX12_bits__29 rfl (by decide) rfl ?_
  refine a_iconst (x := 0) 31 rfl dX12_bits__30 (by decide) ?_
  refine a_istore (lv' := [(5, .int 0), (3, .long (f_mso M T)), (0, .ref (g_ad G 38)), (1, .int (nI j)), (2, .int 1)]) 33 rfl dX12_bits__31 (by decide) rfl ?_
  refine a_iconst (x := 0) 34 rfl dX12_bits__33 (by decide) ?_
  refine a_istore (lv' := [(6, .int 0), (5, .int 0), (3, .long (f_mso M T)), (0, .ref (g_ad G 38)), (1, .int (nI j)), (2, .int 1)]) 36 rfl dX12_bits__34 (by decide) rfl ?_
  refine a_sub (lv' := [(6, .int (nI 0)), (5, .int (nI (f_szM (f_mso M T) 0))), (0, .ref (g_ad G 38)), (1, .int (nI j)), (2, .int 1), (3, .long (f_mso M T))]) [0, 1, 3, 4, 5, 2] rfl ?_
  refine g_for (P := fun s9 => True) (2 ^ M.1 0) (fun s9 => [(6, .int (nI s9)), (5, .int (nI (f_szM (f_mso M T) s9))), (0, .ref (g_ad G 38)), (1, .int (nI j)), (2, .int 1), (3, .long (f_mso M T))]) (fun s9 => (g_hp G C (g_hm G M ++ ob))) (trivial) (fun s9 h_s9 p_s9 k_s9 => ?_) (fun p_s9 => ?_)
  · skip
    have hq := f_pop_le (nI s9).toInt64
    refine a_iload 0 38 rfl dX12_bits__36 rfl ?_
    refine a_aload_n 2 39 rfl dX12_bits__38 rfl rfl ?_
    refine a_callV (as := []) (rest := [.int (nI s9)]) (st2 := [.int (nI (2 ^ M.1 0)), .int (nI s9)]) (u1 := 0) (v1 := 0) (u2 := 0) (v2 := 0) (r_allM hn) (⟨_, _, _, _, rfl, rfl⟩) oX12_all q_1253 q_1255 q_85 rfl (by omega) (by decide) rfl (Nat.le_of_ble_eq_true rfl) 42 rfl dX12_bits__39 rfl ?_
    refine a_icmp_ge 75 45 rfl dX12_bits__42 (by decide) (fun hc => absurd hc (nI_ge (a := s9) (b := (2 ^ M.1 0)) (by omega) (by omega))) (fun _ => ?_)
    refine a_iload 1 47 rfl dX12_bits__45 rfl ?_
    refine a_lload_n 5 48 rfl dX12_bits__47 rfl rfl ?_
    refine a_iload 0 50 rfl dX12_bits__48 rfl ?_
    refine a_callS (as := [.long (f_mso M T), .int (nI s9)]) (rest := [.int (nI (f_szM (f_mso M T) s9))]) (st2 := [.int (f_i (f_b (f_mso M T) s9)), .int (nI (f_szM (f_mso M T) s9))]) (u1 := 0) (v1 := 0) (u2 := 0) (v2 := 0) (r_hasB (s := s9) (by omega)) oX12_has q_1304 q_1305 rfl (by omega) (by decide) rfl (Nat.le_of_ble_eq_true rfl) 53 rfl dX12_bits__50 rfl ?_
    refine g_sfx (pc := 66) (lv := [(6, .int (nI s9)), (5, .int (nI (f_szM (f_mso M T) s9))), (0, .ref (g_ad G 38)), (1, .int (nI j)), (2, .int 1), (3, .long (f_mso M T))]) (st := [.int (nI (cond (f_b (f_mso M T) s9) (f_pop ((nI s9).toInt64)) 0)), .int (nI (f_szM (f_mso M T) s9))]) (h := (g_hp G C (g_hm G M ++ ob))) (fun key => ?_) ?_
    · skip
      rcases Bool.eq_false_or_eq_true ((f_b (f_mso M T) s9)) with c53_1 | c53_1
      · skip
        refine a_if_eq 65 56 rfl dX12_bits__53 (by decide) (fun hc => absurd hc (f_i_T c53_1)) (fun _ => ?_)
        refine a_iload 0 58 rfl dX12_bits__56 rfl ?_
        refine a_i2l 59 rfl dX12_bits__58 ?_
        refine a_callS (as := [.long ((nI s9).toInt64)]) (rest := [.int (nI (f_szM (f_mso M T) s9))]) (st2 := [.int (nI (f_pop ((nI s9).toInt64))), .int (nI (f_szM (f_mso M T) s9))]) (u1 := 0) (v1 := 0) (u2 := 0) (v2 := 0) (r_many) oX12_many q_1311 q_1312 rfl (by omega) (by decide) rfl (Nat.le_of_ble_eq_true rfl) 62 rfl dX12_bits__59 rfl ?_
        refine a_goto 66 dX12_bits__62 (by decide) ?_
        exact a_eq rfl (rfl) (by rw [c53_1]; rfl) rfl key
      · skip
        refine a_if_eq 65 56 rfl dX12_bits__53 (by decide) (fun _ => ?_) (fun hc => absurd (f_i_F c53_1) hc)
        refine a_iconst (x := 0) 66 rfl dX12_bits__65 (by decide) ?_
        exact a_eq rfl (rfl) (by rw [c53_1]; rfl) rfl key
    refine a_iadd 67 rfl dX12_bits__66 ?_
    refine a_eq (st2 := [.int (nI ((f_szM (f_mso M T) s9) + (cond (f_b (f_mso M T) s9) (f_pop ((nI s9).toInt64)) 0)))]) rfl rfl (congrArg (fun z9 => Value.int z9 :: []) (nI_add (f_szM (f_mso M T) s9) (cond (f_b (f_mso M T) s9) (f_pop ((nI s9).toInt64)) 0))) rfl ?_
    refine a_istore (lv' := [(5, .int (nI ((f_szM (f_mso M T) s9) + (cond (f_b (f_mso M T) s9) (f_pop ((nI s9).toInt64)) 0)))), (6, .int (nI s9)), (0, .ref (g_ad G 38)), (1, .int (nI j)), (2, .int 1), (3, .long (f_mso M T))]) 69 rfl dX12_bits__67 (by decide) rfl ?_
    refine a_iinc (y := nI (s9 + 1)) (lv' := [(6, .int (nI (s9 + 1))), (5, .int (nI ((f_szM (f_mso M T) s9) + (cond (f_b (f_mso M T) s9) (f_pop ((nI s9).toInt64)) 0)))), (0, .ref (g_ad G 38)), (1, .int (nI j)), (2, .int 1), (3, .long (f_mso M T))]) 1 72 rfl dX12_bits__69 rfl (nI_1 s9) (by decide) rfl ?_
    refine a_goto 36 dX12_bits__72 (by decide) ?_
    refine a_sub (lv' := [(6, .int (nI (s9 + 1))), (5, .int (nI (f_szM (f_mso M T) (s9 + 1)))), (0, .ref (g_ad G 38)), (1, .int (nI j)), (2, .int 1), (3, .long (f_mso M T))]) [0, 1, 2, 3, 4, 5] rfl ?_
    exact k_s9 trivial
  · skip
    refine a_iload 0 38 rfl dX12_bits__36 rfl ?_
    refine a_aload_n 2 39 rfl dX12_bits__38 rfl rfl ?_
    refine a_callV (as := []) (rest := [.int (nI (2 ^ M.1 0))]) (st2 := [.int (nI (2 ^ M.1 0)), .int (nI (2 ^ M.1 0))]) (u1 := 0) (v1 := 0) (u2 := 0) (v2 := 0) (r_allM hn) (⟨_, _, _, _, rfl, rfl⟩) oX12_all q_1253 q_1255 q_85 rfl (by omega) (by decide) rfl (Nat.le_of_ble_eq_true rfl) 42 rfl dX12_bits__39 rfl ?_
    refine a_icmp_ge 75 45 rfl dX12_bits__42 (by decide) (fun _ => ?_) (fun hc => absurd (nI_le (a := (2 ^ M.1 0)) (b := (2 ^ M.1 0)) (by omega) (by omega)) hc)
    refine a_iload_n 4 76 rfl dX12_bits__75 rfl rfl ?_
    refine a_iconst (x := 1) 77 rfl dX12_bits__76 (by decide) ?_
    refine a_icmp_ne 106 80 rfl dX12_bits__77 (by decide) (fun hc => absurd (rfl) hc) (fun _ => ?_)
    refine a_lload_n 5 81 rfl dX12_bits__80 rfl rfl ?_
    refine a_lconst (x := 0) 82 rfl dX12_bits__81 (by decide) ?_
    refine a_lcmp 83 rfl dX12_bits__82 ?_
    refine a_if_ne 92 86 rfl dX12_bits__83 (by decide) (fun hc => absurd (g_cmp_eq.mpr hz) hc) (fun _ => ?_)
    refine a_ldc2 q_1295 89 rfl dX12_bits__86 ?_
    refine a_goto 105 dX12_bits__89 (by decide) ?_
    exact a_lreturn rfl (rfl) (rfl) dX12_bits__105

theorem r_bitsM_1 (hn : M.1 0 ≤ 6) (hi : f_mis M j T) (hz : ¬ f_mso M T = 0) : g_Run G mX12_bits_ 6 0 0 [.ref (g_ad G 38), .int (nI j), .int 1] (g_hp G C (g_hm G M ++ ob)) (some (.long (f_qB (f_szM (f_mso M T) (2 ^ M.1 0)) (f_pop (f_mso M T))))) (g_hp G C (g_hm G M ++ ob)) := by
  have hp := f_pop_le (f_mso M T)
  have h2 := f_2n hn
  have hs := f_szM_le (f_mso M T) (2 ^ M.1 0) (by omega)
  refine g_Run.of (lv := [(0, .ref (g_ad G 38)), (1, .int (nI j)), (2, .int 1)]) (by decide) (Nat.le_of_ble_eq_true rfl) rfl ?_
  refine a_aload_n 0 1 rfl dX12_bits__0 rfl rfl ?_
  refine a_iload_n 1 2 rfl dX12_bits__1 rfl rfl ?_
  refine a_callV (as := [.int (nI j)]) (rest := []) (st2 := [.int 1]) (u1 := 0) (v1 := 0) (u2 := 0) (v2 := 0) (r_isFam_in hi.2.1 hi.1) (⟨_, _, _, _, rfl, rfl⟩) oX12_isFamily q_1273 q_1275 q_87 rfl (by omega) (by decide) rfl (Nat.le_of_ble_eq_true rfl) 5 rfl dX12_bits__2 rfl ?_
  refine a_if_eq 20 8 rfl dX12_bits__5 (by decide) (fun hc => absurd hc ((by decide))) (fun _ => ?_)
  refine a_iload_n 2 9 rfl dX12_bits__8 rfl rfl ?_
  refine a_i2l 10 rfl dX12_bits__9 ?_
  refine a_lconst (x := 0) 11 rfl dX12_bits__10 (by decide) ?_
  refine a_ldc2 q_1404 14 rfl dX12_bits__11 ?_
  refine a_callS (as := [.long ((1 : Int32).toInt64), .long 0, .long 2]) (rest := []) (st2 := [.int (f_i (decide ((0 : Int32) ≤ (1 : Int32) ∧ (1 : Int32) ≤ 2)))]) (u1 := 0) (v1 := 0) (u2 := 0) (v2 := 0) (r_isInB (y := (1 : Int32)) (a := 0) (b := 2) rfl rfl) oX12_isIn q_1242 q_1243 rfl (by omega) (by decide) rfl (Nat.le_of_ble_eq_true rfl) 17 rfl dX12_bits__14 rfl ?_
  refine a_if_ne 24 20 rfl dX12_bits__17 (by decide) (fun _ => ?_) (fun hc => absurd hc (f_i_T (by decide)))
  refine a_aload_n 0 25 rfl dX12_bits__24 rfl rfl ?_
  refine a_iload_n 1 26 rfl dX12_bits__25 rfl rfl ?_
  refine a_callV (as := [.int (nI j)]) (rest := []) (st2 := [.long (f_mso M T)]) (u1 := 0) (v1 := 0) (u2 := 0) (v2 := 0) (r_mso hn hi) (⟨_, _, _, _, rfl, rfl⟩) oX12_setsOf q_1296 q_1298 q_89 rfl (by omega) (by decide) rfl (Nat.le_of_ble_eq_true rfl) 29 rfl dX12_bits__26 rfl ?_
  refine a_lstore_n (lv' := [(3, .long (f_mso M T)), (0, .ref (g_ad G 38)), (1, .int (nI j)), (2, .int 1)]) 30 rfl dX12_bits__29 rfl (by decide) rfl ?_
  refine a_iconst (x := 0) 31 rfl dX12_bits__30 (by decide) ?_
  refine a_istore (lv' := [(5, .int 0), (3, .long (f_mso M T)), (0, .ref (g_ad G 38)), (1, .int (nI j)), (2, .int 1)]) 33 rfl dX12_bits__31 (by decide) rfl ?_
  refine a_iconst (x := 0) 34 rfl dX12_bits__33 (by decide) ?_
  refine a_istore (lv' := [(6, .int 0), (5, .int 0), (3, .long (f_mso M T)), (0, .ref (g_ad G 38)), (1, .int (nI j)), (2, .int 1)]) 36 rfl dX12_bits__34 (by decide) rfl ?_
  refine a_sub (lv' := [(6, .int (nI 0)), (5, .int (nI (f_szM (f_mso M T) 0))), (0, .ref (g_ad G 38)), (1, .int (nI j)), (2, .int 1), (3, .long (f_mso M T))]) [0, 1, 3, 4, 5, 2] rfl ?_
  refine g_for (P := fun s9 => True) (2 ^ M.1 0) (fun s9 => [(6, .int (nI s9)), (5, .int (nI (f_szM (f_mso M T) s9))), (0, .ref (g_ad G 38)), (1, .int (nI j)), (2, .int 1), (3, .long (f_mso M T))]) (fun s9 => (g_hp G C (g_hm G M ++ ob))) (trivial) (fun s9 h_s9 p_s9 k_s9 => ?_) (fun p_s9 => ?_)
  · skip
    have hq := f_pop_le (nI s9).toInt64
    refine a_iload 0 38 rfl dX12_bits__36 rfl ?_
    refine a_aload_n 2 39 rfl dX12_bits__38 rfl rfl ?_
    refine a_callV (as := []) (rest := [.int (nI s9)]) (st2 := [.int (nI (2 ^ M.1 0)), .int (nI s9)]) (u1 := 0) (v1 := 0) (u2 := 0) (v2 := 0) (r_allM hn) (⟨_, _, _, _, rfl, rfl⟩) oX12_all q_1253 q_1255 q_85 rfl (by omega) (by decide) rfl (Nat.le_of_ble_eq_true rfl) 42 rfl dX12_bits__39 rfl ?_
    refine a_icmp_ge 75 45 rfl dX12_bits__42 (by decide) (fun hc => absurd hc (nI_ge (a := s9) (b := (2 ^ M.1 0)) (by omega) (by omega))) (fun _ => ?_)
    refine a_iload 1 47 rfl dX12_bits__45 rfl ?_
    refine a_lload_n 5 48 rfl dX12_bits__47 rfl rfl ?_
    refine a_iload 0 50 rfl dX12_bits__48 rfl ?_
    refine a_callS (as := [.long (f_mso M T), .int (nI s9)]) (rest := [.int (nI (f_szM (f_mso M T) s9))]) (st2 := [.int (f_i (f_b (f_mso M T) s9)), .int (nI (f_szM (f_mso M T) s9))]) (u1 := 0) (v1 := 0) (u2 := 0) (v2 := 0) (r_hasB (s := s9) (by omega)) oX12_has q_1304 q_1305 rfl (by omega) (by decide) rfl (Nat.le_of_ble_eq_true rfl) 53 rfl dX12_bits__50 rfl ?_
    refine g_sfx (pc := 66) (lv := [(6, .int (nI s9)), (5, .int (nI (f_szM (f_mso M T) s9))), (0, .ref (g_ad G 38)), (1, .int (nI j)), (2, .int 1), (3, .long (f_mso M T))]) (st := [.int (nI (cond (f_b (f_mso M T) s9) (f_pop ((nI s9).toInt64)) 0)), .int (nI (f_szM (f_mso M T) s9))]) (h := (g_hp G C (g_hm G M ++ ob))) (fun key => ?_) ?_
    · skip
      rcases Bool.eq_false_or_eq_true ((f_b (f_mso M T) s9)) with c53_1 | c53_1
      · skip
        refine a_if_eq 65 56 rfl dX12_bits__53 (by decide) (fun hc => absurd hc (f_i_T c53_1)) (fun _ => ?_)
        refine a_iload 0 58 rfl dX12_bits__56 rfl ?_
        refine a_i2l 59 rfl dX12_bits__58 ?_
        refine a_callS (as := [.long ((nI s9).toInt64)]) (rest := [.int (nI (f_szM (f_mso M T) s9))]) (st2 := [.int (nI (f_pop ((nI s9).toInt64))), .int (nI (f_szM (f_mso M T) s9))]) (u1 := 0) (v1 := 0) (u2 := 0) (v2 := 0) (r_many) oX12_many q_1311 q_1312 rfl (by omega) (by decide) rfl (Nat.le_of_ble_eq_true rfl) 62 rfl dX12_bits__59 rfl ?_
        refine a_goto 66 dX12_bits__62 (by decide) ?_
        exact a_eq rfl (rfl) (by rw [c53_1]; rfl) rfl key
      · skip
        refine a_if_eq 65 56 rfl dX12_bits__53 (by decide) (fun _ => ?_) (fun hc => absurd (f_i_F c53_1) hc)
        refine a_iconst (x := 0) 66 rfl dX12_bits__65 (by decide) ?_
        exact a_eq rfl (rfl) (by rw [c53_1]; rfl) rfl key
    refine a_iadd 67 rfl dX12_bits__66 ?_
    refine a_eq (st2 := [.int (nI ((f_szM (f_mso M T) s9) + (cond (f_b (f_mso M T) s9) (f_pop ((nI s9).toInt64)) 0)))]) rfl rfl (congrArg (fun z9 => Value.int z9 :: []) (nI_add (f_szM (f_mso M T) s9) (cond (f_b (f_mso M T) s9) (f_pop ((nI s9).toInt64)) 0))) rfl ?_
    refine a_istore (lv' := [(5, .int (nI ((f_szM (f_mso M T) s9) + (cond (f_b (f_mso M T) s9) (f_pop ((nI s9).toInt64)) 0)))), (6, .int (nI s9)), (0, .ref (g_ad G 38)), (1, .int (nI j)), (2, .int 1), (3, .long (f_mso M T))]) 69 rfl dX12_bits__67 (by decide) rfl ?_
    refine a_iinc (y := nI (s9 + 1)) (lv' := [(6, .int (nI (s9 + 1))), (5, .int (nI ((f_szM (f_mso M T) s9) + (cond (f_b (f_mso M T) s9) (f_pop ((nI s9).toInt64)) 0)))), (0, .ref (g_ad G 38)), (1, .int (nI j)), (2, .int 1), (3, .long (f_mso M T))]) 1 72 rfl dX12_bits__69 rfl (nI_1 s9) (by decide) rfl ?_
    refine a_goto 36 dX12_bits__72 (by decide) ?_
    refine a_sub (lv' := [(6, .int (nI (s9 + 1))), (5, .int (nI (f_szM (f_mso M T) (s9 + 1)))), (0, .ref (g_ad G 38)), (1, .int (nI j)), (2, .int 1), (3, .long (f_mso M T))]) [0, 1, 2, 3, 4, 5] rfl ?_
    exact k_s9 trivial
  · skip
    refine a_iload 0 38 rfl dX12_bits__36 rfl ?_
    refine a_aload_n 2 39 rfl dX12_bits__38 rfl rfl ?_
    refine a_callV (as := []) (rest := [.int (nI (2 ^ M.1 0))]) (st2 := [.int (nI (2 ^ M.1 0)), .int (nI (2 ^ M.1 0))]) (u1 := 0) (v1 := 0) (u2 := 0) (v2 := 0) (r_allM hn) (⟨_, _, _, _, rfl, rfl⟩) oX12_all q_1253 q_1255 q_85 rfl (by omega) (by decide) rfl (Nat.le_of_ble_eq_true rfl) 42 rfl dX12_bits__39 rfl ?_
    refine a_icmp_ge 75 45 rfl dX12_bits__42 (by decide) (fun _ => ?_) (fun hc => absurd (nI_le (a := (2 ^ M.1 0)) (b := (2 ^ M.1 0)) (by omega) (by omega)) hc)
    refine a_iload_n 4 76 rfl dX12_bits__75 rfl rfl ?_
    refine a_iconst (x := 1) 77 rfl dX12_bits__76 (by decide) ?_
    refine a_icmp_ne 106 80 rfl dX12_bits__77 (by decide) (fun hc => absurd (rfl) hc) (fun _ => ?_)
    refine a_lload_n 5 81 rfl dX12_bits__80 rfl rfl ?_
    refine a_lconst (x := 0) 82 rfl dX12_bits__81 (by decide) ?_
    refine a_lcmp 83 rfl dX12_bits__82 ?_
    refine a_if_ne 92 86 rfl dX12_bits__83 (by decide) (fun _ => ?_) (fun hc => absurd hc (g_cmp_ne.mpr hz))
    refine a_iload 1 94 rfl dX12_bits__92 rfl ?_
    refine a_i2f 95 rfl dX12_bits__94 ?_
    refine a_lload_n 5 96 rfl dX12_bits__95 rfl rfl ?_
    refine a_callS (as := [.long (f_mso M T)]) (rest := [.float (FP.i2f (nI (f_szM (f_mso M T) (2 ^ M.1 0))))]) (st2 := [.int (nI (f_pop (f_mso M T))), .float (FP.i2f (nI (f_szM (f_mso M T) (2 ^ M.1 0))))]) (u1 := 0) (v1 := 0) (u2 := 0) (v2 := 0) (r_many) oX12_many q_1311 q_1312 rfl (by omega) (by decide) rfl (Nat.le_of_ble_eq_true rfl) 99 rfl dX12_bits__96 rfl ?_
    refine a_i2f 100 rfl dX12_bits__99 ?_
    refine a_fdiv 101 rfl dX12_bits__100 ((f_q_ok (a := f_szM (f_mso M T) (2 ^ M.1 0)) (b := f_pop (f_mso M T)) (by omega) (f_pop_pos hz) (by omega))) ?_
    refine a_callS (as := [.float (FP.fdiv (FP.i2f (nI (f_szM (f_mso M T) (2 ^ M.1 0)))) (FP.i2f (nI (f_pop (f_mso M T)))))]) (rest := []) (st2 := [.int ((f_q32 (f_szM (f_mso M T) (2 ^ M.1 0)) (f_pop (f_mso M T))).toInt32)]) (u1 := 0) (v1 := 0) (u2 := 0) (v2 := 0) (r_f2bits (f_q_self (a := f_szM (f_mso M T) (2 ^ M.1 0)) (b := f_pop (f_mso M T)) (by omega) (f_pop_pos hz) (by omega))) oJxf58ca_floatToIntBits_5c35a q_1501 q_1502 rfl (by omega) (by decide) rfl (Nat.le_of_ble_eq_true rfl) 104 rfl dX12_bits__101 rfl ?_
    refine a_i2l 105 rfl dX12_bits__104 ?_
    exact a_lreturn rfl (congrArg (fun z9 => some (Value.long z9)) (f_q_bits (a := f_szM (f_mso M T) (2 ^ M.1 0)) (b := f_pop (f_mso M T)) (by omega) (f_pop_pos hz) (by omega))) (rfl) dX12_bits__105

theorem r_bitsM_2 (hn : M.1 0 ≤ 6) (hi : f_mis M j T) (hz : True) : g_Run G mX12_bits_ 6 0 0 [.ref (g_ad G 38), .int (nI j), .int 2] (g_hp G C (g_hm G M ++ ob)) (some (.long ((FP.f2i (FP.fmul (f_q32 (f_pop (f_mso M T)) (2 ^ M.1 0)) 1148846080)).toInt64))) (g_hp G C (g_hm G M ++ ob)) := by
  have hp := f_pop_le (f_mso M T)
  have h2 := f_2n hn
  have hs := f_szM_le (f_mso M T) (2 ^ M.1 0) (by omega)
  refine g_Run.of (lv := [(0, .ref (g_ad G 38)), (1, .int (nI j)), (2, .int 2)]) (by decide) (Nat.le_of_ble_eq_true rfl) rfl ?_
  refine a_aload_n 0 1 rfl dX12_bits__0 rfl rfl ?_
  refine a_iload_n 1 2 rfl dX12_bits__1 rfl rfl ?_
  refine a_callV (as := [.int (nI j)]) (rest := []) (st2 := [.int 1]) (u1 := 0) (v1 := 0) (u2 := 0) (v2 := 0) (r_isFam_in hi.2.1 hi.1) (⟨_, _, _, _, rfl, rfl⟩) oX12_isFamily q_1273 q_1275 q_87 rfl (by omega) (by decide) rfl (Nat.le_of_ble_eq_true rfl) 5 rfl dX12_bits__2 rfl ?_
  refine a_if_eq 20 8 rfl dX12_bits__5 (by decide) (fun hc => absurd hc ((by decide))) (fun _ => ?_)
  refine a_iload_n 2 9 rfl dX12_bits__8 rfl rfl ?_
  refine a_i2l 10 rfl dX12_bits__9 ?_
  refine a_lconst (x := 0) 11 rfl dX12_bits__10 (by decide) ?_
  refine a_ldc2 q_1404 14 rfl dX12_bits__11 ?_
  refine a_callS (as := [.long ((2 : Int32).toInt64), .long 0, .long 2]) (rest := []) (st2 := [.int (f_i (decide ((0 : Int32) ≤ (2 : Int32) ∧ (2 : Int32) ≤ 2)))]) (u1 := 0) (v1 := 0) (u2 := 0) (v2 := 0) (r_isInB (y := (2 : Int32)) (a := 0) (b := 2) rfl rfl) oX12_isIn q_1242 q_1243 rfl (by omega) (by decide) rfl (Nat.le_of_ble_eq_true rfl) 17 rfl dX12_bits__14 rfl ?_
  refine a_if_ne 24 20 rfl dX12_bits__17 (by decide) (fun _ => ?_) (fun hc => absurd hc (f_i_T (by decide)))
  refine a_aload_n 0 25 rfl dX12_bits__24 rfl rfl ?_
  refine a_iload_n 1 26 rfl dX12_bits__25 rfl rfl ?_
  refine a_callV (as := [.int (nI j)]) (rest := []) (st2 := [.long (f_mso M T)]) (u1 := 0) (v1 := 0) (u2 := 0) (v2 := 0) (r_mso hn hi) (⟨_, _, _, _, rfl, rfl⟩) oX12_setsOf q_1296 q_1298 q_89 rfl (by omega) (by decide) rfl (Nat.le_of_ble_eq_true rfl) 29 rfl dX12_bits__26 rfl ?_
  refine a_lstore_n (lv' := [(3, .long (f_mso M T)), (0, .ref (g_ad G 38)), (1, .int (nI j)), (2, .int 2)]) 30 rfl dX12_bits__29 rfl (by decide) rfl ?_
  refine a_iconst (x := 0) 31 rfl dX12_bits__30 (by decide) ?_
  refine a_istore (lv' := [(5, .int 0), (3, .long (f_mso M T)), (0, .ref (g_ad G 38)), (1, .int (nI j)), (2, .int 2)]) 33 rfl dX12_bits__31 (by decide) rfl ?_
  refine a_iconst (x := 0) 34 rfl dX12_bits__33 (by decide) ?_
  refine a_istore (lv' := [(6, .int 0), (5, .int 0), (3, .long (f_mso M T)), (0, .ref (g_ad G 38)), (1, .int (nI j)), (2, .int 2)]) 36 rfl dX12_bits__34 (by decide) rfl ?_
  refine a_sub (lv' := [(6, .int (nI 0)), (5, .int (nI (f_szM (f_mso M T) 0))), (0, .ref (g_ad G 38)), (1, .int (nI j)), (2, .int 2), (3, .long (f_mso M T))]) [0, 1, 3, 4, 5, 2] rfl ?_
  refine g_for (P := fun s9 => True) (2 ^ M.1 0) (fun s9 => [(6, .int (nI s9)), (5, .int (nI (f_szM (f_mso M T) s9))), (0, .ref (g_ad G 38)), (1, .int (nI j)), (2, .int 2), (3, .long (f_mso M T))]) (fun s9 => (g_hp G C (g_hm G M ++ ob))) (trivial) (fun s9 h_s9 p_s9 k_s9 => ?_) (fun p_s9 => ?_)
  · skip
    have hq := f_pop_le (nI s9).toInt64
    refine a_iload 0 38 rfl dX12_bits__36 rfl ?_
    refine a_aload_n 2 39 rfl dX12_bits__38 rfl rfl ?_
    refine a_callV (as := []) (rest := [.int (nI s9)]) (st2 := [.int (nI (2 ^ M.1 0)), .int (nI s9)]) (u1 := 0) (v1 := 0) (u2 := 0) (v2 := 0) (r_allM hn) (⟨_, _, _, _, rfl, rfl⟩) oX12_all q_1253 q_1255 q_85 rfl (by omega) (by decide) rfl (Nat.le_of_ble_eq_true rfl) 42 rfl dX12_bits__39 rfl ?_
    refine a_icmp_ge 75 45 rfl dX12_bits__42 (by decide) (fun hc => absurd hc (nI_ge (a := s9) (b := (2 ^ M.1 0)) (by omega) (by omega))) (fun _ => ?_)
    refine a_iload 1 47 rfl dX12_bits__45 rfl ?_
    refine a_lload_n 5 48 rfl dX12_bits__47 rfl rfl ?_
    refine a_iload 0 50 rfl dX12_bits__48 rfl ?_
    refine a_callS (as := [.long (f_mso M T), .int (nI s9)]) (rest := [.int (nI (f_szM (f_mso M T) s9))]) (st2 := [.int (f_i (f_b (f_mso M T) s9)), .int (nI (f_szM (f_mso M T) s9))]) (u1 := 0) (v1 := 0) (u2 := 0) (v2 := 0) (r_hasB (s := s9) (by omega)) oX12_has q_1304 q_1305 rfl (by omega) (by decide) rfl (Nat.le_of_ble_eq_true rfl) 53 rfl dX12_bits__50 rfl ?_
    refine g_sfx (pc := 66) (lv := [(6, .int (nI s9)), (5, .int (nI (f_szM (f_mso M T) s9))), (0, .ref (g_ad G 38)), (1, .int (nI j)), (2, .int 2), (3, .long (f_mso M T))]) (st := [.int (nI (cond (f_b (f_mso M T) s9) (f_pop ((nI s9).toInt64)) 0)), .int (nI (f_szM (f_mso M T) s9))]) (h := (g_hp G C (g_hm G M ++ ob))) (fun key => ?_) ?_
    · skip
      rcases Bool.eq_false_or_eq_true ((f_b (f_mso M T) s9)) with c53_1 | c53_1
      · skip
        refine a_if_eq 65 56 rfl dX12_bits__53 (by decide) (fun hc => absurd hc (f_i_T c53_1)) (fun _ => ?_)
        refine a_iload 0 58 rfl dX12_bits__56 rfl ?_
        refine a_i2l 59 rfl dX12_bits__58 ?_
        refine a_callS (as := [.long ((nI s9).toInt64)]) (rest := [.int (nI (f_szM (f_mso M T) s9))]) (st2 := [.int (nI (f_pop ((nI s9).toInt64))), .int (nI (f_szM (f_mso M T) s9))]) (u1 := 0) (v1 := 0) (u2 := 0) (v2 := 0) (r_many) oX12_many q_1311 q_1312 rfl (by omega) (by decide) rfl (Nat.le_of_ble_eq_true rfl) 62 rfl dX12_bits__59 rfl ?_
        refine a_goto 66 dX12_bits__62 (by decide) ?_
        exact a_eq rfl (rfl) (by rw [c53_1]; rfl) rfl key
      · skip
        refine a_if_eq 65 56 rfl dX12_bits__53 (by decide) (fun _ => ?_) (fun hc => absurd (f_i_F c53_1) hc)
        refine a_iconst (x := 0) 66 rfl dX12_bits__65 (by decide) ?_
        exact a_eq rfl (rfl) (by rw [c53_1]; rfl) rfl key
    refine a_iadd 67 rfl dX12_bits__66 ?_
    refine a_eq (st2 := [.int (nI ((f_szM (f_mso M T) s9) + (cond (f_b (f_mso M T) s9) (f_pop ((nI s9).toInt64)) 0)))]) rfl rfl (congrArg (fun z9 => Value.int z9 :: []) (nI_add (f_szM (f_mso M T) s9) (cond (f_b (f_mso M T) s9) (f_pop ((nI s9).toInt64)) 0))) rfl ?_
    refine a_istore (lv' := [(5, .int (nI ((f_szM (f_mso M T) s9) + (cond (f_b (f_mso M T) s9) (f_pop ((nI s9).toInt64)) 0)))), (6, .int (nI s9)), (0, .ref (g_ad G 38)), (1, .int (nI j)), (2, .int 2), (3, .long (f_mso M T))]) 69 rfl dX12_bits__67 (by decide) rfl ?_
    refine a_iinc (y := nI (s9 + 1)) (lv' := [(6, .int (nI (s9 + 1))), (5, .int (nI ((f_szM (f_mso M T) s9) + (cond (f_b (f_mso M T) s9) (f_pop ((nI s9).toInt64)) 0)))), (0, .ref (g_ad G 38)), (1, .int (nI j)), (2, .int 2), (3, .long (f_mso M T))]) 1 72 rfl dX12_bits__69 rfl (nI_1 s9) (by decide) rfl ?_
    refine a_goto 36 dX12_bits__72 (by decide) ?_
    refine a_sub (lv' := [(6, .int (nI (s9 + 1))), (5, .int (nI (f_szM (f_mso M T) (s9 + 1)))), (0, .ref (g_ad G 38)), (1, .int (nI j)), (2, .int 2), (3, .long (f_mso M T))]) [0, 1, 2, 3, 4, 5] rfl ?_
    exact k_s9 trivial
  · skip
    refine a_iload 0 38 rfl dX12_bits__36 rfl ?_
    refine a_aload_n 2 39 rfl dX12_bits__38 rfl rfl ?_
    refine a_callV (as := []) (rest := [.int (nI (2 ^ M.1 0))]) (st2 := [.int (nI (2 ^ M.1 0)), .int (nI (2 ^ M.1 0))]) (u1 := 0) (v1 := 0) (u2 := 0) (v2 := 0) (r_allM hn) (⟨_, _, _, _, rfl, rfl⟩) oX12_all q_1253 q_1255 q_85 rfl (by omega) (by decide) rfl (Nat.le_of_ble_eq_true rfl) 42 rfl dX12_bits__39 rfl ?_
    refine a_icmp_ge 75 45 rfl dX12_bits__42 (by decide) (fun _ => ?_) (fun hc => absurd (nI_le (a := (2 ^ M.1 0)) (b := (2 ^ M.1 0)) (by omega) (by omega)) hc)
    refine a_iload_n 4 76 rfl dX12_bits__75 rfl rfl ?_
    refine a_iconst (x := 1) 77 rfl dX12_bits__76 (by decide) ?_
    refine a_icmp_ne 106 80 rfl dX12_bits__77 (by decide) (fun _ => ?_) (fun hc => absurd hc ((by decide)))
    refine a_lload_n 5 107 rfl dX12_bits__106 rfl rfl ?_
    refine a_callS (as := [.long (f_mso M T)]) (rest := []) (st2 := [.int (nI (f_pop (f_mso M T)))]) (u1 := 0) (v1 := 0) (u2 := 0) (v2 := 0) (r_many) oX12_many q_1311 q_1312 rfl (by omega) (by decide) rfl (Nat.le_of_ble_eq_true rfl) 110 rfl dX12_bits__107 rfl ?_
    refine a_i2f 111 rfl dX12_bits__110 ?_
    refine a_aload_n 2 112 rfl dX12_bits__111 rfl rfl ?_
    refine a_callV (as := []) (rest := [.float (FP.i2f (nI (f_pop (f_mso M T))))]) (st2 := [.int (nI (2 ^ M.1 0)), .float (FP.i2f (nI (f_pop (f_mso M T))))]) (u1 := 0) (v1 := 0) (u2 := 0) (v2 := 0) (r_allM hn) (⟨_, _, _, _, rfl, rfl⟩) oX12_all q_1253 q_1255 q_85 rfl (by omega) (by decide) rfl (Nat.le_of_ble_eq_true rfl) 115 rfl dX12_bits__112 rfl ?_
    refine a_i2f 116 rfl dX12_bits__115 ?_
    refine a_fdiv 117 rfl dX12_bits__116 ((f_q_ok (a := f_pop (f_mso M T)) (b := 2 ^ M.1 0) (by omega) h2.1 h2.2)) ?_
    refine a_fstore (lv' := [(6, .float (FP.fdiv (FP.i2f (nI (f_pop (f_mso M T)))) (FP.i2f (nI (2 ^ M.1 0))))), (5, .int (nI (f_szM (f_mso M T) (2 ^ M.1 0)))), (0, .ref (g_ad G 38)), (1, .int (nI j)), (2, .int 2), (3, .long (f_mso M T))]) 119 rfl dX12_bits__117 (by decide) rfl ?_
    refine a_iload_n 4 120 rfl dX12_bits__119 rfl rfl ?_
    refine a_if_ne 132 123 rfl dX12_bits__120 (by decide) (fun _ => ?_) (fun hc => absurd hc ((by decide)))
    refine a_fload 0 134 rfl dX12_bits__132 rfl ?_
    refine a_ldcfw q_1511 137 rfl dX12_bits__134 ?_
    refine a_fmul 138 rfl dX12_bits__137 ((f_q_1000 (M.1 0) (by omega) (f_pop (f_mso M T)) (by omega))) ?_
    refine a_f2i 139 rfl dX12_bits__138 ?_
    refine a_i2l 140 rfl dX12_bits__139 ?_
    exact a_lreturn rfl (rfl) (rfl) dX12_bits__140

end BM1
