/-! bits: the class's call -/
section BT1
variable {G : g_G} {C : f_C} {tl : List va_E} {x : Int64} {y y2 y3 : Int32} {j o : Nat} {T : f_T}
theorem f_bitN {h : List va_E} {z : Int64} : g_Run G mJ13_bitCount_95d88 1 0 0 [.long z] h (some (.int (nI (f_pop z)))) h := by
  have e1 := r_bitCountL (G := G) (h := h) (x := z)
  rw [f_bcL_pop] at e1
  exact e1
theorem f_szR {h : List va_E} {ka : Nat} {n : Nat} {a : Nat} (hC : h[a]? = some (c_O 3 [.ref (g_ad G ka), .int (nI n)])) (hn : n ≤ 6) : g_Run G mX3_sizesOf 2 0 0 [.ref (g_ad G a), .long x] h (some (.int (nI (f_szN x n)))) h := by
  have e1 := r_X3_sizesOf (x := x) hC hn
  rw [f_sizes_N] at e1
  exact e1
theorem f_2n {n : Nat} (hn : n ≤ 6) : 0 < 2 ^ n ∧ 2 ^ n < 65 := by
  have : ∀ k, k < 7 → 0 < 2 ^ k ∧ 2 ^ k < 65 := by decide
  exact this n (by omega)
theorem r_X11_bits_bad (hm : C.1 3 ≤ 8) (hi : ¬ vp_in y (C.1 3)) : g_Run G mX11_bits 5 0 0 [.ref (g_ad G 0), .int y, .int y2] (g_hp G C tl) (some (.long (-9223372036854775808))) (g_hp G C tl) := by
  refine g_Run.of (lv := [(0, .ref (g_ad G 0)), (1, .int y), (2, .int y2)]) (by decide) (Nat.le_of_ble_eq_true rfl) rfl ?_
  refine a_aload_n 0 1 rfl dX11_bits_0 rfl rfl ?_
  refine a_get 2 cl_10 f_RX11_28_10 (by decide) (rfl) rfl 4 rfl dX11_bits_1 ?_
  refine a_iload_n 1 5 rfl dX11_bits_4 rfl rfl ?_
  refine a_callVN (as := [.int y]) (rest := []) (st2 := [.null]) (u1 := 0) (v1 := 0) (u2 := 0) (v2 := 0) (r_at_out hm hi) (⟨_, _, _, _, rfl, rfl⟩) oX4_at q_446 q_448 q_9 rfl (by omega) (by decide) rfl (Nat.le_of_ble_eq_true rfl) 8 rfl dX11_bits_5 rfl ?_
  refine a_astore_nN (lv' := [(3, .null), (0, .ref (g_ad G 0)), (1, .int y), (2, .int y2)]) 9 rfl dX11_bits_8 rfl (by decide) rfl ?_
  refine a_aload_nN 0 10 rfl dX11_bits_9 rfl rfl ?_
  refine a_ifnonnullN 13 rfl dX11_bits_10 ?_
  refine a_ldc2 q_466 16 rfl dX11_bits_13 ?_
  exact a_lreturn rfl (rfl) (rfl) dX11_bits_16
theorem r_X11_bits0 (hf : f_is G C tl j o T) (hn : C.1 0 ≤ 6) : g_Run G mX11_bits 5 0 0 [.ref (g_ad G 0), .int (nI j), .int 0] (g_hp G C tl) (some (.long (f_qB (f_pop (f_so C T)) (2 ^ C.1 0)))) (g_hp G C tl) := by
  have hp := f_pop_le (f_so C T)
  have h2 := f_2n hn
  refine g_Run.of (lv := [(0, .ref (g_ad G 0)), (1, .int (nI j)), (2, .int 0)]) (by decide) (Nat.le_of_ble_eq_true rfl) rfl ?_
  refine a_aload_n 0 1 rfl dX11_bits_0 rfl rfl ?_
  refine a_get 2 cl_10 f_RX11_28_10 (by decide) (rfl) rfl 4 rfl dX11_bits_1 ?_
  refine a_iload_n 1 5 rfl dX11_bits_4 rfl rfl ?_
  refine a_callVN (as := [.int (nI j)]) (rest := []) (st2 := [.ref (g_ad G (38 + o))]) (u1 := 0) (v1 := 0) (u2 := 0) (v2 := 0) (r_at_in hf) (⟨_, _, _, _, rfl, rfl⟩) oX4_at q_446 q_448 q_9 rfl (by omega) (by decide) rfl (Nat.le_of_ble_eq_true rfl) 8 rfl dX11_bits_5 rfl ?_
  refine a_astore_n (lv' := [(3, .ref (g_ad G (38 + o))), (0, .ref (g_ad G 0)), (1, .int (nI j)), (2, .int 0)]) 9 rfl dX11_bits_8 rfl (by decide) rfl ?_
  refine a_aload_n 0 10 rfl dX11_bits_9 rfl rfl ?_
  refine a_ifnonnull 17 dX11_bits_10 (by decide) ?_
  refine a_aload_n 1 18 rfl dX11_bits_17 rfl rfl ?_
  refine a_get 0 cl_10 f_RX11_12_10 (by decide) (rfl) rfl 21 rfl dX11_bits_18 ?_
  refine a_aload_n 0 22 rfl dX11_bits_21 rfl rfl ?_
  refine a_callVN (as := [.ref (g_ad G (38 + o))]) (rest := []) (st2 := [.long (f_so C T)]) (u1 := 0) (v1 := 0) (u2 := 0) (v2 := 0) (r_so hf hn) (⟨_, _, _, _, rfl, rfl⟩) oX3_setsOf q_467 q_469 q_13 rfl (by omega) (by decide) rfl (Nat.le_of_ble_eq_true rfl) 25 rfl dX11_bits_22 rfl ?_
  refine a_lstore (lv' := [(4, .long (f_so C T)), (3, .ref (g_ad G (38 + o))), (0, .ref (g_ad G 0)), (1, .int (nI j)), (2, .int 0)]) 27 rfl dX11_bits_25 (by decide) rfl ?_
  refine a_lload 0 29 rfl dX11_bits_27 rfl ?_
  refine a_callS (as := [.long (f_so C T)]) (rest := []) (st2 := [.int (nI (f_pop (f_so C T)))]) (u1 := 0) (v1 := 0) (u2 := 0) (v2 := 0) (f_bitN) oJ13_bitCount_95d88 q_521 q_522 rfl (by omega) (by decide) rfl (Nat.le_of_ble_eq_true rfl) 32 rfl dX11_bits_29 rfl ?_
  refine a_i2f 33 rfl dX11_bits_32 ?_
  refine a_aload_n 2 34 rfl dX11_bits_33 rfl rfl ?_
  refine a_get 0 cl_10 f_RX11_12_10 (by decide) (rfl) rfl 37 rfl dX11_bits_34 ?_
  refine a_callV (as := []) (rest := [.float (FP.i2f (nI (f_pop (f_so C T))))]) (st2 := [.int (nI (2 ^ C.1 0)), .float (FP.i2f (nI (f_pop (f_so C T))))]) (u1 := 0) (v1 := 0) (u2 := 0) (v2 := 0) (r_X3_places (n := C.1 0) rfl hn) (⟨_, _, _, _, rfl, rfl⟩) oX3_places q_623 q_388 q_1663 rfl (by omega) (by decide) rfl (Nat.le_of_ble_eq_true rfl) 40 rfl dX11_bits_37 rfl ?_
  refine a_i2f 41 rfl dX11_bits_40 ?_
  refine a_fdiv 42 rfl dX11_bits_41 ((f_q_ok (a := f_pop (f_so C T)) (b := 2 ^ C.1 0) (by omega) h2.1 h2.2)) ?_
  refine a_fstore (lv' := [(6, .float (FP.fdiv (FP.i2f (nI (f_pop (f_so C T)))) (FP.i2f (nI (2 ^ C.1 0))))), (4, .long (f_so C T)), (3, .ref (g_ad G (38 + o))), (0, .ref (g_ad G 0)), (1, .int (nI j)), (2, .int 0)]) 44 rfl dX11_bits_42 (by decide) rfl ?_
  refine a_iload_n 5 45 rfl dX11_bits_44 rfl rfl ?_
  refine a_tableIn (off := 27) 72 dX11_bits_45 (by decide) (by decide) (by decide) (by decide) ?_
  refine a_fload 0 74 rfl dX11_bits_72 rfl ?_
  refine a_callS (as := [.float (FP.fdiv (FP.i2f (nI (f_pop (f_so C T)))) (FP.i2f (nI (2 ^ C.1 0))))]) (rest := []) (st2 := [.long (f_qB (f_pop (f_so C T)) (2 ^ C.1 0))]) (u1 := 0) (v1 := 0) (u2 := 0) (v2 := 0) (r_bofq (a := f_pop (f_so C T)) (b := 2 ^ C.1 0) (by omega) h2.1 h2.2) oX11_bitsOfFloat q_803 q_804 rfl (by omega) (by decide) rfl (Nat.le_of_ble_eq_true rfl) 77 rfl dX11_bits_74 rfl ?_
  exact a_lreturn rfl (rfl) (rfl) dX11_bits_77
theorem r_X11_bits1z (hf : f_is G C tl j o T) (hn : C.1 0 ≤ 6) (hz : f_so C T = 0) : g_Run G mX11_bits 5 0 0 [.ref (g_ad G 0), .int (nI j), .int 1] (g_hp G C tl) (some (.long (-9223372036854775808))) (g_hp G C tl) := by
  have hp := f_pop_le (f_so C T)
  have h2 := f_2n hn
  refine g_Run.of (lv := [(0, .ref (g_ad G 0)), (1, .int (nI j)), (2, .int 1)]) (by decide) (Nat.le_of_ble_eq_true rfl) rfl ?_
  refine a_aload_n 0 1 rfl dX11_bits_0 rfl rfl ?_
  refine a_get 2 cl_10 f_RX11_28_10 (by decide) (rfl) rfl 4 rfl dX11_bits_1 ?_
  refine a_iload_n 1 5 rfl dX11_bits_4 rfl rfl ?_
  refine a_callVN (as := [.int (nI j)]) (rest := []) (st2 := [.ref (g_ad G (38 + o))]) (u1 := 0) (v1 := 0) (u2 := 0) (v2 := 0) (r_at_in hf) (⟨_, _, _, _, rfl, rfl⟩) oX4_at q_446 q_448 q_9 rfl (by omega) (by decide) rfl (Nat.le_of_ble_eq_true rfl) 8 rfl dX11_bits_5 rfl ?_
  refine a_astore_n (lv' := [(3, .ref (g_ad G (38 + o))), (0, .ref (g_ad G 0)), (1, .int (nI j)), (2, .int 1)]) 9 rfl dX11_bits_8 rfl (by decide) rfl ?_
  refine a_aload_n 0 10 rfl dX11_bits_9 rfl rfl ?_
  refine a_ifnonnull 17 dX11_bits_10 (by decide) ?_
  refine a_aload_n 1 18 rfl dX11_bits_17 rfl rfl ?_
  refine a_get 0 cl_10 f_RX11_12_10 (by decide) (rfl) rfl 21 rfl dX11_bits_18 ?_
  refine a_aload_n 0 22 rfl dX11_bits_21 rfl rfl ?_
  refine a_callVN (as := [.ref (g_ad G (38 + o))]) (rest := []) (st2 := [.long (f_so C T)]) (u1 := 0) (v1 := 0) (u2 := 0) (v2 := 0) (r_so hf hn) (⟨_, _, _, _, rfl, rfl⟩) oX3_setsOf q_467 q_469 q_13 rfl (by omega) (by decide) rfl (Nat.le_of_ble_eq_true rfl) 25 rfl dX11_bits_22 rfl ?_
  refine a_lstore (lv' := [(4, .long (f_so C T)), (3, .ref (g_ad G (38 + o))), (0, .ref (g_ad G 0)), (1, .int (nI j)), (2, .int 1)]) 27 rfl dX11_bits_25 (by decide) rfl ?_
  refine a_lload 0 29 rfl dX11_bits_27 rfl ?_
  refine a_callS (as := [.long (f_so C T)]) (rest := []) (st2 := [.int (nI (f_pop (f_so C T)))]) (u1 := 0) (v1 := 0) (u2 := 0) (v2 := 0) (f_bitN) oJ13_bitCount_95d88 q_521 q_522 rfl (by omega) (by decide) rfl (Nat.le_of_ble_eq_true rfl) 32 rfl dX11_bits_29 rfl ?_
  refine a_i2f 33 rfl dX11_bits_32 ?_
  refine a_aload_n 2 34 rfl dX11_bits_33 rfl rfl ?_
  refine a_get 0 cl_10 f_RX11_12_10 (by decide) (rfl) rfl 37 rfl dX11_bits_34 ?_
  refine a_callV (as := []) (rest := [.float (FP.i2f (nI (f_pop (f_so C T))))]) (st2 := [.int (nI (2 ^ C.1 0)), .float (FP.i2f (nI (f_pop (f_so C T))))]) (u1 := 0) (v1 := 0) (u2 := 0) (v2 := 0) (r_X3_places (n := C.1 0) rfl hn) (⟨_, _, _, _, rfl, rfl⟩) oX3_places q_623 q_388 q_1663 rfl (by omega) (by decide) rfl (Nat.le_of_ble_eq_true rfl) 40 rfl dX11_bits_37 rfl ?_
  refine a_i2f 41 rfl dX11_bits_40 ?_
  refine a_fdiv 42 rfl dX11_bits_41 ((f_q_ok (a := f_pop (f_so C T)) (b := 2 ^ C.1 0) (by omega) h2.1 h2.2)) ?_
  refine a_fstore (lv' := [(6, .float (FP.fdiv (FP.i2f (nI (f_pop (f_so C T)))) (FP.i2f (nI (2 ^ C.1 0))))), (4, .long (f_so C T)), (3, .ref (g_ad G (38 + o))), (0, .ref (g_ad G 0)), (1, .int (nI j)), (2, .int 1)]) 44 rfl dX11_bits_42 (by decide) rfl ?_
  refine a_iload_n 5 45 rfl dX11_bits_44 rfl rfl ?_
  refine a_tableIn (off := 33) 78 dX11_bits_45 (by decide) (by decide) (by decide) (by decide) ?_
  refine a_lload 1 80 rfl dX11_bits_78 rfl ?_
  refine a_lconst (x := 0) 81 rfl dX11_bits_80 (by decide) ?_
  refine a_lcmp 82 rfl dX11_bits_81 ?_
  refine a_if_ne 91 85 rfl dX11_bits_82 (by decide) (fun hc => absurd (g_cmp_eq.mpr hz) hc) (fun _ => ?_)
  refine a_ldc2 q_466 88 rfl dX11_bits_85 ?_
  refine a_goto 111 dX11_bits_88 (by decide) ?_
  exact a_lreturn rfl (rfl) (rfl) dX11_bits_111
theorem r_X11_bits1 (hf : f_is G C tl j o T) (hn : C.1 0 ≤ 6) (hz : ¬ f_so C T = 0) : g_Run G mX11_bits 5 0 0 [.ref (g_ad G 0), .int (nI j), .int 1] (g_hp G C tl) (some (.long (f_qB (f_szN (f_so C T) (C.1 0)) (f_pop (f_so C T))))) (g_hp G C tl) := by
  have hp := f_pop_le (f_so C T)
  have hp0 := f_pop_pos hz
  have hs := f_szN_le (f_so C T) (C.1 0)
  have h2 := f_2n hn
  refine g_Run.of (lv := [(0, .ref (g_ad G 0)), (1, .int (nI j)), (2, .int 1)]) (by decide) (Nat.le_of_ble_eq_true rfl) rfl ?_
  refine a_aload_n 0 1 rfl dX11_bits_0 rfl rfl ?_
  refine a_get 2 cl_10 f_RX11_28_10 (by decide) (rfl) rfl 4 rfl dX11_bits_1 ?_
  refine a_iload_n 1 5 rfl dX11_bits_4 rfl rfl ?_
  refine a_callVN (as := [.int (nI j)]) (rest := []) (st2 := [.ref (g_ad G (38 + o))]) (u1 := 0) (v1 := 0) (u2 := 0) (v2 := 0) (r_at_in hf) (⟨_, _, _, _, rfl, rfl⟩) oX4_at q_446 q_448 q_9 rfl (by omega) (by decide) rfl (Nat.le_of_ble_eq_true rfl) 8 rfl dX11_bits_5 rfl ?_
  refine a_astore_n (lv' := [(3, .ref (g_ad G (38 + o))), (0, .ref (g_ad G 0)), (1, .int (nI j)), (2, .int 1)]) 9 rfl dX11_bits_8 rfl (by decide) rfl ?_
  refine a_aload_n 0 10 rfl dX11_bits_9 rfl rfl ?_
  refine a_ifnonnull 17 dX11_bits_10 (by decide) ?_
  refine a_aload_n 1 18 rfl dX11_bits_17 rfl rfl ?_
  refine a_get 0 cl_10 f_RX11_12_10 (by decide) (rfl) rfl 21 rfl dX11_bits_18 ?_
  refine a_aload_n 0 22 rfl dX11_bits_21 rfl rfl ?_
  refine a_callVN (as := [.ref (g_ad G (38 + o))]) (rest := []) (st2 := [.long (f_so C T)]) (u1 := 0) (v1 := 0) (u2 := 0) (v2 := 0) (r_so hf hn) (⟨_, _, _, _, rfl, rfl⟩) oX3_setsOf q_467 q_469 q_13 rfl (by omega) (by decide) rfl (Nat.le_of_ble_eq_true rfl) 25 rfl dX11_bits_22 rfl ?_
  refine a_lstore (lv' := [(4, .long (f_so C T)), (3, .ref (g_ad G (38 + o))), (0, .ref (g_ad G 0)), (1, .int (nI j)), (2, .int 1)]) 27 rfl dX11_bits_25 (by decide) rfl ?_
  refine a_lload 0 29 rfl dX11_bits_27 rfl ?_
  refine a_callS (as := [.long (f_so C T)]) (rest := []) (st2 := [.int (nI (f_pop (f_so C T)))]) (u1 := 0) (v1 := 0) (u2 := 0) (v2 := 0) (f_bitN) oJ13_bitCount_95d88 q_521 q_522 rfl (by omega) (by decide) rfl (Nat.le_of_ble_eq_true rfl) 32 rfl dX11_bits_29 rfl ?_
  refine a_i2f 33 rfl dX11_bits_32 ?_
  refine a_aload_n 2 34 rfl dX11_bits_33 rfl rfl ?_
  refine a_get 0 cl_10 f_RX11_12_10 (by decide) (rfl) rfl 37 rfl dX11_bits_34 ?_
  refine a_callV (as := []) (rest := [.float (FP.i2f (nI (f_pop (f_so C T))))]) (st2 := [.int (nI (2 ^ C.1 0)), .float (FP.i2f (nI (f_pop (f_so C T))))]) (u1 := 0) (v1 := 0) (u2 := 0) (v2 := 0) (r_X3_places (n := C.1 0) rfl hn) (⟨_, _, _, _, rfl, rfl⟩) oX3_places q_623 q_388 q_1663 rfl (by omega) (by decide) rfl (Nat.le_of_ble_eq_true rfl) 40 rfl dX11_bits_37 rfl ?_
  refine a_i2f 41 rfl dX11_bits_40 ?_
  refine a_fdiv 42 rfl dX11_bits_41 ((f_q_ok (a := f_pop (f_so C T)) (b := 2 ^ C.1 0) (by omega) h2.1 h2.2)) ?_
  refine a_fstore (lv' := [(6, .float (FP.fdiv (FP.i2f (nI (f_pop (f_so C T)))) (FP.i2f (nI (2 ^ C.1 0))))), (4, .long (f_so C T)), (3, .ref (g_ad G (38 + o))), (0, .ref (g_ad G 0)), (1, .int (nI j)), (2, .int 1)]) 44 rfl dX11_bits_42 (by decide) rfl ?_
  refine a_iload_n 5 45 rfl dX11_bits_44 rfl rfl ?_
  refine a_tableIn (off := 33) 78 dX11_bits_45 (by decide) (by decide) (by decide) (by decide) ?_
  refine a_lload 1 80 rfl dX11_bits_78 rfl ?_
  refine a_lconst (x := 0) 81 rfl dX11_bits_80 (by decide) ?_
  refine a_lcmp 82 rfl dX11_bits_81 ?_
  refine a_if_ne 91 85 rfl dX11_bits_82 (by decide) (fun _ => ?_) (fun hc => absurd hc (g_cmp_ne.mpr hz))
  refine a_aload_n 3 92 rfl dX11_bits_91 rfl rfl ?_
  refine a_get 0 cl_10 f_RX11_12_10 (by decide) (rfl) rfl 95 rfl dX11_bits_92 ?_
  refine a_lload 1 97 rfl dX11_bits_95 rfl ?_
  refine a_callVN (as := [.long (f_so C T)]) (rest := []) (st2 := [.int (nI (f_szN (f_so C T) (C.1 0)))]) (u1 := 0) (v1 := 0) (u2 := 0) (v2 := 0) (f_szR (n := C.1 0) rfl hn) (⟨_, _, _, _, rfl, rfl⟩) oX3_sizesOf q_808 q_810 q_41 rfl (by omega) (by decide) rfl (Nat.le_of_ble_eq_true rfl) 100 rfl dX11_bits_97 rfl ?_
  refine a_i2f 101 rfl dX11_bits_100 ?_
  refine a_lload 1 103 rfl dX11_bits_101 rfl ?_
  refine a_callS (as := [.long (f_so C T)]) (rest := [.float (FP.i2f (nI (f_szN (f_so C T) (C.1 0))))]) (st2 := [.int (nI (f_pop (f_so C T))), .float (FP.i2f (nI (f_szN (f_so C T) (C.1 0))))]) (u1 := 0) (v1 := 0) (u2 := 0) (v2 := 0) (f_bitN) oJ13_bitCount_95d88 q_521 q_522 rfl (by omega) (by decide) rfl (Nat.le_of_ble_eq_true rfl) 106 rfl dX11_bits_103 rfl ?_
  refine a_i2f 107 rfl dX11_bits_106 ?_
  refine a_fdiv 108 rfl dX11_bits_107 ((f_q_ok (a := f_szN (f_so C T) (C.1 0)) (b := f_pop (f_so C T)) (by omega) hp0 (by omega))) ?_
  refine a_callS (as := [.float (FP.fdiv (FP.i2f (nI (f_szN (f_so C T) (C.1 0)))) (FP.i2f (nI (f_pop (f_so C T)))))]) (rest := []) (st2 := [.long (f_qB (f_szN (f_so C T) (C.1 0)) (f_pop (f_so C T)))]) (u1 := 0) (v1 := 0) (u2 := 0) (v2 := 0) (r_bofq (a := f_szN (f_so C T) (C.1 0)) (b := f_pop (f_so C T)) (by omega) hp0 (by omega)) oX11_bitsOfFloat q_803 q_804 rfl (by omega) (by decide) rfl (Nat.le_of_ble_eq_true rfl) 111 rfl dX11_bits_108 rfl ?_
  exact a_lreturn rfl (rfl) (rfl) dX11_bits_111
theorem r_X11_bits2 (hf : f_is G C tl j o T) (hn : C.1 0 ≤ 6) : g_Run G mX11_bits 5 0 0 [.ref (g_ad G 0), .int (nI j), .int 2] (g_hp G C tl) (some (.long (FP.f2i (FP.fmul (f_q32 (f_pop (f_so C T)) (2 ^ C.1 0)) 1148846080)).toInt64)) (g_hp G C tl) := by
  have hp := f_pop_le (f_so C T)
  have h2 := f_2n hn
  refine g_Run.of (lv := [(0, .ref (g_ad G 0)), (1, .int (nI j)), (2, .int 2)]) (by decide) (Nat.le_of_ble_eq_true rfl) rfl ?_
  refine a_aload_n 0 1 rfl dX11_bits_0 rfl rfl ?_
  refine a_get 2 cl_10 f_RX11_28_10 (by decide) (rfl) rfl 4 rfl dX11_bits_1 ?_
  refine a_iload_n 1 5 rfl dX11_bits_4 rfl rfl ?_
  refine a_callVN (as := [.int (nI j)]) (rest := []) (st2 := [.ref (g_ad G (38 + o))]) (u1 := 0) (v1 := 0) (u2 := 0) (v2 := 0) (r_at_in hf) (⟨_, _, _, _, rfl, rfl⟩) oX4_at q_446 q_448 q_9 rfl (by omega) (by decide) rfl (Nat.le_of_ble_eq_true rfl) 8 rfl dX11_bits_5 rfl ?_
  refine a_astore_n (lv' := [(3, .ref (g_ad G (38 + o))), (0, .ref (g_ad G 0)), (1, .int (nI j)), (2, .int 2)]) 9 rfl dX11_bits_8 rfl (by decide) rfl ?_
  refine a_aload_n 0 10 rfl dX11_bits_9 rfl rfl ?_
  refine a_ifnonnull 17 dX11_bits_10 (by decide) ?_
  refine a_aload_n 1 18 rfl dX11_bits_17 rfl rfl ?_
  refine a_get 0 cl_10 f_RX11_12_10 (by decide) (rfl) rfl 21 rfl dX11_bits_18 ?_
  refine a_aload_n 0 22 rfl dX11_bits_21 rfl rfl ?_
  refine a_callVN (as := [.ref (g_ad G (38 + o))]) (rest := []) (st2 := [.long (f_so C T)]) (u1 := 0) (v1 := 0) (u2 := 0) (v2 := 0) (r_so hf hn) (⟨_, _, _, _, rfl, rfl⟩) oX3_setsOf q_467 q_469 q_13 rfl (by omega) (by decide) rfl (Nat.le_of_ble_eq_true rfl) 25 rfl dX11_bits_22 rfl ?_
  refine a_lstore (lv' := [(4, .long (f_so C T)), (3, .ref (g_ad G (38 + o))), (0, .ref (g_ad G 0)), (1, .int (nI j)), (2, .int 2)]) 27 rfl dX11_bits_25 (by decide) rfl ?_
  refine a_lload 0 29 rfl dX11_bits_27 rfl ?_
  refine a_callS (as := [.long (f_so C T)]) (rest := []) (st2 := [.int (nI (f_pop (f_so C T)))]) (u1 := 0) (v1 := 0) (u2 := 0) (v2 := 0) (f_bitN) oJ13_bitCount_95d88 q_521 q_522 rfl (by omega) (by decide) rfl (Nat.le_of_ble_eq_true rfl) 32 rfl dX11_bits_29 rfl ?_
  refine a_i2f 33 rfl dX11_bits_32 ?_
  refine a_aload_n 2 34 rfl dX11_bits_33 rfl rfl ?_
  refine a_get 0 cl_10 f_RX11_12_10 (by decide) (rfl) rfl 37 rfl dX11_bits_34 ?_
  refine a_callV (as := []) (rest := [.float (FP.i2f (nI (f_pop (f_so C T))))]) (st2 := [.int (nI (2 ^ C.1 0)), .float (FP.i2f (nI (f_pop (f_so C T))))]) (u1 := 0) (v1 := 0) (u2 := 0) (v2 := 0) (r_X3_places (n := C.1 0) rfl hn) (⟨_, _, _, _, rfl, rfl⟩) oX3_places q_623 q_388 q_1663 rfl (by omega) (by decide) rfl (Nat.le_of_ble_eq_true rfl) 40 rfl dX11_bits_37 rfl ?_
  refine a_i2f 41 rfl dX11_bits_40 ?_
  refine a_fdiv 42 rfl dX11_bits_41 ((f_q_ok (a := f_pop (f_so C T)) (b := 2 ^ C.1 0) (by omega) h2.1 h2.2)) ?_
  refine a_fstore (lv' := [(6, .float (FP.fdiv (FP.i2f (nI (f_pop (f_so C T)))) (FP.i2f (nI (2 ^ C.1 0))))), (4, .long (f_so C T)), (3, .ref (g_ad G (38 + o))), (0, .ref (g_ad G 0)), (1, .int (nI j)), (2, .int 2)]) 44 rfl dX11_bits_42 (by decide) rfl ?_
  refine a_iload_n 5 45 rfl dX11_bits_44 rfl rfl ?_
  refine a_tableIn (off := 67) 112 dX11_bits_45 (by decide) (by decide) (by decide) (by decide) ?_
  refine a_fload 0 114 rfl dX11_bits_112 rfl ?_
  refine a_ldcfw q_812 117 rfl dX11_bits_114 ?_
  refine a_fmul 118 rfl dX11_bits_117 ((f_q_1000 (C.1 0) (by omega) (f_pop (f_so C T)) (by omega))) ?_
  refine a_f2i 119 rfl dX11_bits_118 ?_
  refine a_i2l 120 rfl dX11_bits_119 ?_
  exact a_lreturn rfl (rfl) (rfl) dX11_bits_120
theorem r_X11_bits_out (hf : f_is G C tl j o T) (hn : C.1 0 ≤ 6) (hy : y.toInt < 0 ∨ 2 < y.toInt) : g_Run G mX11_bits 5 0 0 [.ref (g_ad G 0), .int (nI j), .int y] (g_hp G C tl) (some (.long (-9223372036854775808))) (g_hp G C tl) := by
  have hp := f_pop_le (f_so C T)
  have h2 := f_2n hn
  refine g_Run.of (lv := [(0, .ref (g_ad G 0)), (1, .int (nI j)), (2, .int y)]) (by decide) (Nat.le_of_ble_eq_true rfl) rfl ?_
  refine a_aload_n 0 1 rfl dX11_bits_0 rfl rfl ?_
  refine a_get 2 cl_10 f_RX11_28_10 (by decide) (rfl) rfl 4 rfl dX11_bits_1 ?_
  refine a_iload_n 1 5 rfl dX11_bits_4 rfl rfl ?_
  refine a_callVN (as := [.int (nI j)]) (rest := []) (st2 := [.ref (g_ad G (38 + o))]) (u1 := 0) (v1 := 0) (u2 := 0) (v2 := 0) (r_at_in hf) (⟨_, _, _, _, rfl, rfl⟩) oX4_at q_446 q_448 q_9 rfl (by omega) (by decide) rfl (Nat.le_of_ble_eq_true rfl) 8 rfl dX11_bits_5 rfl ?_
  refine a_astore_n (lv' := [(3, .ref (g_ad G (38 + o))), (0, .ref (g_ad G 0)), (1, .int (nI j)), (2, .int y)]) 9 rfl dX11_bits_8 rfl (by decide) rfl ?_
  refine a_aload_n 0 10 rfl dX11_bits_9 rfl rfl ?_
  refine a_ifnonnull 17 dX11_bits_10 (by decide) ?_
  refine a_aload_n 1 18 rfl dX11_bits_17 rfl rfl ?_
  refine a_get 0 cl_10 f_RX11_12_10 (by decide) (rfl) rfl 21 rfl dX11_bits_18 ?_
  refine a_aload_n 0 22 rfl dX11_bits_21 rfl rfl ?_
  refine a_callVN (as := [.ref (g_ad G (38 + o))]) (rest := []) (st2 := [.long (f_so C T)]) (u1 := 0) (v1 := 0) (u2 := 0) (v2 := 0) (r_so hf hn) (⟨_, _, _, _, rfl, rfl⟩) oX3_setsOf q_467 q_469 q_13 rfl (by omega) (by decide) rfl (Nat.le_of_ble_eq_true rfl) 25 rfl dX11_bits_22 rfl ?_
  refine a_lstore (lv' := [(4, .long (f_so C T)), (3, .ref (g_ad G (38 + o))), (0, .ref (g_ad G 0)), (1, .int (nI j)), (2, .int y)]) 27 rfl dX11_bits_25 (by decide) rfl ?_
  refine a_lload 0 29 rfl dX11_bits_27 rfl ?_
  refine a_callS (as := [.long (f_so C T)]) (rest := []) (st2 := [.int (nI (f_pop (f_so C T)))]) (u1 := 0) (v1 := 0) (u2 := 0) (v2 := 0) (f_bitN) oJ13_bitCount_95d88 q_521 q_522 rfl (by omega) (by decide) rfl (Nat.le_of_ble_eq_true rfl) 32 rfl dX11_bits_29 rfl ?_
  refine a_i2f 33 rfl dX11_bits_32 ?_
  refine a_aload_n 2 34 rfl dX11_bits_33 rfl rfl ?_
  refine a_get 0 cl_10 f_RX11_12_10 (by decide) (rfl) rfl 37 rfl dX11_bits_34 ?_
  refine a_callV (as := []) (rest := [.float (FP.i2f (nI (f_pop (f_so C T))))]) (st2 := [.int (nI (2 ^ C.1 0)), .float (FP.i2f (nI (f_pop (f_so C T))))]) (u1 := 0) (v1 := 0) (u2 := 0) (v2 := 0) (r_X3_places (n := C.1 0) rfl hn) (⟨_, _, _, _, rfl, rfl⟩) oX3_places q_623 q_388 q_1663 rfl (by omega) (by decide) rfl (Nat.le_of_ble_eq_true rfl) 40 rfl dX11_bits_37 rfl ?_
  refine a_i2f 41 rfl dX11_bits_40 ?_
  refine a_fdiv 42 rfl dX11_bits_41 ((f_q_ok (a := f_pop (f_so C T)) (b := 2 ^ C.1 0) (by omega) h2.1 h2.2)) ?_
  refine a_fstore (lv' := [(6, .float (FP.fdiv (FP.i2f (nI (f_pop (f_so C T)))) (FP.i2f (nI (2 ^ C.1 0))))), (4, .long (f_so C T)), (3, .ref (g_ad G (38 + o))), (0, .ref (g_ad G 0)), (1, .int (nI j)), (2, .int y)]) 44 rfl dX11_bits_42 (by decide) rfl ?_
  refine a_iload_n 5 45 rfl dX11_bits_44 rfl rfl ?_
  refine a_tableOut 121 dX11_bits_45 (hy) (by decide) ?_
  refine a_ldc2 q_466 124 rfl dX11_bits_121 ?_
  exact a_lreturn rfl (rfl) (rfl) dX11_bits_124
end BT1
