/-! weight: the class's call, the model's call -/
section WG2
variable {G : g_G} {C : f_C} {tl : List va_E} {x : Int64} {y y2 y3 : Int32} {j o : Nat} {T : f_T}
theorem r_X11_weight_bad (hm : C.1 3 ≤ 8) (hi : ¬ vp_in y (C.1 3)) : g_Run G mX11_weight 5 0 0 [.ref (g_ad G 0), .int y] (g_hp G C tl) (some (.long (-9223372036854775808))) (g_hp G C tl) := by
  refine g_Run.of (lv := [(0, .ref (g_ad G 0)), (1, .int y)]) (by decide) (Nat.le_of_ble_eq_true rfl) rfl ?_
  refine a_aload_n 0 1 rfl dX11_weight_0 rfl rfl ?_
  refine a_get 2 cl_10 f_RX11_28_10 (by decide) (rfl) rfl 4 rfl dX11_weight_1 ?_
  refine a_iload_n 1 5 rfl dX11_weight_4 rfl rfl ?_
  refine a_callVN (as := [.int y]) (rest := []) (st2 := [.null]) (u1 := 0) (v1 := 0) (u2 := 0) (v2 := 0) (r_at_out hm hi) (⟨_, _, _, _, rfl, rfl⟩) oX4_at q_446 q_448 q_9 rfl (by omega) (by decide) rfl (Nat.le_of_ble_eq_true rfl) 8 rfl dX11_weight_5 rfl ?_
  refine a_astore_nN (lv' := [(2, .null), (0, .ref (g_ad G 0)), (1, .int y)]) 9 rfl dX11_weight_8 rfl (by decide) rfl ?_
  refine a_aload_nN 0 10 rfl dX11_weight_9 rfl rfl ?_
  refine a_ifnonnullN 13 rfl dX11_weight_10 ?_
  refine a_ldc2 q_466 16 rfl dX11_weight_13 ?_
  refine a_goto 37 dX11_weight_16 (by decide) ?_
  exact a_lreturn rfl (rfl) (rfl) dX11_weight_37
theorem r_X11_weight (hf : f_is G C tl j o T) (hn : C.1 0 ≤ 6) : g_Run G mX11_weight 5 0 0 [.ref (g_ad G 0), .int (nI j)] (g_hp G C tl) (some (.long (lN (f_wt (f_so C T) (C.1 0) (2 ^ C.1 0)).toNat))) (g_hp G C tl) := by
  refine g_Run.of (lv := [(0, .ref (g_ad G 0)), (1, .int (nI j))]) (by decide) (Nat.le_of_ble_eq_true rfl) rfl ?_
  refine a_aload_n 0 1 rfl dX11_weight_0 rfl rfl ?_
  refine a_get 2 cl_10 f_RX11_28_10 (by decide) (rfl) rfl 4 rfl dX11_weight_1 ?_
  refine a_iload_n 1 5 rfl dX11_weight_4 rfl rfl ?_
  refine a_callVN (as := [.int (nI j)]) (rest := []) (st2 := [.ref (g_ad G (38 + o))]) (u1 := 0) (v1 := 0) (u2 := 0) (v2 := 0) (r_at_in hf) (⟨_, _, _, _, rfl, rfl⟩) oX4_at q_446 q_448 q_9 rfl (by omega) (by decide) rfl (Nat.le_of_ble_eq_true rfl) 8 rfl dX11_weight_5 rfl ?_
  refine a_astore_n (lv' := [(2, .ref (g_ad G (38 + o))), (0, .ref (g_ad G 0)), (1, .int (nI j))]) 9 rfl dX11_weight_8 rfl (by decide) rfl ?_
  refine a_aload_n 0 10 rfl dX11_weight_9 rfl rfl ?_
  refine a_ifnonnull 19 dX11_weight_10 (by decide) ?_
  refine a_aload_n 1 20 rfl dX11_weight_19 rfl rfl ?_
  refine a_get 0 cl_10 f_RX11_12_10 (by decide) (rfl) rfl 23 rfl dX11_weight_20 ?_
  refine a_aload_n 1 24 rfl dX11_weight_23 rfl rfl ?_
  refine a_get 0 cl_10 f_RX11_12_10 (by decide) (rfl) rfl 27 rfl dX11_weight_24 ?_
  refine a_aload_n 0 28 rfl dX11_weight_27 rfl rfl ?_
  refine a_callVN (as := [.ref (g_ad G (38 + o))]) (rest := [.ref (g_ad G 1)]) (st2 := [.long (f_so C T), .ref (g_ad G 1)]) (u1 := 0) (v1 := 0) (u2 := 0) (v2 := 0) (r_so hf hn) (⟨_, _, _, _, rfl, rfl⟩) oX3_setsOf q_467 q_469 q_13 rfl (by omega) (by decide) rfl (Nat.le_of_ble_eq_true rfl) 31 rfl dX11_weight_28 rfl ?_
  refine a_callVN (as := [.long (f_so C T)]) (rest := []) (st2 := [.double (f_wt (f_so C T) (C.1 0) (2 ^ C.1 0))]) (u1 := 0) (v1 := 0) (u2 := 0) (v2 := 0) (r_X3_weightOf (n := C.1 0) rfl hn) (⟨_, _, _, _, rfl, rfl⟩) oX3_weightOf q_817 q_819 q_42 rfl (by omega) (by decide) rfl (Nat.le_of_ble_eq_true rfl) 34 rfl dX11_weight_31 rfl ?_
  refine a_callS (as := [.double (f_wt (f_so C T) (C.1 0) (2 ^ C.1 0))]) (rest := []) (st2 := [.long (lN (f_wt (f_so C T) (C.1 0) (2 ^ C.1 0)).toNat)]) (u1 := 0) (v1 := 0) (u2 := 0) (v2 := 0) (r_bodw (n := C.1 0) (s := 2 ^ C.1 0) hn (Nat.le_refl _)) oX11_bitsOfDouble q_823 q_824 rfl (by omega) (by decide) rfl (Nat.le_of_ble_eq_true rfl) 37 rfl dX11_weight_34 rfl ?_
  exact a_lreturn rfl (rfl) (rfl) dX11_weight_37
end WG2
section WG3
variable {G : g_G} {C : f_C} {M : f_M} {ob h : List va_E} {x : Int64} {y y2 y3 : Int32} {i j : Nat} {T : f_T}
theorem r_weightM_out (hm : M.1 1 ≤ 8) (hi : ¬ vp_in y (M.1 1)) : g_Run G mX12_weight 6 0 0 [.ref (g_ad G 38), .int y] (g_hp G C (g_hm G M ++ ob)) (some (.long (-9223372036854775808))) (g_hp G C (g_hm G M ++ ob)) := by
  refine g_Run.of (lv := [(0, .ref (g_ad G 38)), (1, .int y)]) (by decide) (Nat.le_of_ble_eq_true rfl) rfl ?_
  refine a_aload_n 0 1 rfl dX12_weight_0 rfl rfl ?_
  refine a_iload_n 1 2 rfl dX12_weight_1 rfl rfl ?_
  refine a_callV (as := [.int y]) (rest := []) (st2 := [.int 0]) (u1 := 0) (v1 := 0) (u2 := 0) (v2 := 0) (r_isFam_out hm hi) (⟨_, _, _, _, rfl, rfl⟩) oX12_isFamily q_1273 q_1275 q_87 rfl (by omega) (by decide) rfl (Nat.le_of_ble_eq_true rfl) 5 rfl dX12_weight_2 rfl ?_
  refine a_if_ne 12 8 rfl dX12_weight_5 (by decide) (fun hc => absurd (rfl) hc) (fun _ => ?_)
  refine a_ldc2 q_1295 11 rfl dX12_weight_8 ?_
  exact a_lreturn rfl (rfl) (rfl) dX12_weight_11
theorem f_chb : ∀ n, n < 7 → ∀ s, s < 2 ^ n → f_bin n (f_pop (nI s).toInt64) = f_ch n (f_pop (nI s).toInt64) ∧ f_bin n (f_pop (nI s).toInt64) ≤ 4000000000000000 := by decide +kernel
theorem r_weightM (hn : M.1 0 ≤ 6) (hi : f_mis M j T) : g_Run G mX12_weight 6 0 0 [.ref (g_ad G 38), .int (nI j)] (g_hp G C (g_hm G M ++ ob)) (some (.long (lN (f_wt (f_mso M T) (M.1 0) (2 ^ M.1 0)).toNat))) (g_hp G C (g_hm G M ++ ob)) := by
  have h2 := f_2n hn
  refine g_Run.of (lv := [(0, .ref (g_ad G 38)), (1, .int (nI j))]) (by decide) (Nat.le_of_ble_eq_true rfl) rfl ?_
  refine a_aload_n 0 1 rfl dX12_weight_0 rfl rfl ?_
  refine a_iload_n 1 2 rfl dX12_weight_1 rfl rfl ?_
  refine a_callV (as := [.int (nI j)]) (rest := []) (st2 := [.int 1]) (u1 := 0) (v1 := 0) (u2 := 0) (v2 := 0) (r_isFam_in hi.2.1 hi.1) (⟨_, _, _, _, rfl, rfl⟩) oX12_isFamily q_1273 q_1275 q_87 rfl (by omega) (by decide) rfl (Nat.le_of_ble_eq_true rfl) 5 rfl dX12_weight_2 rfl ?_
  refine a_if_ne 12 8 rfl dX12_weight_5 (by decide) (fun _ => ?_) (fun hc => absurd hc ((by decide)))
  refine a_aload_n 0 13 rfl dX12_weight_12 rfl rfl ?_
  refine a_iload_n 1 14 rfl dX12_weight_13 rfl rfl ?_
  refine a_callV (as := [.int (nI j)]) (rest := []) (st2 := [.long (f_mso M T)]) (u1 := 0) (v1 := 0) (u2 := 0) (v2 := 0) (r_mso hn hi) (⟨_, _, _, _, rfl, rfl⟩) oX12_setsOf q_1296 q_1298 q_89 rfl (by omega) (by decide) rfl (Nat.le_of_ble_eq_true rfl) 17 rfl dX12_weight_14 rfl ?_
  refine a_lstore_n (lv' := [(2, .long (f_mso M T)), (0, .ref (g_ad G 38)), (1, .int (nI j))]) 18 rfl dX12_weight_17 rfl (by decide) rfl ?_
  refine a_dconst0 19 rfl dX12_weight_18 ?_
  refine a_dstore (lv' := [(4, .double FP.dconst0), (2, .long (f_mso M T)), (0, .ref (g_ad G 38)), (1, .int (nI j))]) 21 rfl dX12_weight_19 (by decide) rfl ?_
  refine a_iconst (x := 0) 22 rfl dX12_weight_21 (by decide) ?_
  refine a_istore (lv' := [(6, .int 0), (4, .double FP.dconst0), (2, .long (f_mso M T)), (0, .ref (g_ad G 38)), (1, .int (nI j))]) 24 rfl dX12_weight_22 (by decide) rfl ?_
  refine a_sub (lv' := [(6, .int (nI 0)), (4, .double (f_wt (f_mso M T) (M.1 0) 0)), (0, .ref (g_ad G 38)), (1, .int (nI j)), (2, .long (f_mso M T))]) [0, 1, 3, 4, 2] rfl ?_
  refine g_for (P := fun s9 => True) (2 ^ M.1 0) (fun s9 => [(6, .int (nI s9)), (4, .double (f_wt (f_mso M T) (M.1 0) s9)), (0, .ref (g_ad G 38)), (1, .int (nI j)), (2, .long (f_mso M T))]) (fun s9 => (g_hp G C (g_hm G M ++ ob))) (trivial) (fun s9 h_s9 p_s9 k_s9 => ?_) (fun p_s9 => ?_)
  · skip
    have hq := f_pop_le (nI s9).toInt64
    refine a_iload 0 26 rfl dX12_weight_24 rfl ?_
    refine a_aload_n 2 27 rfl dX12_weight_26 rfl rfl ?_
    refine a_callV (as := []) (rest := [.int (nI s9)]) (st2 := [.int (nI (2 ^ M.1 0)), .int (nI s9)]) (u1 := 0) (v1 := 0) (u2 := 0) (v2 := 0) (r_allM hn) (⟨_, _, _, _, rfl, rfl⟩) oX12_all q_1253 q_1255 q_85 rfl (by omega) (by decide) rfl (Nat.le_of_ble_eq_true rfl) 30 rfl dX12_weight_27 rfl ?_
    refine a_icmp_ge 74 33 rfl dX12_weight_30 (by decide) (fun hc => absurd hc (nI_ge (a := s9) (b := (2 ^ M.1 0)) (by omega) (by omega))) (fun _ => ?_)
    refine a_lload_n 4 34 rfl dX12_weight_33 rfl rfl ?_
    refine a_iload 0 36 rfl dX12_weight_34 rfl ?_
    refine a_callS (as := [.long (f_mso M T), .int (nI s9)]) (rest := []) (st2 := [.int (f_i (f_b (f_mso M T) s9))]) (u1 := 0) (v1 := 0) (u2 := 0) (v2 := 0) (r_hasB (s := s9) (by omega)) oX12_has q_1304 q_1305 rfl (by omega) (by decide) rfl (Nat.le_of_ble_eq_true rfl) 39 rfl dX12_weight_36 rfl ?_
    rcases Bool.eq_false_or_eq_true (f_b (f_mso M T) s9) with eb | eb
    · have hs9 : s9 < 2 ^ M.1 0 := by omega
      have hw1 : f_wt (f_mso M T) (M.1 0) (s9 + 1) = FP.dadd (f_wt (f_mso M T) (M.1 0) s9) (f_wu (f_ch (M.1 0) (f_pop (nI s9).toInt64))) := by
        show cond (f_b (f_mso M T) s9) _ _ = _
        rw [eb]; rfl
      have hok := f_wt_ok (x := f_mso M T) (s := s9 + 1) hn (by omega)
      rw [hw1] at hok
      have hch := f_chs (M.1 0) (by omega) s9 hs9
      have hcb := f_chb (M.1 0) (by omega) s9 hs9
      have hu : vf_n64 (f_wu (f_ch (M.1 0) (f_pop (nI s9).toInt64))) := by
        obtain ⟨c9, q9, z1, _, _⟩ := f_wu_nf hch.1 hch.2
        exact f_nn64 z1
      rw [← hcb.1] at hw1 hok hu
      refine a_if_eq 64 42 rfl dX12_weight_39 (by decide) (fun hc => absurd hc (f_i_T eb)) (fun _ => ?_)
      refine a_dload 1 44 rfl dX12_weight_42 rfl ?_
      refine a_dconst1 45 rfl dX12_weight_44 ?_
      refine a_aload_n 2 46 rfl dX12_weight_45 rfl rfl ?_
      refine a_get 0 cl_11 f_RX12_9_11 (by decide) (rfl) rfl 49 rfl dX12_weight_46 ?_
      refine a_iload 0 51 rfl dX12_weight_49 rfl ?_
      refine a_i2l 52 rfl dX12_weight_51 ?_
      refine a_callS (as := [.long ((nI s9).toInt64)]) (rest := [.int (nI (M.1 0)), .double FP.dconst1, .double (f_wt (f_mso M T) (M.1 0) s9)]) (st2 := [.int (nI (f_pop ((nI s9).toInt64))), .int (nI (M.1 0)), .double FP.dconst1, .double (f_wt (f_mso M T) (M.1 0) s9)]) (u1 := 0) (v1 := 0) (u2 := 0) (v2 := 0) (r_many) oX12_many q_1311 q_1312 rfl (by omega) (by decide) rfl (Nat.le_of_ble_eq_true rfl) 55 rfl dX12_weight_52 rfl ?_
      refine a_callS (as := [.int (nI (M.1 0)), .int (nI (f_pop ((nI s9).toInt64)))]) (rest := [.double FP.dconst1, .double (f_wt (f_mso M T) (M.1 0) s9)]) (st2 := [.long (lN (f_bin (M.1 0) (f_pop (nI s9).toInt64))), .double FP.dconst1, .double (f_wt (f_mso M T) (M.1 0) s9)]) (u1 := 0) (v1 := 0) (u2 := 0) (v2 := 0) (r_chM (a := M.1 0) (k := f_pop (nI s9).toInt64) (by omega) (by omega) hcb.2) oX12_choices q_1405 q_1406 rfl (by omega) (by decide) rfl (Nat.le_of_ble_eq_true rfl) 58 rfl dX12_weight_55 rfl ?_
      refine a_l2d 59 rfl dX12_weight_58 ?_
      refine a_ddiv 60 rfl dX12_weight_59 (hu) ?_
      refine a_dadd 61 rfl dX12_weight_60 (hok) ?_
      refine a_goto 66 dX12_weight_61 (by decide) ?_
      refine a_dstore (lv' := [(4, .double (FP.dadd (f_wt (f_mso M T) (M.1 0) s9) (FP.ddiv FP.dconst1 (FP.l2d (lN (f_bin (M.1 0) (f_pop (nI s9).toInt64))))))), (6, .int (nI s9)), (0, .ref (g_ad G 38)), (1, .int (nI j)), (2, .long (f_mso M T))]) 68 rfl dX12_weight_66 (by decide) rfl ?_
      refine a_eq (lv2 := [(4, .double (f_wt (f_mso M T) (M.1 0) (s9 + 1))), (6, .int (nI s9)), (0, .ref (g_ad G 38)), (1, .int (nI j)), (2, .long (f_mso M T))]) rfl (congrArg (fun z9 => ([(4, .double z9), (6, .int (nI s9)), (0, .ref (g_ad G 38)), (1, .int (nI j)), (2, .long (f_mso M T))] : List (Nat × Value))) (hw1.symm)) rfl rfl ?_
      refine a_iinc (y := nI (s9 + 1)) (lv' := [(6, .int (nI (s9 + 1))), (4, .double (f_wt (f_mso M T) (M.1 0) (s9 + 1))), (0, .ref (g_ad G 38)), (1, .int (nI j)), (2, .long (f_mso M T))]) 1 71 rfl dX12_weight_68 rfl (nI_1 s9) (by decide) rfl ?_
      refine a_goto 24 dX12_weight_71 (by decide) ?_
      refine a_sub (lv' := [(6, .int (nI (s9 + 1))), (4, .double (f_wt (f_mso M T) (M.1 0) (s9 + 1))), (0, .ref (g_ad G 38)), (1, .int (nI j)), (2, .long (f_mso M T))]) [0, 1, 2, 3, 4] rfl ?_
      exact k_s9 trivial
    · have hw1 : f_wt (f_mso M T) (M.1 0) (s9 + 1) = f_wt (f_mso M T) (M.1 0) s9 := by
        show cond (f_b (f_mso M T) s9) _ _ = _
        rw [eb]; rfl
      refine a_if_eq 64 42 rfl dX12_weight_39 (by decide) (fun _ => ?_) (fun hc => absurd (f_i_F eb) hc)
      refine a_dload 1 66 rfl dX12_weight_64 rfl ?_
      refine a_dstore (lv' := [(4, .double (f_wt (f_mso M T) (M.1 0) s9)), (6, .int (nI s9)), (0, .ref (g_ad G 38)), (1, .int (nI j)), (2, .long (f_mso M T))]) 68 rfl dX12_weight_66 (by decide) rfl ?_
      refine a_eq (lv2 := [(4, .double (f_wt (f_mso M T) (M.1 0) (s9 + 1))), (6, .int (nI s9)), (0, .ref (g_ad G 38)), (1, .int (nI j)), (2, .long (f_mso M T))]) rfl (congrArg (fun z9 => ([(4, .double z9), (6, .int (nI s9)), (0, .ref (g_ad G 38)), (1, .int (nI j)), (2, .long (f_mso M T))] : List (Nat × Value))) (hw1.symm)) rfl rfl ?_
      refine a_iinc (y := nI (s9 + 1)) (lv' := [(6, .int (nI (s9 + 1))), (4, .double (f_wt (f_mso M T) (M.1 0) (s9 + 1))), (0, .ref (g_ad G 38)), (1, .int (nI j)), (2, .long (f_mso M T))]) 1 71 rfl dX12_weight_68 rfl (nI_1 s9) (by decide) rfl ?_
      refine a_goto 24 dX12_weight_71 (by decide) ?_
      refine a_sub (lv' := [(6, .int (nI (s9 + 1))), (4, .double (f_wt (f_mso M T) (M.1 0) (s9 + 1))), (0, .ref (g_ad G 38)), (1, .int (nI j)), (2, .long (f_mso M T))]) [0, 1, 2, 3, 4] rfl ?_
      exact k_s9 trivial
  · skip
    refine a_iload 0 26 rfl dX12_weight_24 rfl ?_
    refine a_aload_n 2 27 rfl dX12_weight_26 rfl rfl ?_
    refine a_callV (as := []) (rest := [.int (nI (2 ^ M.1 0))]) (st2 := [.int (nI (2 ^ M.1 0)), .int (nI (2 ^ M.1 0))]) (u1 := 0) (v1 := 0) (u2 := 0) (v2 := 0) (r_allM hn) (⟨_, _, _, _, rfl, rfl⟩) oX12_all q_1253 q_1255 q_85 rfl (by omega) (by decide) rfl (Nat.le_of_ble_eq_true rfl) 30 rfl dX12_weight_27 rfl ?_
    refine a_icmp_ge 74 33 rfl dX12_weight_30 (by decide) (fun _ => ?_) (fun hc => absurd (nI_le (a := (2 ^ M.1 0)) (b := (2 ^ M.1 0)) (by omega) (by omega)) hc)
    refine a_dload 1 76 rfl dX12_weight_74 rfl ?_
    refine a_callS (as := [.double (f_wt (f_mso M T) (M.1 0) (2 ^ M.1 0))]) (rest := []) (st2 := [.long ((f_wt (f_mso M T) (M.1 0) (2 ^ M.1 0)).toInt64)]) (u1 := 0) (v1 := 0) (u2 := 0) (v2 := 0) (r_d2bits (f_wt_self (x := f_mso M T) (s := 2 ^ M.1 0) hn (Nat.le_refl _))) oJxe99ae_doubleToLongBits_ccdee q_1516 q_1517 rfl (by omega) (by decide) rfl (Nat.le_of_ble_eq_true rfl) 79 rfl dX12_weight_76 rfl ?_
    exact a_lreturn rfl (congrArg (fun z9 => some (Value.long z9)) f_bits64) (rfl) dX12_weight_79
end WG3
