/-! the bits of a float, of a double -/
theorem f_nn32 {v : UInt32} {c : Nat} {q : Int} (h : f_nf32 v c q) : vf_n32 v := by
  have e1 := f_nf32_bits h
  obtain ⟨_, h2, h3, h4, h5⟩ := h
  unfold vf_n32
  rw [UInt32.le_iff_toNat_le, UInt32.toNat_and]
  exact Nat.le_trans Nat.and_le_left (by rw [e1]; show _ ≤ 2139095040; omega)
theorem f_nn64 {v : UInt64} {c : Nat} {q : Int} (h : f_nf64 v c q) : vf_n64 v := by
  have e1 := f_nf64_bits h
  obtain ⟨_, h2, h3, h4, h5⟩ := h
  unfold vf_n64
  rw [UInt64.le_iff_toNat_le, UInt64.toNat_and]
  exact Nat.le_trans Nat.and_le_left (by rw [e1]; show _ ≤ 9218868437227405312; omega)
theorem f_cv_lt {o : Option Ordering} {z : CmpOp} (h : o = some .lt) : Op.cmpValue o z < 0 := by rw [h]; cases z <;> decide
theorem f_cv_nlt {o : Option Ordering} {z : CmpOp} (h : o = some .gt ∨ o = some .eq) : ¬ Op.cmpValue o z < 0 := by rcases h with h | h <;> rw [h] <;> cases z <;> decide
theorem f_cv_ge {o : Option Ordering} {z : CmpOp} (h : o = some .gt ∨ o = some .eq) : 0 ≤ Op.cmpValue o z := by rcases h with h | h <;> rw [h] <;> cases z <;> decide
theorem f_cv_nge {o : Option Ordering} {z : CmpOp} (h : o = some .lt) : ¬ 0 ≤ Op.cmpValue o z := by rw [h]; cases z <;> decide
theorem f_cv_gt {o : Option Ordering} {z : CmpOp} (h : o = some .gt) : 0 < Op.cmpValue o z := by rw [h]; cases z <;> decide
theorem f_cv_ngt {o : Option Ordering} {z : CmpOp} (h : o = some .eq) : ¬ 0 < Op.cmpValue o z := by rw [h]; cases z <;> decide
theorem l_bof1 {G : g_G} {x9 : UInt32} {h : List va_E} {r9 : Option Value} {c9 : Nat} {Q9 : Int} {uu vv : Nat} (hQ : Q9 ≤ 150) (kk : ∀ (v9 : UInt32) (q9 : Int) (e9 : Nat), f_nf32 v9 c9 q9 → q9 < -22 → e9 ≤ 200 → q9 + e9 = Q9 → g_A G mX11_bitsOfFloat 1 uu vv 36 [(0, .float x9), (1, .float v9), (2, .int (nI e9))] [] h r9 h) :
    ∀ (jj : Nat) (v9 : UInt32) (q9 : Int) (e9 : Nat), f_nf32 v9 c9 q9 → q9 + 22 < jj → e9 ≤ 200 → q9 + e9 = Q9 → g_A G mX11_bitsOfFloat 1 uu vv 13 [(0, .float x9), (1, .float v9), (2, .int (nI e9))] [] h r9 h := by
  intro jj
  induction jj with
  | zero =>
    intro v9 q9 e9 hv hq hl he
    refine a_iload_n 2 14 rfl dX11_bitsOfFloat_13 rfl rfl ?_
    refine a_sipush (x := 254) 17 rfl dX11_bitsOfFloat_14 (by decide) ?_
    refine a_icmp_ge 36 20 rfl dX11_bitsOfFloat_17 (by decide) (fun hc => absurd hc (nI_ge (b := 254) (by omega) (by omega))) (fun _ => ?_)
    refine a_fload_n 1 21 rfl dX11_bitsOfFloat_20 rfl rfl ?_
    refine a_fconst2 22 rfl dX11_bitsOfFloat_21 ?_
    refine a_fcmp 23 rfl dX11_bitsOfFloat_22 ?_
    refine a_if_lt 36 26 rfl dX11_bitsOfFloat_23 (by decide) (fun _ => ?_) (fun hc => absurd (f_cv_lt ((f_nf32_cmp hv f_nf32_c2).1 (by omega))) hc)
    exact kk v9 q9 e9 hv (by omega) hl he
  | succ jj ih =>
    intro v9 q9 e9 hv hq hl he
    by_cases y9 : q9 < -22
    · exact ih v9 q9 e9 hv (by omega) hl he
    · have hv2 := f_nf32_half hv (by omega)
      refine a_iload_n 2 14 rfl dX11_bitsOfFloat_13 rfl rfl ?_
      refine a_sipush (x := 254) 17 rfl dX11_bitsOfFloat_14 (by decide) ?_
      refine a_icmp_ge 36 20 rfl dX11_bitsOfFloat_17 (by decide) (fun hc => absurd hc (nI_ge (b := 254) (by omega) (by omega))) (fun _ => ?_)
      refine a_fload_n 1 21 rfl dX11_bitsOfFloat_20 rfl rfl ?_
      refine a_fconst2 22 rfl dX11_bitsOfFloat_21 ?_
      refine a_fcmp 23 rfl dX11_bitsOfFloat_22 ?_
      refine a_if_lt 36 26 rfl dX11_bitsOfFloat_23 (by decide) (fun hc => absurd hc (f_cv_nlt ((f_nf32_cmp hv f_nf32_c2).2 (by omega)))) (fun _ => ?_)
      refine a_fload_n 1 27 rfl dX11_bitsOfFloat_26 rfl rfl ?_
      refine a_fconst2 28 rfl dX11_bitsOfFloat_27 ?_
      refine a_fdiv 29 rfl dX11_bitsOfFloat_28 ((f_nn32 hv2)) ?_
      refine a_fstore_n (lv' := [(1, .float (FP.fdiv v9 FP.fconst2)), (0, .float x9), (2, .int (nI e9))]) 30 rfl dX11_bitsOfFloat_29 rfl (by decide) rfl ?_
      refine a_iinc (y := nI (e9 + 1)) (lv' := [(2, .int (nI (e9 + 1))), (1, .float (FP.fdiv v9 FP.fconst2)), (0, .float x9)]) 2 33 rfl dX11_bitsOfFloat_30 rfl (nI_1 e9) (by decide) rfl ?_
      refine a_goto 13 dX11_bitsOfFloat_33 (by decide) ?_
      refine a_sub (lv' := [(0, .float x9), (1, .float (FP.fdiv v9 FP.fconst2)), (2, .int (nI (e9 + 1)))]) [2, 1, 0] rfl ?_
      exact ih _ (q9 - 1) (e9 + 1) hv2 (by omega) (by omega) (by omega)
theorem l_bof2 {G : g_G} {x9 : UInt32} {h : List va_E} {r9 : Option Value} {c9 : Nat} {Q9 : Int} {uu vv : Nat} (hQ : -22 < Q9) (kk : ∀ (v9 : UInt32) (e9 : Nat), f_nf32 v9 c9 (-23) → e9 ≤ 200 → -23 + (e9 : Int) = Q9 → g_A G mX11_bitsOfFloat 1 uu vv 57 [(0, .float x9), (1, .float v9), (2, .int (nI e9))] [] h r9 h) :
    ∀ (jj : Nat) (v9 : UInt32) (q9 : Int) (e9 : Nat), f_nf32 v9 c9 q9 → q9 < -22 → -q9 - 23 ≤ jj → e9 ≤ 200 → q9 + e9 = Q9 → g_A G mX11_bitsOfFloat 1 uu vv 36 [(0, .float x9), (1, .float v9), (2, .int (nI e9))] [] h r9 h := by
  intro jj
  induction jj with
  | zero =>
    intro v9 q9 e9 hv hq hj hl he
    have e8 : q9 = -23 := by omega
    subst e8
    refine a_iload_n 2 37 rfl dX11_bitsOfFloat_36 rfl rfl ?_
    refine a_iconst (x := 1) 38 rfl dX11_bitsOfFloat_37 (by decide) ?_
    refine a_icmp_le 57 41 rfl dX11_bitsOfFloat_38 (by decide) (fun hc => absurd hc (nI_ge (a := 1) (by omega) (by omega))) (fun _ => ?_)
    refine a_fload_n 1 42 rfl dX11_bitsOfFloat_41 rfl rfl ?_
    refine a_fconst1 43 rfl dX11_bitsOfFloat_42 ?_
    refine a_fcmp 44 rfl dX11_bitsOfFloat_43 ?_
    refine a_if_ge 57 47 rfl dX11_bitsOfFloat_44 (by decide) (fun _ => ?_) (fun hc => absurd (f_cv_ge ((f_nf32_cmp hv f_nf32_c1).2 (by omega))) hc)
    exact kk v9 e9 hv hl he
  | succ jj ih =>
    intro v9 q9 e9 hv hq hj hl he
    by_cases y9 : q9 = -23
    · exact ih v9 q9 e9 hv hq (by omega) hl he
    · obtain ⟨e8, rfl⟩ : ∃ e8, e9 = e8 + 1 := ⟨e9 - 1, by omega⟩
      have hv2 := f_nf32_times hv f_nf32_c2 (by obtain ⟨_, _, _, _, _⟩ := hv; omega) (by omega)
      refine a_iload_n 2 37 rfl dX11_bitsOfFloat_36 rfl rfl ?_
      refine a_iconst (x := 1) 38 rfl dX11_bitsOfFloat_37 (by decide) ?_
      refine a_icmp_le 57 41 rfl dX11_bitsOfFloat_38 (by decide) (fun hc => absurd hc (nI_ge (a := 1) (by omega) (by omega))) (fun _ => ?_)
      refine a_fload_n 1 42 rfl dX11_bitsOfFloat_41 rfl rfl ?_
      refine a_fconst1 43 rfl dX11_bitsOfFloat_42 ?_
      refine a_fcmp 44 rfl dX11_bitsOfFloat_43 ?_
      refine a_if_ge 57 47 rfl dX11_bitsOfFloat_44 (by decide) (fun hc => absurd hc (f_cv_nge ((f_nf32_cmp hv f_nf32_c1).1 (by omega)))) (fun _ => ?_)
      refine a_fload_n 1 48 rfl dX11_bitsOfFloat_47 rfl rfl ?_
      refine a_fconst2 49 rfl dX11_bitsOfFloat_48 ?_
      refine a_fmul 50 rfl dX11_bitsOfFloat_49 ((f_nn32 hv2)) ?_
      refine a_fstore_n (lv' := [(1, .float (FP.fmul v9 FP.fconst2)), (0, .float x9), (2, .int (nI (e8 + 1)))]) 51 rfl dX11_bitsOfFloat_50 rfl (by decide) rfl ?_
      refine a_iinc (y := nI e8) (lv' := [(2, .int (nI e8)), (1, .float (FP.fmul v9 FP.fconst2)), (0, .float x9)]) 2 54 rfl dX11_bitsOfFloat_51 rfl (nI_m1 e8) (by decide) rfl ?_
      refine a_goto 36 dX11_bitsOfFloat_54 (by decide) ?_
      refine a_sub (lv' := [(0, .float x9), (1, .float (FP.fmul v9 FP.fconst2)), (2, .int (nI e8))]) [2, 1, 0] rfl ?_
      exact ih _ (q9 + -22 + (24 - 1)) e8 hv2 (by omega) (by omega) (by omega) (by omega)
theorem f_sl23 : ∀ e, e < 256 → f_sl (nI e).toInt64 23 = lN (e * 8388608) := by decide +kernel
theorem r_bof0 {G : g_G} {h : List va_E} {uu vv : Nat} : g_Run G mX11_bitsOfFloat 1 uu vv [.float 0] h (some (.long 0)) h := by
  refine g_Run.of (lv := [(0, .float 0)]) (by decide) (Nat.le_of_ble_eq_true rfl) rfl ?_
  refine a_fload_n 0 1 rfl dX11_bitsOfFloat_0 rfl rfl ?_
  refine a_fconst0 2 rfl dX11_bitsOfFloat_1 ?_
  refine a_fcmp 3 rfl dX11_bitsOfFloat_2 ?_
  refine a_if_gt 8 6 rfl dX11_bitsOfFloat_3 (by decide) (fun hc => absurd hc (f_cv_ngt (by decide))) (fun _ => ?_)
  refine a_lconst (x := 0) 7 rfl dX11_bitsOfFloat_6 (by decide) ?_
  exact a_lreturn rfl (rfl) (rfl) dX11_bitsOfFloat_7
theorem r_bof {G : g_G} {h : List va_E} {uu vv : Nat} {x9 : UInt32} {c9 : Nat} {q9 : Int} (hx : f_nf32 x9 c9 q9) (h1 : -149 < q9) (h2 : q9 ≤ 23) : g_Run G mX11_bitsOfFloat 1 uu vv [.float x9] h (some (.long (lN x9.toNat))) h := by
  refine g_Run.of (lv := [(0, .float x9)]) (by decide) (Nat.le_of_ble_eq_true rfl) rfl ?_
  refine a_fload_n 0 1 rfl dX11_bitsOfFloat_0 rfl rfl ?_
  refine a_fconst0 2 rfl dX11_bitsOfFloat_1 ?_
  refine a_fcmp 3 rfl dX11_bitsOfFloat_2 ?_
  refine a_if_gt 8 6 rfl dX11_bitsOfFloat_3 (by decide) (fun _ => ?_) (fun hc => absurd (f_cv_gt (f_nf32_pos hx)) hc)
  refine a_fload_n 0 9 rfl dX11_bitsOfFloat_8 rfl rfl ?_
  refine a_fstore_n (lv' := [(1, .float x9), (0, .float x9)]) 10 rfl dX11_bitsOfFloat_9 rfl (by decide) rfl ?_
  refine a_bipush (x := 127) 12 rfl dX11_bitsOfFloat_10 (by decide) ?_
  refine a_istore_n (lv' := [(2, .int 127), (1, .float x9), (0, .float x9)]) 13 rfl dX11_bitsOfFloat_12 rfl (by decide) rfl ?_
  refine a_sub (lv' := [(0, .float x9), (1, .float x9), (2, .int (nI 127))]) [2, 1, 0] rfl ?_
  refine l_bof1 (Q9 := q9 + 127) (by omega) (fun v1 q1 e1 k1 k2 k3 k4 => ?_) 100 x9 q9 127 hx (by omega) (by omega) (by omega)
  refine l_bof2 (Q9 := q9 + 127) (by omega) (fun v2 e2 k5 k6 k7 => ?_) 200 v1 q1 e1 k1 k2 (by obtain ⟨_, _, _, _, _⟩ := k1; omega) k3 k4
  have k8 := f_nf32_times k5 f_nf32_ct (by omega) (by omega)
  have k9 : FP.f2l (FP.fmul v2 1258291200) = lN c9 := f_nf32_long (by have e0 : ((-23 : Int) + 0 + (24 - 1)) = 0 := by decide
                                                                      rw [e0] at k8; exact k8)
  have k10 := f_nf32_bits hx
  refine a_iload_n 2 58 rfl dX11_bitsOfFloat_57 rfl rfl ?_
  refine a_i2l 59 rfl dX11_bitsOfFloat_58 ?_
  refine a_bipush (x := 23) 61 rfl dX11_bitsOfFloat_59 (by decide) ?_
  refine a_lshl 62 rfl dX11_bitsOfFloat_61 ?_
  refine a_fload_n 1 63 rfl dX11_bitsOfFloat_62 rfl rfl ?_
  refine a_ldcf q_806 66 rfl dX11_bitsOfFloat_63 ?_
  refine a_fmul 67 rfl dX11_bitsOfFloat_66 ((f_nn32 k8)) ?_
  refine a_f2l 68 rfl dX11_bitsOfFloat_67 ?_
  refine a_ladd 69 rfl dX11_bitsOfFloat_68 ?_
  refine a_ldc2 q_807 72 rfl dX11_bitsOfFloat_69 ?_
  refine a_lsub 73 rfl dX11_bitsOfFloat_72 ?_
  exact a_lreturn rfl ((by rw [k9, f_sl23 e2 (by omega), lN_add]; refine Eq.trans (lN_sub (b := 8388608) (by have := k5.2.1; omega)) (congrArg lN ?_); rw [k10]; have := k5.2.1; omega)) (rfl) dX11_bitsOfFloat_73
