/-! the bits of a float, of a double -/
theorem f_ldcfw {p : Program} {l : Launch} {e : Env} {R : Room} {s T : State} {m : MethodId} {args : Array Value} {below : List Frame} {meth : Method} {c : Code} {locs : List Loc} {cells slots : Nat} (X : Stand p l e R s m args below meth c T locs cells slots) (hexec : p.tables.exec = Jvm.exec) {own : String} {index : Nat} {v9 : UInt32} (hown : s.vm.findClass own = some m.cls) (hconst : (Cond.constantFloat own index v9).before args s = true) {g : JFrame} (hg : g.method = m) (hdg : decode c.code g.pc = .ok (.ldc_w index, 3)) :
    ∀ target, Steps p.tables e below (T.setTop { g with pc := g.pc + 3, stack := .float v9 :: g.stack }) target → Steps p.tables e below (T.setTop g) target := by
  obtain ⟨k1, cf, hk, hcf, hcp⟩ := Cond.constantFloat_spec hown hconst
  obtain ⟨k2, hk2, he⟩ := X.warmed.alike.2.2 _ _ hk
  intro target hrest
  subst hg
  jvm_step X.here [hexec, hdg, ldc_w.wp_float (s := T) (f := g) X.here.top hk2 (by rw [he]; exact hcf) hcp]
  exact hrest
theorem f_lvldcfw {p : Program} {l : Launch} {e : Env} {R : Room} {s : State} {m : MethodId} {args : Array Value} {below : List Frame} {meth : Method} {c : Code} {H : Heap} {locs : List Loc} {cells slots : Nat} {Q : State → Prop} {cc : ByteArray} {pc : Nat} {ls : Array Slot} {rest : List Value} (hexec : p.tables.exec = Jvm.exec) (hb : c.code = cc) {own : String} {index : Nat} {v9 : UInt32} (hown : s.vm.findClass own = some m.cls) (hconst : (Cond.constantFloat own index v9).before args s = true) (hdg : decode cc pc = .ok (.ldc_w index, 3)) (kk : W p l e R s m args below meth c H locs cells slots Q (F0 m (pc + 3) ls (.float v9 :: rest))) : W p l e R s m args below meth c H locs cells slots Q (F0 m pc ls rest) := by
  intro T hT X
  obtain ⟨t, a, b⟩ := kk T hT X
  exact ⟨t, f_ldcfw X hexec hown hconst (g := F0 m pc ls rest) rfl (by rw [hb]; exact hdg) t a, b⟩
theorem a_ldcfw {G : g_G} {M : g_M} {d u v pc : Nat} {lv : List (Nat × Value)} {rest : List Value} {h h' : List va_E} {r : Option Value} {index : Nat} {x : UInt32} (hw : Cond.constantFloat M.1.cls index x ∈ g_GW) (pc2 : Nat) (hp : pc + 3 = pc2) (hdg : decode M.2.1 pc = .ok (.ldc_w index, 3)) (kk : g_A G M d u v pc2 lv (.float x :: rest) h r h') : g_A G M d u v pc lv rest h r h' := by
  subst hp
  exact fun p e s m args below meth c H locs ls cells slots K N X => f_lvldcfw X.1.1 X.1.2.1 X.1.2.2.2.2.1 (X.1.2.2.2.2.2.1 _ hw) hdg (kk p e s m args below meth c H locs ls cells slots K N X)
theorem f_nn32 {v : UInt32} {c : Nat} {q : Int} (h : f_nf32 v c q) : vf_n32 v := by
  have e1 := f_nf32_bits h
  obtain ⟨_, h2, h3, h4, h5⟩ := h
  unfold vf_n32
  rw [UInt32.le_iff_toNat_le, UInt32.toNat_and]
  exact Nat.le_trans Nat.and_le_left (by rw [e1]; show _ ≤ 2139095040; omega)
theorem f_nn64 {v : UInt64} {c : Nat} {q : Int} (h : f_nf64 v c q) : vf_n64 v := by
  have e1 := f_nf64_bits h
  obtain ⟨_, h2, h3, h4, h5⟩ := h
  unfold vf_n64
  rw [UInt64.le_iff_toNat_le, UInt64.toNat_and]
  exact Nat.le_trans Nat.and_le_left (by rw [e1]; show _ ≤ 9218868437227405312; omega)
theorem f_cv_lt {o : Option Ordering} {z : CmpOp} (h : o = some .lt) : Op.cmpValue o z < 0 := by rw [h]; cases z <;> decide
theorem f_cv_nlt {o : Option Ordering} {z : CmpOp} (h : o = some .gt ∨ o = some .eq) : ¬ Op.cmpValue o z < 0 := by rcases h with h | h <;> rw [h] <;> cases z <;> decide
theorem f_cv_ge {o : Option Ordering} {z : CmpOp} (h : o = some .gt ∨ o = some .eq) : 0 ≤ Op.cmpValue o z := by rcases h with h | h <;> rw [h] <;> cases z <;> decide
theorem f_cv_nge {o : Option Ordering} {z : CmpOp} (h : o = some .lt) : ¬ 0 ≤ Op.cmpValue o z := by rw [h]; cases z <;> decide
theorem f_cv_gt {o : Option Ordering} {z : CmpOp} (h : o = some .gt) : 0 < Op.cmpValue o z := by rw [h]; cases z <;> decide
theorem f_cv_ngt {o : Option Ordering} {z : CmpOp} (h : o = some .eq) : ¬ 0 < Op.cmpValue o z := by rw [h]; cases z <;> decide
theorem l_bof1 {G : g_G} {x9 : UInt32} {h : List va_E} {r9 : Option Value} {c9 : Nat} {Q9 : Int} {uu vv : Nat} (hQ : Q9 ≤ 150) (kk : ∀ (v9 : UInt32) (q9 : Int) (e9 : Nat), f_nf32 v9 c9 q9 → q9 < -22 → e9 ≤ 200 → q9 + e9 = Q9 → g_A G mX11_bitsOfFloat 1 uu vv 36 [(0, .float x9), (1, .float v9), (2, .int (nI e9))] [] h r9 h) :
    ∀ (jj : Nat) (v9 : UInt32) (q9 : Int) (e9 : Nat), f_nf32 v9 c9 q9 → q9 + 22 < jj → e9 ≤ 200 → q9 + e9 = Q9 → g_A G mX11_bitsOfFloat 1 uu vv 13 [(0, .float x9), (1, .float v9), (2, .int (nI e9))] [] h r9 h := by
  intro jj
  induction jj with
  | zero =>
    intro v9 q9 e9 hv hq hl he
    refine a_iload_n 2 14 rfl dX11_bitsOfFloat_13 rfl rfl ?_
    refine a_sipush (x := 254) 17 rfl dX11_bitsOfFloat_14 (by decide) ?_
    refine a_icmp_ge 36 20 rfl dX11_bitsOfFloat_17 (by decide) (fun hc => absurd hc (nI_ge (b := 254) (by omega) (by omega))) (fun _ => ?_)
    refine a_fload_n 1 21 rfl dX11_bitsOfFloat_20 rfl rfl ?_
    refine a_fconst2 22 rfl dX11_bitsOfFloat_21 ?_
    refine a_fcmp 23 rfl dX11_bitsOfFloat_22 ?_
    refine a_if_lt 36 26 rfl dX11_bitsOfFloat_23 (by decide) (fun _ => ?_) (fun hc => absurd (f_cv_lt ((f_nf32_cmp hv f_nf32_c2).1 (by omega))) hc)
    exact kk v9 q9 e9 hv (by omega) hl he
  | succ jj ih =>
    intro v9 q9 e9 hv hq hl he
    by_cases y9 : q9 < -22
    · exact ih v9 q9 e9 hv (by omega) hl he
    · have hv2 := f_nf32_half hv (by omega)
      refine a_iload_n 2 14 rfl dX11_bitsOfFloat_13 rfl rfl ?_
      refine a_sipush (x := 254) 17 rfl dX11_bitsOfFloat_14 (by decide) ?_
      refine a_icmp_ge 36 20 rfl dX11_bitsOfFloat_17 (by decide) (fun hc => absurd hc (nI_ge (b := 254) (by omega) (by omega))) (fun _ => ?_)
      refine a_fload_n 1 21 rfl dX11_bitsOfFloat_20 rfl rfl ?_
      refine a_fconst2 22 rfl dX11_bitsOfFloat_21 ?_
      refine a_fcmp 23 rfl dX11_bitsOfFloat_22 ?_
      refine a_if_lt 36 26 rfl dX11_bitsOfFloat_23 (by decide) (fun hc => absurd hc (f_cv_nlt ((f_nf32_cmp hv f_nf32_c2).2 (by omega)))) (fun _ => ?_)
      refine a_fload_n 1 27 rfl dX11_bitsOfFloat_26 rfl rfl ?_
      refine a_fconst2 28 rfl dX11_bitsOfFloat_27 ?_
      refine a_fdiv 29 rfl dX11_bitsOfFloat_28 ((f_nn32 hv2)) ?_
      refine a_fstore_n (lv' := [(1, .float (FP.fdiv v9 FP.fconst2)), (0, .float x9), (2, .int (nI e9))]) 30 rfl dX11_bitsOfFloat_29 rfl (by decide) rfl ?_
      refine a_iinc (y := nI (e9 + 1)) (lv' := [(2, .int (nI (e9 + 1))), (1, .float (FP.fdiv v9 FP.fconst2)), (0, .float x9)]) 2 33 rfl dX11_bitsOfFloat_30 rfl (nI_1 e9) (by decide) rfl ?_
      refine a_goto 13 dX11_bitsOfFloat_33 (by decide) ?_
      refine a_sub (lv' := [(0, .float x9), (1, .float (FP.fdiv v9 FP.fconst2)), (2, .int (nI (e9 + 1)))]) [2, 1, 0] rfl ?_
      exact ih _ (q9 - 1) (e9 + 1) hv2 (by omega) (by omega) (by omega)
theorem l_bof2 {G : g_G} {x9 : UInt32} {h : List va_E} {r9 : Option Value} {c9 : Nat} {Q9 : Int} {uu vv : Nat} (hQ : -22 < Q9) (kk : ∀ (v9 : UInt32) (e9 : Nat), f_nf32 v9 c9 (-23) → e9 ≤ 200 → -23 + (e9 : Int) = Q9 → g_A G mX11_bitsOfFloat 1 uu vv 57 [(0, .float x9), (1, .float v9), (2, .int (nI e9))] [] h r9 h) :
    ∀ (jj : Nat) (v9 : UInt32) (q9 : Int) (e9 : Nat), f_nf32 v9 c9 q9 → q9 < -22 → -q9 - 23 ≤ jj → e9 ≤ 200 → q9 + e9 = Q9 → g_A G mX11_bitsOfFloat 1 uu vv 36 [(0, .float x9), (1, .float v9), (2, .int (nI e9))] [] h r9 h := by
  intro jj
  induction jj with
  | zero =>
    intro v9 q9 e9 hv hq hj hl he
    have e8 : q9 = -23 := by omega
    subst e8
    refine a_iload_n 2 37 rfl dX11_bitsOfFloat_36 rfl rfl ?_
    refine a_iconst (x := 1) 38 rfl dX11_bitsOfFloat_37 (by decide) ?_
    refine a_icmp_le 57 41 rfl dX11_bitsOfFloat_38 (by decide) (fun hc => absurd hc (nI_ge (a := 1) (by omega) (by omega))) (fun _ => ?_)
    refine a_fload_n 1 42 rfl dX11_bitsOfFloat_41 rfl rfl ?_
    refine a_fconst1 43 rfl dX11_bitsOfFloat_42 ?_
    refine a_fcmp 44 rfl dX11_bitsOfFloat_43 ?_
    refine a_if_ge 57 47 rfl dX11_bitsOfFloat_44 (by decide) (fun _ => ?_) (fun hc => absurd (f_cv_ge ((f_nf32_cmp hv f_nf32_c1).2 (by omega))) hc)
    exact kk v9 e9 hv hl he
  | succ jj ih =>
    intro v9 q9 e9 hv hq hj hl he
    by_cases y9 : q9 = -23
    · exact ih v9 q9 e9 hv hq (by omega) hl he
    · obtain ⟨e8, rfl⟩ : ∃ e8, e9 = e8 + 1 := ⟨e9 - 1, by omega⟩
      have hv2 := f_nf32_times hv f_nf32_c2 (by obtain ⟨_, _, _, _, _⟩ := hv; omega) (by omega)
      refine a_iload_n 2 37 rfl dX11_bitsOfFloat_36 rfl rfl ?_
      refine a_iconst (x := 1) 38 rfl dX11_bitsOfFloat_37 (by decide) ?_
      refine a_icmp_le 57 41 rfl dX11_bitsOfFloat_38 (by decide) (fun hc => absurd hc (nI_ge (a := 1) (by omega) (by omega))) (fun _ => ?_)
      refine a_fload_n 1 42 rfl dX11_bitsOfFloat_41 rfl rfl ?_
      refine a_fconst1 43 rfl dX11_bitsOfFloat_42 ?_
      refine a_fcmp 44 rfl dX11_bitsOfFloat_43 ?_
      refine a_if_ge 57 47 rfl dX11_bitsOfFloat_44 (by decide) (fun hc => absurd hc (f_cv_nge ((f_nf32_cmp hv f_nf32_c1).1 (by omega)))) (fun _ => ?_)
      refine a_fload_n 1 48 rfl dX11_bitsOfFloat_47 rfl rfl ?_
      refine a_fconst2 49 rfl dX11_bitsOfFloat_48 ?_
      refine a_fmul 50 rfl dX11_bitsOfFloat_49 ((f_nn32 hv2)) ?_
      refine a_fstore_n (lv' := [(1, .float (FP.fmul v9 FP.fconst2)), (0, .float x9), (2, .int (nI (e8 + 1)))]) 51 rfl dX11_bitsOfFloat_50 rfl (by decide) rfl ?_
      refine a_iinc (y := nI e8) (lv' := [(2, .int (nI e8)), (1, .float (FP.fmul v9 FP.fconst2)), (0, .float x9)]) 2 54 rfl dX11_bitsOfFloat_51 rfl (nI_m1 e8) (by decide) rfl ?_
      refine a_goto 36 dX11_bitsOfFloat_54 (by decide) ?_
      refine a_sub (lv' := [(0, .float x9), (1, .float (FP.fmul v9 FP.fconst2)), (2, .int (nI e8))]) [2, 1, 0] rfl ?_
      exact ih _ (q9 + -22 + (24 - 1)) e8 hv2 (by omega) (by omega) (by omega) (by omega)
theorem f_sl23 : ∀ e, e < 256 → (nI e).toInt64 <<< (Int32.toInt64 23 &&& 63) = lN (e * 8388608) := by decide +kernel
theorem r_bof0 {G : g_G} {h : List va_E} {uu vv : Nat} : g_Run G mX11_bitsOfFloat 1 uu vv [.float 0] h (some (.long 0)) h := by
  refine g_Run.of (lv := [(0, .float 0)]) (by decide) (Nat.le_of_ble_eq_true rfl) rfl ?_
  refine a_fload_n 0 1 rfl dX11_bitsOfFloat_0 rfl rfl ?_
  refine a_fconst0 2 rfl dX11_bitsOfFloat_1 ?_
  refine a_fcmp 3 rfl dX11_bitsOfFloat_2 ?_
  refine a_if_gt 8 6 rfl dX11_bitsOfFloat_3 (by decide) (fun hc => absurd hc (f_cv_ngt (by decide))) (fun _ => ?_)
  refine a_lconst (x := 0) 7 rfl dX11_bitsOfFloat_6 (by decide) ?_
  exact a_lreturn rfl (rfl) (rfl) dX11_bitsOfFloat_7
theorem r_bof {G : g_G} {h : List va_E} {uu vv : Nat} {x9 : UInt32} {c9 : Nat} {q9 : Int} (hx : f_nf32 x9 c9 q9) (h1 : -149 < q9) (h2 : q9 ≤ 23) : g_Run G mX11_bitsOfFloat 1 uu vv [.float x9] h (some (.long (lN x9.toNat))) h := by
  refine g_Run.of (lv := [(0, .float x9)]) (by decide) (Nat.le_of_ble_eq_true rfl) rfl ?_
  refine a_fload_n 0 1 rfl dX11_bitsOfFloat_0 rfl rfl ?_
  refine a_fconst0 2 rfl dX11_bitsOfFloat_1 ?_
  refine a_fcmp 3 rfl dX11_bitsOfFloat_2 ?_
  refine a_if_gt 8 6 rfl dX11_bitsOfFloat_3 (by decide) (fun _ => ?_) (fun hc => absurd (f_cv_gt (f_nf32_pos hx)) hc)
  refine a_fload_n 0 9 rfl dX11_bitsOfFloat_8 rfl rfl ?_
  refine a_fstore_n (lv' := [(1, .float x9), (0, .float x9)]) 10 rfl dX11_bitsOfFloat_9 rfl (by decide) rfl ?_
  refine a_bipush (x := 127) 12 rfl dX11_bitsOfFloat_10 (by decide) ?_
  refine a_istore_n (lv' := [(2, .int 127), (1, .float x9), (0, .float x9)]) 13 rfl dX11_bitsOfFloat_12 rfl (by decide) rfl ?_
  refine a_sub (lv' := [(0, .float x9), (1, .float x9), (2, .int (nI 127))]) [2, 1, 0] rfl ?_
  refine l_bof1 (Q9 := q9 + 127) (by omega) (fun v1 q1 e1 k1 k2 k3 k4 => ?_) 100 x9 q9 127 hx (by omega) (by omega) (by omega)
  refine l_bof2 (Q9 := q9 + 127) (by omega) (fun v2 e2 k5 k6 k7 => ?_) 200 v1 q1 e1 k1 k2 (by obtain ⟨_, _, _, _, _⟩ := k1; omega) k3 k4
  have k8 := f_nf32_times k5 f_nf32_ct (by omega) (by omega)
  have e0 : ((-23 : Int) + 0 + (24 - 1)) = 0 := by decide
  rw [e0] at k8
  have k9 : FP.f2l (FP.fmul v2 1258291200) = lN c9 := f_nf32_long k8
  have k10 := f_nf32_bits hx
  have k12 := k5.2.1
  have k11 : lN (e2 * 8388608 + c9) - lN 8388608 = lN x9.toNat := by
    rw [lN_sub (by omega)]
    exact congrArg lN (by rw [k10]; omega)
  refine a_iload_n 2 58 rfl dX11_bitsOfFloat_57 rfl rfl ?_
  refine a_i2l 59 rfl dX11_bitsOfFloat_58 ?_
  refine a_bipush (x := 23) 61 rfl dX11_bitsOfFloat_59 (by decide) ?_
  refine a_lshl 62 rfl dX11_bitsOfFloat_61 ?_
  refine a_fload_n 1 63 rfl dX11_bitsOfFloat_62 rfl rfl ?_
  refine a_ldcfw q_806 66 rfl dX11_bitsOfFloat_63 ?_
  refine a_fmul 67 rfl dX11_bitsOfFloat_66 ((f_nn32 k8)) ?_
  refine a_f2l 68 rfl dX11_bitsOfFloat_67 ?_
  refine a_ladd 69 rfl dX11_bitsOfFloat_68 ?_
  refine a_ldc2 q_807 72 rfl dX11_bitsOfFloat_69 ?_
  refine a_lsub 73 rfl dX11_bitsOfFloat_72 ?_
  exact a_lreturn rfl ((by rw [k9, f_sl23 e2 (by omega), lN_add]; exact congrArg (fun z9 => some (Value.long z9)) k11)) (rfl) dX11_bitsOfFloat_73
theorem l_bod1 {G : g_G} {x9 : UInt64} {h : List va_E} {r9 : Option Value} {c9 : Nat} {Q9 : Int} {uu vv : Nat} (hQ : Q9 ≤ 1100) (kk : ∀ (v9 : UInt64) (q9 : Int) (e9 : Nat), f_nf64 v9 c9 q9 → q9 < -51 → e9 ≤ 1200 → q9 + e9 = Q9 → g_A G mX11_bitsOfDouble 1 uu vv 43 [(0, .double x9), (2, .double v9), (4, .int (nI e9))] [] h r9 h) :
    ∀ (jj : Nat) (v9 : UInt64) (q9 : Int) (e9 : Nat), f_nf64 v9 c9 q9 → q9 + 51 < jj → e9 ≤ 1200 → q9 + e9 = Q9 → g_A G mX11_bitsOfDouble 1 uu vv 15 [(0, .double x9), (2, .double v9), (4, .int (nI e9))] [] h r9 h := by
  intro jj
  induction jj with
  | zero =>
    intro v9 q9 e9 hv hq hl he
    refine a_iload 2 17 rfl dX11_bitsOfDouble_15 rfl ?_
    refine a_sipush (x := 2046) 20 rfl dX11_bitsOfDouble_17 (by decide) ?_
    refine a_icmp_ge 43 23 rfl dX11_bitsOfDouble_20 (by decide) (fun hc => absurd hc (nI_ge (b := 2046) (by omega) (by omega))) (fun _ => ?_)
    refine a_dload_n 1 24 rfl dX11_bitsOfDouble_23 rfl rfl ?_
    refine a_ldc2d q_826 27 rfl dX11_bitsOfDouble_24 ?_
    refine a_dcmp 28 rfl dX11_bitsOfDouble_27 ?_
    refine a_if_lt 43 31 rfl dX11_bitsOfDouble_28 (by decide) (fun _ => ?_) (fun hc => absurd (f_cv_lt ((f_nf64_cmp hv f_nf64_c2).1 (by omega))) hc)
    exact kk v9 q9 e9 hv (by omega) hl he
  | succ jj ih =>
    intro v9 q9 e9 hv hq hl he
    by_cases y9 : q9 < -51
    · exact ih v9 q9 e9 hv (by omega) hl he
    · have hv2 := f_nf64_half hv (by omega)
      refine a_iload 2 17 rfl dX11_bitsOfDouble_15 rfl ?_
      refine a_sipush (x := 2046) 20 rfl dX11_bitsOfDouble_17 (by decide) ?_
      refine a_icmp_ge 43 23 rfl dX11_bitsOfDouble_20 (by decide) (fun hc => absurd hc (nI_ge (b := 2046) (by omega) (by omega))) (fun _ => ?_)
      refine a_dload_n 1 24 rfl dX11_bitsOfDouble_23 rfl rfl ?_
      refine a_ldc2d q_826 27 rfl dX11_bitsOfDouble_24 ?_
      refine a_dcmp 28 rfl dX11_bitsOfDouble_27 ?_
      refine a_if_lt 43 31 rfl dX11_bitsOfDouble_28 (by decide) (fun hc => absurd hc (f_cv_nlt ((f_nf64_cmp hv f_nf64_c2).2 (by omega)))) (fun _ => ?_)
      refine a_dload_n 1 32 rfl dX11_bitsOfDouble_31 rfl rfl ?_
      refine a_ldc2d q_826 35 rfl dX11_bitsOfDouble_32 ?_
      refine a_ddiv 36 rfl dX11_bitsOfDouble_35 ((f_nn64 hv2)) ?_
      refine a_dstore_n (lv' := [(2, .double (FP.ddiv v9 4611686018427387904)), (0, .double x9), (4, .int (nI e9))]) 37 rfl dX11_bitsOfDouble_36 rfl (by decide) rfl ?_
      refine a_iinc (y := nI (e9 + 1)) (lv' := [(4, .int (nI (e9 + 1))), (2, .double (FP.ddiv v9 4611686018427387904)), (0, .double x9)]) 2 40 rfl dX11_bitsOfDouble_37 rfl (nI_1 e9) (by decide) rfl ?_
      refine a_goto 15 dX11_bitsOfDouble_40 (by decide) ?_
      refine a_sub (lv' := [(0, .double x9), (2, .double (FP.ddiv v9 4611686018427387904)), (4, .int (nI (e9 + 1)))]) [2, 1, 0] rfl ?_
      exact ih _ (q9 - 1) (e9 + 1) hv2 (by omega) (by omega) (by omega)
theorem l_bod2 {G : g_G} {x9 : UInt64} {h : List va_E} {r9 : Option Value} {c9 : Nat} {Q9 : Int} {uu vv : Nat} (hQ : -51 < Q9) (kk : ∀ (v9 : UInt64) (e9 : Nat), f_nf64 v9 c9 (-52) → e9 ≤ 1200 → -52 + (e9 : Int) = Q9 → g_A G mX11_bitsOfDouble 1 uu vv 67 [(0, .double x9), (2, .double v9), (4, .int (nI e9))] [] h r9 h) :
    ∀ (jj : Nat) (v9 : UInt64) (q9 : Int) (e9 : Nat), f_nf64 v9 c9 q9 → q9 < -51 → -q9 - 52 ≤ jj → e9 ≤ 1200 → q9 + e9 = Q9 → g_A G mX11_bitsOfDouble 1 uu vv 43 [(0, .double x9), (2, .double v9), (4, .int (nI e9))] [] h r9 h := by
  intro jj
  induction jj with
  | zero =>
    intro v9 q9 e9 hv hq hj hl he
    have e8 : q9 = -52 := by omega
    subst e8
    refine a_iload 2 45 rfl dX11_bitsOfDouble_43 rfl ?_
    refine a_iconst (x := 1) 46 rfl dX11_bitsOfDouble_45 (by decide) ?_
    refine a_icmp_le 67 49 rfl dX11_bitsOfDouble_46 (by decide) (fun hc => absurd hc (nI_ge (a := 1) (by omega) (by omega))) (fun _ => ?_)
    refine a_dload_n 1 50 rfl dX11_bitsOfDouble_49 rfl rfl ?_
    refine a_dconst1 51 rfl dX11_bitsOfDouble_50 ?_
    refine a_dcmp 52 rfl dX11_bitsOfDouble_51 ?_
    refine a_if_ge 67 55 rfl dX11_bitsOfDouble_52 (by decide) (fun _ => ?_) (fun hc => absurd (f_cv_ge ((f_nf64_cmp hv f_nf64_c1).2 (by omega))) hc)
    exact kk v9 e9 hv hl he
  | succ jj ih =>
    intro v9 q9 e9 hv hq hj hl he
    by_cases y9 : q9 = -52
    · exact ih v9 q9 e9 hv hq (by omega) hl he
    · obtain ⟨e8, rfl⟩ : ∃ e8, e9 = e8 + 1 := ⟨e9 - 1, by omega⟩
      have hv2 := f_nf64_times hv f_nf64_c2 (by obtain ⟨_, _, _, _, _⟩ := hv; omega) (by omega)
      refine a_iload 2 45 rfl dX11_bitsOfDouble_43 rfl ?_
      refine a_iconst (x := 1) 46 rfl dX11_bitsOfDouble_45 (by decide) ?_
      refine a_icmp_le 67 49 rfl dX11_bitsOfDouble_46 (by decide) (fun hc => absurd hc (nI_ge (a := 1) (by omega) (by omega))) (fun _ => ?_)
      refine a_dload_n 1 50 rfl dX11_bitsOfDouble_49 rfl rfl ?_
      refine a_dconst1 51 rfl dX11_bitsOfDouble_50 ?_
      refine a_dcmp 52 rfl dX11_bitsOfDouble_51 ?_
      refine a_if_ge 67 55 rfl dX11_bitsOfDouble_52 (by decide) (fun hc => absurd hc (f_cv_nge ((f_nf64_cmp hv f_nf64_c1).1 (by omega)))) (fun _ => ?_)
      refine a_dload_n 1 56 rfl dX11_bitsOfDouble_55 rfl rfl ?_
      refine a_ldc2d q_826 59 rfl dX11_bitsOfDouble_56 ?_
      refine a_dmul 60 rfl dX11_bitsOfDouble_59 ((f_nn64 hv2)) ?_
      refine a_dstore_n (lv' := [(2, .double (FP.dmul v9 4611686018427387904)), (0, .double x9), (4, .int (nI (e8 + 1)))]) 61 rfl dX11_bitsOfDouble_60 rfl (by decide) rfl ?_
      refine a_iinc (y := nI e8) (lv' := [(4, .int (nI e8)), (2, .double (FP.dmul v9 4611686018427387904)), (0, .double x9)]) 2 64 rfl dX11_bitsOfDouble_61 rfl (nI_m1 e8) (by decide) rfl ?_
      refine a_goto 43 dX11_bitsOfDouble_64 (by decide) ?_
      refine a_sub (lv' := [(0, .double x9), (2, .double (FP.dmul v9 4611686018427387904)), (4, .int (nI e8))]) [2, 1, 0] rfl ?_
      exact ih _ (q9 + -51 + (53 - 1)) e8 hv2 (by omega) (by omega) (by omega) (by omega)
theorem f_sl52 : ∀ e, e < 1200 → (nI e).toInt64 <<< (Int32.toInt64 52 &&& 63) = lN (e * 4503599627370496) := by decide +kernel
theorem r_bod0 {G : g_G} {h : List va_E} {uu vv : Nat} : g_Run G mX11_bitsOfDouble 1 uu vv [.double 0] h (some (.long 0)) h := by
  refine g_Run.of (lv := [(0, .double 0)]) (by decide) (Nat.le_of_ble_eq_true rfl) rfl ?_
  refine a_dload_n 0 1 rfl dX11_bitsOfDouble_0 rfl rfl ?_
  refine a_dconst0 2 rfl dX11_bitsOfDouble_1 ?_
  refine a_dcmp 3 rfl dX11_bitsOfDouble_2 ?_
  refine a_if_gt 8 6 rfl dX11_bitsOfDouble_3 (by decide) (fun hc => absurd hc (f_cv_ngt (by decide))) (fun _ => ?_)
  refine a_lconst (x := 0) 7 rfl dX11_bitsOfDouble_6 (by decide) ?_
  exact a_lreturn rfl (rfl) (rfl) dX11_bitsOfDouble_7
theorem r_bod {G : g_G} {h : List va_E} {uu vv : Nat} {x9 : UInt64} {c9 : Nat} {q9 : Int} (hx : f_nf64 x9 c9 q9) (h1 : -1074 < q9) (h2 : q9 ≤ 77) : g_Run G mX11_bitsOfDouble 1 uu vv [.double x9] h (some (.long (lN x9.toNat))) h := by
  refine g_Run.of (lv := [(0, .double x9)]) (by decide) (Nat.le_of_ble_eq_true rfl) rfl ?_
  refine a_dload_n 0 1 rfl dX11_bitsOfDouble_0 rfl rfl ?_
  refine a_dconst0 2 rfl dX11_bitsOfDouble_1 ?_
  refine a_dcmp 3 rfl dX11_bitsOfDouble_2 ?_
  refine a_if_gt 8 6 rfl dX11_bitsOfDouble_3 (by decide) (fun _ => ?_) (fun hc => absurd (f_cv_gt (f_nf64_pos hx)) hc)
  refine a_dload_n 0 9 rfl dX11_bitsOfDouble_8 rfl rfl ?_
  refine a_dstore_n (lv' := [(2, .double x9), (0, .double x9)]) 10 rfl dX11_bitsOfDouble_9 rfl (by decide) rfl ?_
  refine a_sipush (x := 1023) 13 rfl dX11_bitsOfDouble_10 (by decide) ?_
  refine a_istore (lv' := [(4, .int 1023), (2, .double x9), (0, .double x9)]) 15 rfl dX11_bitsOfDouble_13 (by decide) rfl ?_
  refine a_sub (lv' := [(0, .double x9), (2, .double x9), (4, .int (nI 1023))]) [2, 1, 0] rfl ?_
  refine l_bod1 (Q9 := q9 + 1023) (by omega) (fun v1 q1 e1 k1 k2 k3 k4 => ?_) 200 x9 q9 1023 hx (by omega) (by omega) (by omega)
  refine l_bod2 (Q9 := q9 + 1023) (by omega) (fun v2 e2 k5 k6 k7 => ?_) 2200 v1 q1 e1 k1 k2 (by obtain ⟨_, _, _, _, _⟩ := k1; omega) k3 k4
  have k8 := f_nf64_times k5 f_nf64_ct (by omega) (by omega)
  have e0 : ((-52 : Int) + 0 + (53 - 1)) = 0 := by decide
  rw [e0] at k8
  have k9 : FP.d2l (FP.dmul v2 4841369599423283200) = lN c9 := f_nf64_long k8
  have k10 := f_nf64_bits hx
  have k12 := k5.2.1
  have k11 : lN (e2 * 4503599627370496 + c9) - lN 4503599627370496 = lN x9.toNat := by
    rw [lN_sub (by omega)]
    exact congrArg lN (by rw [k10]; omega)
  refine a_iload 2 69 rfl dX11_bitsOfDouble_67 rfl ?_
  refine a_i2l 70 rfl dX11_bitsOfDouble_69 ?_
  refine a_bipush (x := 52) 72 rfl dX11_bitsOfDouble_70 (by decide) ?_
  refine a_lshl 73 rfl dX11_bitsOfDouble_72 ?_
  refine a_dload_n 1 74 rfl dX11_bitsOfDouble_73 rfl rfl ?_
  refine a_ldc2d q_827 77 rfl dX11_bitsOfDouble_74 ?_
  refine a_dmul 78 rfl dX11_bitsOfDouble_77 ((f_nn64 k8)) ?_
  refine a_d2l 79 rfl dX11_bitsOfDouble_78 ?_
  refine a_ladd 80 rfl dX11_bitsOfDouble_79 ?_
  refine a_ldc2 q_828 83 rfl dX11_bitsOfDouble_80 ?_
  refine a_lsub 84 rfl dX11_bitsOfDouble_83 ?_
  exact a_lreturn rfl ((by rw [k9, f_sl52 e2 (by omega), lN_add]; exact congrArg (fun z9 => some (Value.long z9)) k11)) (rfl) dX11_bitsOfDouble_84
