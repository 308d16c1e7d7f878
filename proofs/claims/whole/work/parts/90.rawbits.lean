/-! floatToIntBits, doubleToLongBits of what is no NaN -/
theorem f_nf32_self {v : UInt32} {c : Nat} {q : Int} (h : f_nf32 v c q) : FP.fcmp v v = some .eq := by
  obtain ⟨h0, h1, h2, h3, h4⟩ := h
  show FP.Core.fcmp v v = _
  unfold FP.Core.fcmp FP.Core.cmp
  rw [h0]
  show some (compare ((c * 2 ^ (q - min q q).toNat : Nat) : Int) ((c * 2 ^ (q - min q q).toNat : Nat) : Int)) = _
  exact congrArg some (Int.compare_eq_eq.mpr rfl)
theorem f_nf64_self {v : UInt64} {c : Nat} {q : Int} (h : f_nf64 v c q) : FP.dcmp v v = some .eq := by
  obtain ⟨h0, h1, h2, h3, h4⟩ := h
  show FP.Core.dcmp v v = _
  unfold FP.Core.dcmp FP.Core.cmp
  rw [h0]
  show some (compare ((c * 2 ^ (q - min q q).toNat : Nat) : Int) ((c * 2 ^ (q - min q q).toNat : Nat) : Int)) = _
  exact congrArg some (Int.compare_eq_eq.mpr rfl)
theorem f_cv_eq {o : Option Ordering} {z : CmpOp} (h : o = some .eq) : Op.cmpValue o z = 0 := by rw [h]; cases z <;> decide
theorem r_isNaNf {G : g_G} {h : List va_E} {x9 : UInt32} (hx : FP.fcmp x9 x9 = some .eq) : g_Run G mJxf58ca_isNaN_12338 1 0 0 [.float x9] h (some (.int 0)) h := by
  refine g_Run.of (lv := [(0, .float x9)]) (by decide) (Nat.le_of_ble_eq_true rfl) rfl ?_
  refine a_fload_n 0 1 rfl dJxf58ca_isNaN_12338_0 rfl rfl ?_
  refine a_fload_n 0 2 rfl dJxf58ca_isNaN_12338_1 rfl rfl ?_
  refine a_fcmp 3 rfl dJxf58ca_isNaN_12338_2 ?_
  refine a_if_eq 10 6 rfl dJxf58ca_isNaN_12338_3 (by decide) (fun _ => ?_) (fun hc => absurd (f_cv_eq hx) hc)
  refine a_iconst (x := 0) 11 rfl dJxf58ca_isNaN_12338_10 (by decide) ?_
  exact a_ireturn .boolean rfl rfl (rfl) (rfl) dJxf58ca_isNaN_12338_11
theorem r_f2bits {G : g_G} {h : List va_E} {x9 : UInt32} (hx : FP.fcmp x9 x9 = some .eq) : g_Run G mJxf58ca_floatToIntBits_5c35a 2 0 0 [.float x9] h (some (.int x9.toInt32)) h := by
  refine g_Run.of (lv := [(0, .float x9)]) (by decide) (Nat.le_of_ble_eq_true rfl) rfl ?_
  refine a_fload_n 0 1 rfl dJxf58ca_floatToIntBits_5c35a_0 rfl rfl ?_
  refine a_callS (as := [.float x9]) (rest := []) (st2 := [.int 0]) (u1 := 0) (v1 := 0) (u2 := 0) (v2 := 0) (r_isNaNf hx) oJxf58ca_isNaN_12338 q_1504 q_1505 rfl (by omega) (by decide) rfl (Nat.le_of_ble_eq_true rfl) 4 rfl dJxf58ca_floatToIntBits_5c35a_1 rfl ?_
  refine a_if_ne 12 7 rfl dJxf58ca_floatToIntBits_5c35a_4 (by decide) (fun hc => absurd ((fun z9 => z9 rfl)) hc) (fun _ => ?_)
  refine a_fload_n 0 8 rfl dJxf58ca_floatToIntBits_5c35a_7 rfl rfl ?_
  refine a_f2raw q_1507 q_1509 q_1508 q_135 (by omega) (Nat.le_of_ble_eq_true rfl) 11 rfl dJxf58ca_floatToIntBits_5c35a_8 ?_
  exact a_ireturn .int rfl rfl (rfl) (rfl) dJxf58ca_floatToIntBits_5c35a_11
theorem r_isNaNd {G : g_G} {h : List va_E} {x9 : UInt64} (hx : FP.dcmp x9 x9 = some .eq) : g_Run G mJxe99ae_isNaN_b9ae7 1 0 0 [.double x9] h (some (.int 0)) h := by
  refine g_Run.of (lv := [(0, .double x9)]) (by decide) (Nat.le_of_ble_eq_true rfl) rfl ?_
  refine a_dload_n 0 1 rfl dJxe99ae_isNaN_b9ae7_0 rfl rfl ?_
  refine a_dload_n 0 2 rfl dJxe99ae_isNaN_b9ae7_1 rfl rfl ?_
  refine a_dcmp 3 rfl dJxe99ae_isNaN_b9ae7_2 ?_
  refine a_if_eq 10 6 rfl dJxe99ae_isNaN_b9ae7_3 (by decide) (fun _ => ?_) (fun hc => absurd (f_cv_eq hx) hc)
  refine a_iconst (x := 0) 11 rfl dJxe99ae_isNaN_b9ae7_10 (by decide) ?_
  exact a_ireturn .boolean rfl rfl (rfl) (rfl) dJxe99ae_isNaN_b9ae7_11
theorem r_d2bits {G : g_G} {h : List va_E} {x9 : UInt64} (hx : FP.dcmp x9 x9 = some .eq) : g_Run G mJxe99ae_doubleToLongBits_ccdee 2 0 0 [.double x9] h (some (.long x9.toInt64)) h := by
  refine g_Run.of (lv := [(0, .double x9)]) (by decide) (Nat.le_of_ble_eq_true rfl) rfl ?_
  refine a_dload_n 0 1 rfl dJxe99ae_doubleToLongBits_ccdee_0 rfl rfl ?_
  refine a_callS (as := [.double x9]) (rest := []) (st2 := [.int 0]) (u1 := 0) (v1 := 0) (u2 := 0) (v2 := 0) (r_isNaNd hx) oJxe99ae_isNaN_b9ae7 q_1519 q_1520 rfl (by omega) (by decide) rfl (Nat.le_of_ble_eq_true rfl) 4 rfl dJxe99ae_doubleToLongBits_ccdee_1 rfl ?_
  refine a_if_ne 12 7 rfl dJxe99ae_doubleToLongBits_ccdee_4 (by decide) (fun hc => absurd ((fun z9 => z9 rfl)) hc) (fun _ => ?_)
  refine a_dload_n 0 8 rfl dJxe99ae_doubleToLongBits_ccdee_7 rfl rfl ?_
  refine a_d2raw q_1522 q_1524 q_1523 q_136 (by omega) (Nat.le_of_ble_eq_true rfl) 11 rfl dJxe99ae_doubleToLongBits_ccdee_8 ?_
  exact a_lreturn rfl (rfl) (rfl) dJxe99ae_doubleToLongBits_ccdee_11
theorem f_bits32 {x9 : UInt32} {c9 : Nat} {q9 : Int} (hx : f_nf32 x9 c9 q9) : x9.toInt32.toInt64 = lN x9.toNat := by
  have e1 := f_nf32_bits hx
  obtain ⟨_, h2, h3, h4, h5⟩ := hx
  have e2 : x9.toNat < 2139095040 := by rw [e1]; omega
  have e3 : x9.toInt32 = nI x9.toNat := by
    apply Int32.toBitVec_inj.mp
    show x9.toBitVec = BitVec.ofNat 32 x9.toNat
    exact (BitVec.ofNat_toNat x9.toBitVec).symm
  rw [e3, nI_l (by omega)]
theorem f_bits64 {x9 : UInt64} : x9.toInt64 = lN x9.toNat := by
  apply Int64.toBitVec_inj.mp
  show x9.toBitVec = BitVec.ofNat 64 x9.toNat
  exact (BitVec.ofNat_toNat x9.toBitVec).symm
