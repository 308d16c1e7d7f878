/-! floatToIntBits, doubleToLongBits of what is no NaN -/
theorem f_nf32_self {v : UInt32} {c : Nat} {q : Int} (h : f_nf32 v c q) : FP.fcmp v v = some .eq := by
  obtain ⟨h0, h1, h2, h3, h4⟩ := h
  show FP.Core.fcmp v v = _
  unfold FP.Core.fcmp FP.Core.cmp
  rw [h0]
  show some (compare ((c * 2 ^ (q - min q q).toNat : Nat) : Int) ((c * 2 ^ (q - min q q).toNat : Nat) : Int)) = _
  exact congrArg some (Int.compare_eq_eq.mpr rfl)
theorem f_nf64_self {v : UInt64} {c : Nat} {q : Int} (h : f_nf64 v c q) : FP.dcmp v v = some .eq := by
  obtain ⟨h0, h1, h2, h3, h4⟩ := h
  show FP.Core.dcmp v v = _
  unfold FP.Core.dcmp FP.Core.cmp
  rw [h0]
  show some (compare ((c * 2 ^ (q - min q q).toNat : Nat) : Int) ((c * 2 ^ (q - min q q).toNat : Nat) : Int)) = _
  exact congrArg some (Int.compare_eq_eq.mpr rfl)
theorem f_Met {l : Launch} {y : MethodName} {ws ws9 : List Cond} {rm : Room} {Pc : Array Value → State → Prop} {Qc : Array Value → State → Outcome → State → Prop} {mc ms : Nat} {free : Addr → Prop} {cc : ByteArray} {maxL : Nat} {ret : Option FieldType}
    (hy : plainFor y = true) (hw : ws = Cond.code y cc maxL ret :: ws9)
    (body : ∀ p e s m args below meth c s1, BodyLoose p l y (headSpec ws rm) cc maxL ret e s m args below meth c s1 → c.maxLocals = maxL → Pc args s →
      W p l e (headSpec ws rm).room s m args below meth c s.heap [] 0 0 (MQ below Qc args s mc ms free) (entryFrame m args maxL)) : Met l y ws rm Pc Qc mc ms free := by
  refine MetFree.of_bodySF (code := cc) (maxLocals := maxL) (ret := ret) hy ?_ ?_
  · intro args s m h hn
    obtain ⟨meth, c, h1, h2, h3, h4, h5, h6, -, -⟩ := Cond.code_spec hn (atoms_spec (ws := ws) h _ (by rw [hw]; exact List.mem_cons_self))
    exact ⟨meth, c, h1, h2, h3, h4, h5, h6⟩
  · intro p e s m args below meth c s1 B hml hP _
    have hh0 : s1.heap = s.heap := by rw [B.state]; rfl
    obtain ⟨t, a1, o, b1, b2, b3⟩ := body p e s m args below meth c s1 B hml hP s1 hh0 (Stand.of_body B)
    exact ⟨t, o, a1, b1, b2, ⟨b3.1, b3.2⟩⟩
theorem f_Run_of {G : g_G} {M : g_M} {d u v : Nat} {as : List Value} {h : List va_E} {r : Option Value} {h' : List va_E} {lv : List (Nat × Value)} (hpl : plainFor M.1 = true) (hlen : (lg_sl as).length ≤ M.2.2.1) (hlv : lv_args 0 as = lv) (hA : g_A G M d u v 0 lv [] h r h') (hB : G.2.1 ≤ G.2.1 + h.length := by omega) : g_Run G M d u v as h r h' := by
  subst hlv
  intro K N hu hv
  refine f_Met (cc := M.2.1) (maxL := M.2.2.1) (ret := M.2.2.2) hpl rfl ?_
  intro p e s m args below meth c s1 B hml hw
  obtain ⟨rfl, hP, hz, hT, hO⟩ := hw
  have hts := atoms_spec (ws := .code M.1 M.2.1 M.2.2.1 M.2.2.2 :: g_GW) B.pre
  rw [lg_entry_eq]
  exact hA p e s m as.toArray below meth c s.heap [] _ 0 0 K N ⟨⟨B.exec, B.bytes, B.returns, hml, findClass_of_methodNamed B.named, fun w hw => hts w (List.mem_cons_of_mem _ hw), B.notSynchronized, (name_of_methodNamed B.named B.method).1⟩, ⟨hT, hO⟩, va_S.rf, hP, hz, lv_entry as hlen, by omega, by omega⟩
theorem f_cv_eq {o : Option Ordering} {z : CmpOp} (h : o = some .eq) : Op.cmpValue o z = 0 := by rw [h]; cases z <;> decide
theorem r_isNaNf {G : g_G} {h : List va_E} {x9 : UInt32} (hx : FP.fcmp x9 x9 = some .eq) : g_Run G mJxf58ca_isNaN_12338 1 0 0 [.float x9] h (some (.int 0)) h := by
  refine f_Run_of (lv := [(0, .float x9)]) (by decide +kernel) (Nat.le_of_ble_eq_true rfl) rfl ?_
  refine a_fload_n 0 1 rfl dJxf58ca_isNaN_12338_0 rfl rfl ?_
  refine a_fload_n 0 2 rfl dJxf58ca_isNaN_12338_1 rfl rfl ?_
  refine a_fcmp 3 rfl dJxf58ca_isNaN_12338_2 ?_
  refine a_if_eq 10 6 rfl dJxf58ca_isNaN_12338_3 (by decide) (fun _ => ?_) (fun hc => absurd (f_cv_eq hx) hc)
  refine a_iconst (x := 0) 11 rfl dJxf58ca_isNaN_12338_10 (by decide) ?_
  exact a_ireturn .boolean rfl rfl (rfl) (rfl) dJxf58ca_isNaN_12338_11
theorem r_f2bits {G : g_G} {h : List va_E} {x9 : UInt32} (hx : FP.fcmp x9 x9 = some .eq) : g_Run G mJxf58ca_floatToIntBits_5c35a 2 0 0 [.float x9] h (some (.int x9.toInt32)) h := by
  refine f_Run_of (lv := [(0, .float x9)]) (by decide +kernel) (Nat.le_of_ble_eq_true rfl) rfl ?_
  refine a_fload_n 0 1 rfl dJxf58ca_floatToIntBits_5c35a_0 rfl rfl ?_
  refine a_callS (as := [.float x9]) (rest := []) (st2 := [.int 0]) (u1 := 0) (v1 := 0) (u2 := 0) (v2 := 0) (r_isNaNf hx) oJxf58ca_isNaN_12338 q_1504 q_1505 rfl (by omega) (by decide) rfl (Nat.le_of_ble_eq_true rfl) 4 rfl dJxf58ca_floatToIntBits_5c35a_1 rfl ?_
  refine a_if_ne 12 7 rfl dJxf58ca_floatToIntBits_5c35a_4 (by decide) (fun hc => absurd ((rfl : (0 : Int32) = 0)) hc) (fun _ => ?_)
  refine a_fload_n 0 8 rfl dJxf58ca_floatToIntBits_5c35a_7 rfl rfl ?_
  refine a_f2raw q_1507 q_1509 q_1508 q_135 (by omega) (Nat.le_of_ble_eq_true rfl) 11 rfl dJxf58ca_floatToIntBits_5c35a_8 ?_
  exact a_ireturn .int rfl rfl (rfl) (rfl) dJxf58ca_floatToIntBits_5c35a_11
theorem r_isNaNd {G : g_G} {h : List va_E} {x9 : UInt64} (hx : FP.dcmp x9 x9 = some .eq) : g_Run G mJxe99ae_isNaN_b9ae7 1 0 0 [.double x9] h (some (.int 0)) h := by
  refine g_Run.of (lv := [(0, .double x9)]) (by decide) (Nat.le_of_ble_eq_true rfl) rfl ?_
  refine a_dload_n 0 1 rfl dJxe99ae_isNaN_b9ae7_0 rfl rfl ?_
  refine a_dload_n 0 2 rfl dJxe99ae_isNaN_b9ae7_1 rfl rfl ?_
  refine a_dcmp 3 rfl dJxe99ae_isNaN_b9ae7_2 ?_
  refine a_if_eq 10 6 rfl dJxe99ae_isNaN_b9ae7_3 (by decide) (fun _ => ?_) (fun hc => absurd (f_cv_eq hx) hc)
  refine a_iconst (x := 0) 11 rfl dJxe99ae_isNaN_b9ae7_10 (by decide) ?_
  exact a_ireturn .boolean rfl rfl (rfl) (rfl) dJxe99ae_isNaN_b9ae7_11
theorem r_d2bits {G : g_G} {h : List va_E} {x9 : UInt64} (hx : FP.dcmp x9 x9 = some .eq) : g_Run G mJxe99ae_doubleToLongBits_ccdee 2 0 0 [.double x9] h (some (.long x9.toInt64)) h := by
  refine g_Run.of (lv := [(0, .double x9)]) (by decide) (Nat.le_of_ble_eq_true rfl) rfl ?_
  refine a_dload_n 0 1 rfl dJxe99ae_doubleToLongBits_ccdee_0 rfl rfl ?_
  refine a_callS (as := [.double x9]) (rest := []) (st2 := [.int 0]) (u1 := 0) (v1 := 0) (u2 := 0) (v2 := 0) (r_isNaNd hx) oJxe99ae_isNaN_b9ae7 q_1519 q_1520 rfl (by omega) (by decide) rfl (Nat.le_of_ble_eq_true rfl) 4 rfl dJxe99ae_doubleToLongBits_ccdee_1 rfl ?_
  refine a_if_ne 12 7 rfl dJxe99ae_doubleToLongBits_ccdee_4 (by decide) (fun hc => absurd ((rfl : (0 : Int32) = 0)) hc) (fun _ => ?_)
  refine a_dload_n 0 8 rfl dJxe99ae_doubleToLongBits_ccdee_7 rfl rfl ?_
  refine a_d2raw q_1522 q_1524 q_1523 q_136 (by omega) (Nat.le_of_ble_eq_true rfl) 11 rfl dJxe99ae_doubleToLongBits_ccdee_8 ?_
  exact a_lreturn rfl (rfl) (rfl) dJxe99ae_doubleToLongBits_ccdee_11
theorem f_bits32 {x9 : UInt32} {c9 : Nat} {q9 : Int} (hx : f_nf32 x9 c9 q9) : x9.toInt32.toInt64 = lN x9.toNat := by
  have e1 := f_nf32_bits hx
  obtain ⟨_, h2, h3, h4, h5⟩ := hx
  have e2 : x9.toNat < 2139095040 := by rw [e1]; omega
  have e3 : x9.toInt32 = nI x9.toNat := by
    apply Int32.toBitVec_inj.mp
    apply BitVec.eq_of_toNat_eq
    unfold nI
    rw [Int32.toBitVec_ofNat', BitVec.toNat_ofNat, Nat.mod_eq_of_lt (by omega)]
    rfl
  rw [e3, nI_l (by omega)]
theorem f_bits64 {x9 : UInt64} : x9.toInt64 = lN x9.toNat := by
  apply Int64.toBitVec_inj.mp
  apply BitVec.eq_of_toNat_eq
  unfold lN
  rw [Int64.toBitVec_ofNat', BitVec.toNat_ofNat, Nat.mod_eq_of_lt x9.toNat_lt]
  rfl
