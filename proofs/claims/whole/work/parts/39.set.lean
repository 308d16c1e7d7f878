/-! The class's calls: set, judge, lots -/
section SE1
variable {G : g_G} {C : f_C} {tl : List va_E} {x z9 : Int64} {y y2 y3 y4 : Int32} {j o : Nat} {T : f_T}
theorem r_X11_set_bad (hm : C.1 3 ≤ 8) (hi : ¬ vp_in y (C.1 3)) : g_Run G mX11_set 3 1 3 [.ref (g_ad G 0), .int y, .int y2, .int y3] (g_hp G C tl) (some (.int (-1))) (g_hp G C tl) := by
  refine g_Run.of (lv := [(0, .ref (g_ad G 0)), (1, .int y), (2, .int y2), (3, .int y3)]) (by decide) (Nat.le_of_ble_eq_true rfl) rfl ?_
  refine a_aload_n 0 1 rfl dX11_set_0 rfl rfl ?_
  refine a_get 2 cl_10 f_RX11_28_10 (by decide) (rfl) rfl 4 rfl dX11_set_1 ?_
  refine a_iload_n 1 5 rfl dX11_set_4 rfl rfl ?_
  refine a_callVN (as := [.int y]) (rest := []) (st2 := [.null]) (u1 := 0) (v1 := 0) (u2 := 1) (v2 := 3) (r_at_out hm hi) (⟨_, _, _, _, rfl, rfl⟩) oX4_at q_446 q_448 q_9 rfl (by omega) (by decide) rfl (Nat.le_of_ble_eq_true rfl) 8 rfl dX11_set_5 rfl ?_
  refine a_astoreN (lv' := [(4, .null), (0, .ref (g_ad G 0)), (1, .int y), (2, .int y2), (3, .int y3)]) 10 rfl dX11_set_8 (by decide) rfl ?_
  refine a_aloadN 0 12 rfl dX11_set_10 rfl ?_
  refine a_ifnullN 43 dX11_set_12 (by decide) ?_
  refine a_iconst (x := (-1)) 44 rfl dX11_set_43 (by decide) ?_
  exact a_ireturn .int rfl rfl (rfl) (rfl) dX11_set_44
theorem r_X11_set_out (hf : f_is G C tl j o T) (hy : y2 < 0 ∨ 1 < y2 ∨ y3 < 0 ∨ ¬ y3 < (if y2 = 0 then 6 else 10)) : g_Run G mX11_set 3 1 3 [.ref (g_ad G 0), .int (nI j), .int y2, .int y3] (g_hp G C tl) (some (.int (-1))) (g_hp G C tl) := by
  refine g_Run.of (lv := [(0, .ref (g_ad G 0)), (1, .int (nI j)), (2, .int y2), (3, .int y3)]) (by decide) (Nat.le_of_ble_eq_true rfl) rfl ?_
  refine a_aload_n 0 1 rfl dX11_set_0 rfl rfl ?_
  refine a_get 2 cl_10 f_RX11_28_10 (by decide) (rfl) rfl 4 rfl dX11_set_1 ?_
  refine a_iload_n 1 5 rfl dX11_set_4 rfl rfl ?_
  refine a_callVN (as := [.int (nI j)]) (rest := []) (st2 := [.ref (g_ad G (38 + o))]) (u1 := 0) (v1 := 0) (u2 := 1) (v2 := 3) (r_at_in hf) (⟨_, _, _, _, rfl, rfl⟩) oX4_at q_446 q_448 q_9 rfl (by omega) (by decide) rfl (Nat.le_of_ble_eq_true rfl) 8 rfl dX11_set_5 rfl ?_
  refine a_astore (lv' := [(4, .ref (g_ad G (38 + o))), (0, .ref (g_ad G 0)), (1, .int (nI j)), (2, .int y2), (3, .int y3)]) 10 rfl dX11_set_8 (by decide) rfl ?_
  refine a_aload 0 12 rfl dX11_set_10 rfl ?_
  refine a_ifnull 15 rfl dX11_set_12 ?_
  refine a_iload_n 3 16 rfl dX11_set_15 rfl rfl ?_
  refine a_if_lt 43 19 rfl dX11_set_16 (by decide) (fun c16 => ?_) (fun c16 => ?_)
  refine a_iconst (x := (-1)) 44 rfl dX11_set_43 (by decide) ?_
  exact a_ireturn .int rfl rfl (rfl) (rfl) dX11_set_44
  refine a_iload_n 3 20 rfl dX11_set_19 rfl rfl ?_
  refine a_iconst (x := 1) 21 rfl dX11_set_20 (by decide) ?_
  refine a_icmp_gt 43 24 rfl dX11_set_21 (by decide) (fun c21 => ?_) (fun c21 => ?_)
  refine a_iconst (x := (-1)) 44 rfl dX11_set_43 (by decide) ?_
  exact a_ireturn .int rfl rfl (rfl) (rfl) dX11_set_44
  refine a_iload_n 4 25 rfl dX11_set_24 rfl rfl ?_
  refine a_if_lt 43 28 rfl dX11_set_25 (by decide) (fun c25 => ?_) (fun c25 => ?_)
  refine a_iconst (x := (-1)) 44 rfl dX11_set_43 (by decide) ?_
  exact a_ireturn .int rfl rfl (rfl) (rfl) dX11_set_44
  refine a_iload_n 4 29 rfl dX11_set_28 rfl rfl ?_
  refine a_iload_n 3 30 rfl dX11_set_29 rfl rfl ?_
  refine a_if_ne 38 33 rfl dX11_set_30 (by decide) (fun c30 => ?_) (fun c30 => ?_)
  refine a_bipush (x := 10) 40 rfl dX11_set_38 (by decide) ?_
  refine a_icmp_lt 45 43 rfl dX11_set_40 (by decide) (fun hc => absurd hc ((by have e9 := ((hy.resolve_left c16).resolve_left c21).resolve_left c25; rw [if_neg c30] at e9; exact e9))) (fun _ => ?_)
  refine a_iconst (x := (-1)) 44 rfl dX11_set_43 (by decide) ?_
  exact a_ireturn .int rfl rfl (rfl) (rfl) dX11_set_44
  refine a_bipush (x := 6) 35 rfl dX11_set_33 (by decide) ?_
  refine a_goto 40 dX11_set_35 (by decide) ?_
  refine a_icmp_lt 45 43 rfl dX11_set_40 (by decide) (fun hc => absurd hc ((by have e9 := ((hy.resolve_left c16).resolve_left c21).resolve_left c25; rw [if_pos c30] at e9; exact e9))) (fun _ => ?_)
  refine a_iconst (x := (-1)) 44 rfl dX11_set_43 (by decide) ?_
  exact a_ireturn .int rfl rfl (rfl) (rfl) dX11_set_44
theorem r_X11_set0_same (hf : f_is G C tl j o T) : g_Run G mX11_set 3 1 3 [.ref (g_ad G 0), .int (nI j), .int 0, .int (nI T.1)] (g_hp G C tl) (some (.int (nI T.1))) (g_hp G C tl) := by
  have hE := hf.2.2.2.2.1
  refine g_Run.of (lv := [(0, .ref (g_ad G 0)), (1, .int (nI j)), (2, .int 0), (3, .int (nI T.1))]) (by decide) (Nat.le_of_ble_eq_true rfl) rfl ?_
  refine a_aload_n 0 1 rfl dX11_set_0 rfl rfl ?_
  refine a_get 2 cl_10 f_RX11_28_10 (by decide) (rfl) rfl 4 rfl dX11_set_1 ?_
  refine a_iload_n 1 5 rfl dX11_set_4 rfl rfl ?_
  refine a_callVN (as := [.int (nI j)]) (rest := []) (st2 := [.ref (g_ad G (38 + o))]) (u1 := 0) (v1 := 0) (u2 := 1) (v2 := 3) (r_at_in hf) (⟨_, _, _, _, rfl, rfl⟩) oX4_at q_446 q_448 q_9 rfl (by omega) (by decide) rfl (Nat.le_of_ble_eq_true rfl) 8 rfl dX11_set_5 rfl ?_
  refine a_astore (lv' := [(4, .ref (g_ad G (38 + o))), (0, .ref (g_ad G 0)), (1, .int (nI j)), (2, .int 0), (3, .int (nI T.1))]) 10 rfl dX11_set_8 (by decide) rfl ?_
  refine a_aload 0 12 rfl dX11_set_10 rfl ?_
  refine a_ifnull 15 rfl dX11_set_12 ?_
  refine a_iload_n 3 16 rfl dX11_set_15 rfl rfl ?_
  refine a_if_lt 43 19 rfl dX11_set_16 (by decide) (fun hc => absurd hc ((by decide))) (fun _ => ?_)
  refine a_iload_n 3 20 rfl dX11_set_19 rfl rfl ?_
  refine a_iconst (x := 1) 21 rfl dX11_set_20 (by decide) ?_
  refine a_icmp_gt 43 24 rfl dX11_set_21 (by decide) (fun hc => absurd hc ((by decide))) (fun _ => ?_)
  refine a_iload_n 4 25 rfl dX11_set_24 rfl rfl ?_
  refine a_if_lt 43 28 rfl dX11_set_25 (by decide) (fun hc => absurd hc (nI_pos (by omega))) (fun _ => ?_)
  refine a_iload_n 4 29 rfl dX11_set_28 rfl rfl ?_
  refine a_iload_n 3 30 rfl dX11_set_29 rfl rfl ?_
  refine a_if_ne 38 33 rfl dX11_set_30 (by decide) (fun hc => absurd (rfl) hc) (fun _ => ?_)
  refine a_bipush (x := 6) 35 rfl dX11_set_33 (by decide) ?_
  refine a_goto 40 dX11_set_35 (by decide) ?_
  refine a_icmp_lt 45 43 rfl dX11_set_40 (by decide) (fun _ => ?_) (fun hc => absurd ((nI_lt (b := 6) hE (by omega))) hc)
  refine a_iload_n 3 46 rfl dX11_set_45 rfl rfl ?_
  refine a_if_ne 57 49 rfl dX11_set_46 (by decide) (fun hc => absurd (rfl) hc) (fun _ => ?_)
  refine a_aload 0 51 rfl dX11_set_49 rfl ?_
  refine a_get 0 cl_5 f_RX11_114_5 (by decide) (f_T_at hf.2.2.2.1) rfl 54 rfl dX11_set_51 ?_
  refine a_goto 62 dX11_set_54 (by decide) ?_
  refine a_istore (lv' := [(5, .int (nI T.1)), (4, .ref (g_ad G (38 + o))), (0, .ref (g_ad G 0)), (1, .int (nI j)), (2, .int 0), (3, .int (nI T.1))]) 64 rfl dX11_set_62 (by decide) rfl ?_
  refine a_iload 0 66 rfl dX11_set_64 rfl ?_
  refine a_iload_n 5 67 rfl dX11_set_66 rfl rfl ?_
  refine a_icmp_eq 137 70 rfl dX11_set_67 (by decide) (fun _ => ?_) (fun hc => absurd (rfl) hc)
  refine a_iload 0 139 rfl dX11_set_137 rfl ?_
  exact a_ireturn .int rfl rfl (rfl) (rfl) dX11_set_139
theorem r_set0_go {v9 : Nat} {Cx : f_C} (hf : f_is G C tl j o T) (hv : v9 < 6) (hne : ¬ T.1 = v9) (w : g_Run G mX2_note 2 0 0 [.ref (g_ad G 7), .int (nI j), .ref (g_ad G (38 + o)), .ref (g_ad G (38 + tl.length))] (g_hp G (f_uR C 0 (va_up (C.2.2.2.2.2 0) j (some (g_ad G (38 + tl.length))))) (tl ++ [c_Fa (v9, T.2.1, T.2.2)])) none (g_hp G Cx (tl ++ [c_Fa (v9, T.2.1, T.2.2)]))) : g_Run G mX11_set 3 1 3 [.ref (g_ad G 0), .int (nI j), .int 0, .int (nI v9)] (g_hp G C tl) (some (.int (nI T.1))) (g_hp G Cx (tl ++ [c_Fa (v9, T.2.1, T.2.2)])) := by
  have hE := hf.2.2.2.2.1
  refine g_Run.of (lv := [(0, .ref (g_ad G 0)), (1, .int (nI j)), (2, .int 0), (3, .int (nI v9))]) (by decide) (Nat.le_of_ble_eq_true rfl) rfl ?_
  refine a_aload_n 0 1 rfl dX11_set_0 rfl rfl ?_
  refine a_get 2 cl_10 f_RX11_28_10 (by decide) (rfl) rfl 4 rfl dX11_set_1 ?_
  refine a_iload_n 1 5 rfl dX11_set_4 rfl rfl ?_
  refine a_callVN (as := [.int (nI j)]) (rest := []) (st2 := [.ref (g_ad G (38 + o))]) (u1 := 0) (v1 := 0) (u2 := 1) (v2 := 3) (r_at_in hf) (⟨_, _, _, _, rfl, rfl⟩) oX4_at q_446 q_448 q_9 rfl (by omega) (by decide) rfl (Nat.le_of_ble_eq_true rfl) 8 rfl dX11_set_5 rfl ?_
  refine a_astore (lv' := [(4, .ref (g_ad G (38 + o))), (0, .ref (g_ad G 0)), (1, .int (nI j)), (2, .int 0), (3, .int (nI v9))]) 10 rfl dX11_set_8 (by decide) rfl ?_
  refine a_aload 0 12 rfl dX11_set_10 rfl ?_
  refine a_ifnull 15 rfl dX11_set_12 ?_
  refine a_iload_n 3 16 rfl dX11_set_15 rfl rfl ?_
  refine a_if_lt 43 19 rfl dX11_set_16 (by decide) (fun hc => absurd hc ((by decide))) (fun _ => ?_)
  refine a_iload_n 3 20 rfl dX11_set_19 rfl rfl ?_
  refine a_iconst (x := 1) 21 rfl dX11_set_20 (by decide) ?_
  refine a_icmp_gt 43 24 rfl dX11_set_21 (by decide) (fun hc => absurd hc ((by decide))) (fun _ => ?_)
  refine a_iload_n 4 25 rfl dX11_set_24 rfl rfl ?_
  refine a_if_lt 43 28 rfl dX11_set_25 (by decide) (fun hc => absurd hc (nI_pos (by omega))) (fun _ => ?_)
  refine a_iload_n 4 29 rfl dX11_set_28 rfl rfl ?_
  refine a_iload_n 3 30 rfl dX11_set_29 rfl rfl ?_
  refine a_if_ne 38 33 rfl dX11_set_30 (by decide) (fun hc => absurd (rfl) hc) (fun _ => ?_)
  refine a_bipush (x := 6) 35 rfl dX11_set_33 (by decide) ?_
  refine a_goto 40 dX11_set_35 (by decide) ?_
  refine a_icmp_lt 45 43 rfl dX11_set_40 (by decide) (fun _ => ?_) (fun hc => absurd ((nI_lt (b := 6) hv (by omega))) hc)
  refine a_iload_n 3 46 rfl dX11_set_45 rfl rfl ?_
  refine a_if_ne 57 49 rfl dX11_set_46 (by decide) (fun hc => absurd (rfl) hc) (fun _ => ?_)
  refine a_aload 0 51 rfl dX11_set_49 rfl ?_
  refine a_get 0 cl_5 f_RX11_114_5 (by decide) (f_T_at hf.2.2.2.1) rfl 54 rfl dX11_set_51 ?_
  refine a_goto 62 dX11_set_54 (by decide) ?_
  refine a_istore (lv' := [(5, .int (nI T.1)), (4, .ref (g_ad G (38 + o))), (0, .ref (g_ad G 0)), (1, .int (nI j)), (2, .int 0), (3, .int (nI v9))]) 64 rfl dX11_set_62 (by decide) rfl ?_
  refine a_iload 0 66 rfl dX11_set_64 rfl ?_
  refine a_iload_n 5 67 rfl dX11_set_66 rfl rfl ?_
  refine a_icmp_eq 137 70 rfl dX11_set_67 (by decide) (fun hc => absurd hc ((fun z => hne (nI_inj9 (by omega) (by omega) z)))) (fun _ => ?_)
  refine a_iload_n 4 71 rfl dX11_set_70 rfl rfl ?_
  refine a_if_ne 95 74 rfl dX11_set_71 (by decide) (fun hc => absurd (rfl) hc) (fun _ => ?_)
  refine a_new (fs := [.int 0, .int 0, .long 0]) cl_5 q_402 q_403 q_131 (by intro j hj; rcases j with _ | _ | _ |  j <;> first | rfl | omega) 77 rfl dX11_set_74 ?_
  refine a_eq (st2 := [.ref (g_ad G (38 + tl.length))]) rfl rfl (by rw [g_hp_len]) rfl ?_
  refine a_eq (h2 := g_hp G C (tl ++ [c_O 5 [.int 0, .int 0, .long 0]])) rfl rfl rfl (g_hp_push) ?_
  have ht : (tl ++ [c_O 5 [.int 0, .int 0, .long 0]])[o]? = some (c_Fa T) := by rw [List.getElem?_append_left (List.getElem?_eq_some_iff.mp hf.2.2.2.1).1]; exact hf.2.2.2.1
  refine a_dup 78 rfl dX11_set_77 rfl ?_
  refine a_iload_n 5 79 rfl dX11_set_78 rfl rfl ?_
  refine a_aload 1 81 rfl dX11_set_79 rfl ?_
  refine a_get 1 cl_5 f_RX11_120_5 (by decide) (f_T_at ht) rfl 84 rfl dX11_set_81 ?_
  refine a_aload 1 86 rfl dX11_set_84 rfl ?_
  refine a_get 2 cl_5 f_RX11_123_5 (by decide) (f_T_at ht) rfl 89 rfl dX11_set_86 ?_
  refine a_callIN (as := [.int (nI v9), .int (nI T.2.1), .long T.2.2]) (rest := [.ref (g_ad G (38 + tl.length))]) (u1 := 0) (v1 := 0) (u2 := 0) (v2 := 0) (r_X5_init g_hp_last) rfl oX5_init q_404 q_405 rfl rfl (by omega) (by decide) rfl (Nat.le_of_ble_eq_true rfl) 92 rfl dX11_set_89 ?_
  refine a_eq (h2 := g_hp G C (tl ++ [c_Fa (v9, T.2.1, T.2.2)])) rfl rfl rfl (g_hp_setLast) ?_
  refine a_goto 113 dX11_set_92 (by decide) ?_
  refine a_astore (lv' := [(6, .ref (g_ad G (38 + tl.length))), (5, .int (nI T.1)), (4, .ref (g_ad G (38 + o))), (0, .ref (g_ad G 0)), (1, .int (nI j)), (2, .int 0), (3, .int (nI v9))]) 115 rfl dX11_set_113 (by decide) rfl ?_
  refine a_aload_n 3 116 rfl dX11_set_115 rfl rfl ?_
  refine a_get 2 cl_10 f_RX11_28_10 (by decide) (rfl) rfl 119 rfl dX11_set_116 ?_
  refine a_iload_n 4 120 rfl dX11_set_119 rfl rfl ?_
  refine a_aload 0 122 rfl dX11_set_120 rfl ?_
  refine a_callVN (as := [.int (nI j), .ref (g_ad G (38 + tl.length))]) (rest := []) (st2 := []) (u1 := 0) (v1 := 0) (u2 := 0) (v2 := 0) (r_X4_replace rfl rfl g_hp_last hf.2.1 hf.1) (⟨_, _, _, _, rfl, rfl⟩) oX4_replace q_450 q_452 q_10 rfl (by omega) (by decide) rfl (Nat.le_of_ble_eq_true rfl) 125 rfl dX11_set_122 rfl ?_
  refine a_eq (h2 := g_hp G (f_uR C 0 (va_up (C.2.2.2.2.2 0) j (some (g_ad G (38 + tl.length))))) (tl ++ [c_Fa (v9, T.2.1, T.2.2)])) rfl rfl rfl (rfl) ?_
  refine a_aload_n 3 126 rfl dX11_set_125 rfl rfl ?_
  refine a_get 3 cl_10 f_RX11_35_10 (by decide) (rfl) rfl 129 rfl dX11_set_126 ?_
  refine a_iload_n 4 130 rfl dX11_set_129 rfl rfl ?_
  refine a_aload 2 132 rfl dX11_set_130 rfl ?_
  refine a_aload 0 134 rfl dX11_set_132 rfl ?_
  refine a_callVN (as := [.int (nI j), .ref (g_ad G (38 + o)), .ref (g_ad G (38 + tl.length))]) (rest := []) (st2 := []) (u1 := 0) (v1 := 0) (u2 := 0) (v2 := 0) (w) (⟨_, _, _, _, rfl, rfl⟩) oX2_note q_454 q_456 q_11 rfl (by omega) (by decide) rfl (Nat.le_of_ble_eq_true rfl) 137 rfl dX11_set_134 rfl ?_
  refine a_iload 1 139 rfl dX11_set_137 rfl ?_
  exact a_ireturn .int rfl rfl (rfl) (rfl) dX11_set_139
theorem r_X11_set0 {v9 : Nat} (hf : f_is G C tl j o T) (hv : v9 < 6) (hne : ¬ T.1 = v9) (hw : f_wx G C tl) (hd : C.1 4 < 12) : g_Run G mX11_set 3 1 3 [.ref (g_ad G 0), .int (nI j), .int 0, .int (nI v9)] (g_hp G C tl) (some (.int (nI T.1))) (g_hp G (f_xC (f_uR C 0 (va_up (C.2.2.2.2.2 0) j (some (g_ad G (38 + tl.length))))) (C.1 4 + 1) (C.1 4 + 1) (upd (C.2.2.2.1 2) (C.1 4) (nI j)) (va_up (C.2.2.2.2.2 1) (C.1 4) (some (g_ad G (38 + o)))) (va_up (C.2.2.2.2.2 2) (C.1 4) (some (g_ad G (38 + tl.length))))) (tl ++ [c_Fa (v9, T.2.1, T.2.2)])) := by
  have hX : g_chg G (g_hp G (f_uR C 0 (va_up (C.2.2.2.2.2 0) j (some (g_ad G (38 + tl.length))))) (tl ++ [c_Fa (v9, T.2.1, T.2.2)])) 7 8 9 10 (C.1 4) (C.1 5) (C.2.2.2.1 2) (C.2.2.2.2.2 1) (C.2.2.2.2.2 2) := r_chg (C := f_uR C 0 (va_up (C.2.2.2.2.2 0) j (some (g_ad G (38 + tl.length))))) (tl := tl ++ [c_Fa (v9, T.2.1, T.2.2)]) (fun j hj => ⟨(hw j hj).1.push, (hw j hj).2.push⟩)
  have ht : (tl ++ [c_Fa (v9, T.2.1, T.2.2)])[o]? = some (c_Fa T) := by rw [List.getElem?_append_left (List.getElem?_eq_some_iff.mp hf.2.2.2.1).1]; exact hf.2.2.2.1
  obtain ⟨h1, w, hk, hc⟩ := r_X2_note (y := nI j) hX hd (f_T_at ht) g_hp_last
  rw [f_xC_eq hk hc] at w
  exact r_set0_go hf hv hne w
theorem r_X11_set0_full {v9 : Nat} (hf : f_is G C tl j o T) (hv : v9 < 6) (hne : ¬ T.1 = v9) (hw : f_wx G C tl) (hd : C.1 4 = 12) : ∃ (fI2 : Nat → Int32) (fB2 fA2 : Nat → Option Nat), (∀ j, j < 11 → fI2 j = C.2.2.2.1 2 (j + 1) ∧ fB2 j = C.2.2.2.2.2 1 (j + 1) ∧ fA2 j = C.2.2.2.2.2 2 (j + 1)) ∧ g_Run G mX11_set 3 1 3 [.ref (g_ad G 0), .int (nI j), .int 0, .int (nI v9)] (g_hp G C tl) (some (.int (nI T.1))) (g_hp G (f_xC (f_uR C 0 (va_up (C.2.2.2.2.2 0) j (some (g_ad G (38 + tl.length))))) 12 12 (upd fI2 11 (nI j)) (va_up fB2 11 (some (g_ad G (38 + o)))) (va_up fA2 11 (some (g_ad G (38 + tl.length))))) (tl ++ [c_Fa (v9, T.2.1, T.2.2)])) := by
  have hX : g_chg G (g_hp G (f_uR C 0 (va_up (C.2.2.2.2.2 0) j (some (g_ad G (38 + tl.length))))) (tl ++ [c_Fa (v9, T.2.1, T.2.2)])) 7 8 9 10 (C.1 4) (C.1 5) (C.2.2.2.1 2) (C.2.2.2.2.2 1) (C.2.2.2.2.2 2) := r_chg (C := f_uR C 0 (va_up (C.2.2.2.2.2 0) j (some (g_ad G (38 + tl.length))))) (tl := tl ++ [c_Fa (v9, T.2.1, T.2.2)]) (fun j hj => ⟨(hw j hj).1.push, (hw j hj).2.push⟩)
  rw [hd] at hX
  have ht : (tl ++ [c_Fa (v9, T.2.1, T.2.2)])[o]? = some (c_Fa T) := by rw [List.getElem?_append_left (List.getElem?_eq_some_iff.mp hf.2.2.2.1).1]; exact hf.2.2.2.1
  obtain ⟨h1, fI2, fB2, fA2, w, hk, hc, hs⟩ := r_X2_note12 (y := nI j) hX (f_T_at ht) g_hp_last
  rw [f_xC_eq hk hc] at w
  exact ⟨fI2, fB2, fA2, hs, r_set0_go hf hv hne w⟩

theorem r_X11_set1_same (hf : f_is G C tl j o T) : g_Run G mX11_set 3 1 3 [.ref (g_ad G 0), .int (nI j), .int 1, .int (nI T.2.1)] (g_hp G C tl) (some (.int (nI T.2.1))) (g_hp G C tl) := by
  have hE := hf.2.2.2.2.2
  refine g_Run.of (lv := [(0, .ref (g_ad G 0)), (1, .int (nI j)), (2, .int 1), (3, .int (nI T.2.1))]) (by decide) (Nat.le_of_ble_eq_true rfl) rfl ?_
  refine a_aload_n 0 1 rfl dX11_set_0 rfl rfl ?_
  refine a_get 2 cl_10 f_RX11_28_10 (by decide) (rfl) rfl 4 rfl dX11_set_1 ?_
  refine a_iload_n 1 5 rfl dX11_set_4 rfl rfl ?_
  refine a_callVN (as := [.int (nI j)]) (rest := []) (st2 := [.ref (g_ad G (38 + o))]) (u1 := 0) (v1 := 0) (u2 := 1) (v2 := 3) (r_at_in hf) (⟨_, _, _, _, rfl, rfl⟩) oX4_at q_446 q_448 q_9 rfl (by omega) (by decide) rfl (Nat.le_of_ble_eq_true rfl) 8 rfl dX11_set_5 rfl ?_
  refine a_astore (lv' := [(4, .ref (g_ad G (38 + o))), (0, .ref (g_ad G 0)), (1, .int (nI j)), (2, .int 1), (3, .int (nI T.2.1))]) 10 rfl dX11_set_8 (by decide) rfl ?_
  refine a_aload 0 12 rfl dX11_set_10 rfl ?_
  refine a_ifnull 15 rfl dX11_set_12 ?_
  refine a_iload_n 3 16 rfl dX11_set_15 rfl rfl ?_
  refine a_if_lt 43 19 rfl dX11_set_16 (by decide) (fun hc => absurd hc ((by decide))) (fun _ => ?_)
  refine a_iload_n 3 20 rfl dX11_set_19 rfl rfl ?_
  refine a_iconst (x := 1) 21 rfl dX11_set_20 (by decide) ?_
  refine a_icmp_gt 43 24 rfl dX11_set_21 (by decide) (fun hc => absurd hc ((by decide))) (fun _ => ?_)
  refine a_iload_n 4 25 rfl dX11_set_24 rfl rfl ?_
  refine a_if_lt 43 28 rfl dX11_set_25 (by decide) (fun hc => absurd hc (nI_pos (by omega))) (fun _ => ?_)
  refine a_iload_n 4 29 rfl dX11_set_28 rfl rfl ?_
  refine a_iload_n 3 30 rfl dX11_set_29 rfl rfl ?_
  refine a_if_ne 38 33 rfl dX11_set_30 (by decide) (fun _ => ?_) (fun hc => absurd hc ((by decide)))
  refine a_bipush (x := 10) 40 rfl dX11_set_38 (by decide) ?_
  refine a_icmp_lt 45 43 rfl dX11_set_40 (by decide) (fun _ => ?_) (fun hc => absurd ((nI_lt (b := 10) hE (by omega))) hc)
  refine a_iload_n 3 46 rfl dX11_set_45 rfl rfl ?_
  refine a_if_ne 57 49 rfl dX11_set_46 (by decide) (fun _ => ?_) (fun hc => absurd hc ((by decide)))
  refine a_aload 0 59 rfl dX11_set_57 rfl ?_
  refine a_get 1 cl_5 f_RX11_120_5 (by decide) (f_T_at hf.2.2.2.1) rfl 62 rfl dX11_set_59 ?_
  refine a_istore (lv' := [(5, .int (nI T.2.1)), (4, .ref (g_ad G (38 + o))), (0, .ref (g_ad G 0)), (1, .int (nI j)), (2, .int 1), (3, .int (nI T.2.1))]) 64 rfl dX11_set_62 (by decide) rfl ?_
  refine a_iload 0 66 rfl dX11_set_64 rfl ?_
  refine a_iload_n 5 67 rfl dX11_set_66 rfl rfl ?_
  refine a_icmp_eq 137 70 rfl dX11_set_67 (by decide) (fun _ => ?_) (fun hc => absurd (rfl) hc)
  refine a_iload 0 139 rfl dX11_set_137 rfl ?_
  exact a_ireturn .int rfl rfl (rfl) (rfl) dX11_set_139
theorem r_set1_go {v9 : Nat} {Cx : f_C} (hf : f_is G C tl j o T) (hv : v9 < 10) (hne : ¬ T.2.1 = v9) (w : g_Run G mX2_note 2 0 0 [.ref (g_ad G 7), .int (nI j), .ref (g_ad G (38 + o)), .ref (g_ad G (38 + tl.length))] (g_hp G (f_uR C 0 (va_up (C.2.2.2.2.2 0) j (some (g_ad G (38 + tl.length))))) (tl ++ [c_Fa (T.1, v9, T.2.2)])) none (g_hp G Cx (tl ++ [c_Fa (T.1, v9, T.2.2)]))) : g_Run G mX11_set 3 1 3 [.ref (g_ad G 0), .int (nI j), .int 1, .int (nI v9)] (g_hp G C tl) (some (.int (nI T.2.1))) (g_hp G Cx (tl ++ [c_Fa (T.1, v9, T.2.2)])) := by
  have hE := hf.2.2.2.2.2
  refine g_Run.of (lv := [(0, .ref (g_ad G 0)), (1, .int (nI j)), (2, .int 1), (3, .int (nI v9))]) (by decide) (Nat.le_of_ble_eq_true rfl) rfl ?_
  refine a_aload_n 0 1 rfl dX11_set_0 rfl rfl ?_
  refine a_get 2 cl_10 f_RX11_28_10 (by decide) (rfl) rfl 4 rfl dX11_set_1 ?_
  refine a_iload_n 1 5 rfl dX11_set_4 rfl rfl ?_
  refine a_callVN (as := [.int (nI j)]) (rest := []) (st2 := [.ref (g_ad G (38 + o))]) (u1 := 0) (v1 := 0) (u2 := 1) (v2 := 3) (r_at_in hf) (⟨_, _, _, _, rfl, rfl⟩) oX4_at q_446 q_448 q_9 rfl (by omega) (by decide) rfl (Nat.le_of_ble_eq_true rfl) 8 rfl dX11_set_5 rfl ?_
  refine a_astore (lv' := [(4, .ref (g_ad G (38 + o))), (0, .ref (g_ad G 0)), (1, .int (nI j)), (2, .int 1), (3, .int (nI v9))]) 10 rfl dX11_set_8 (by decide) rfl ?_
  refine a_aload 0 12 rfl dX11_set_10 rfl ?_
  refine a_ifnull 15 rfl dX11_set_12 ?_
  refine a_iload_n 3 16 rfl dX11_set_15 rfl rfl ?_
  refine a_if_lt 43 19 rfl dX11_set_16 (by decide) (fun hc => absurd hc ((by decide))) (fun _ => ?_)
  refine a_iload_n 3 20 rfl dX11_set_19 rfl rfl ?_
  refine a_iconst (x := 1) 21 rfl dX11_set_20 (by decide) ?_
  refine a_icmp_gt 43 24 rfl dX11_set_21 (by decide) (fun hc => absurd hc ((by decide))) (fun _ => ?_)
  refine a_iload_n 4 25 rfl dX11_set_24 rfl rfl ?_
  refine a_if_lt 43 28 rfl dX11_set_25 (by decide) (fun hc => absurd hc (nI_pos (by omega))) (fun _ => ?_)
  refine a_iload_n 4 29 rfl dX11_set_28 rfl rfl ?_
  refine a_iload_n 3 30 rfl dX11_set_29 rfl rfl ?_
  refine a_if_ne 38 33 rfl dX11_set_30 (by decide) (fun _ => ?_) (fun hc => absurd hc ((by decide)))
  refine a_bipush (x := 10) 40 rfl dX11_set_38 (by decide) ?_
  refine a_icmp_lt 45 43 rfl dX11_set_40 (by decide) (fun _ => ?_) (fun hc => absurd ((nI_lt (b := 10) hv (by omega))) hc)
  refine a_iload_n 3 46 rfl dX11_set_45 rfl rfl ?_
  refine a_if_ne 57 49 rfl dX11_set_46 (by decide) (fun _ => ?_) (fun hc => absurd hc ((by decide)))
  refine a_aload 0 59 rfl dX11_set_57 rfl ?_
  refine a_get 1 cl_5 f_RX11_120_5 (by decide) (f_T_at hf.2.2.2.1) rfl 62 rfl dX11_set_59 ?_
  refine a_istore (lv' := [(5, .int (nI T.2.1)), (4, .ref (g_ad G (38 + o))), (0, .ref (g_ad G 0)), (1, .int (nI j)), (2, .int 1), (3, .int (nI v9))]) 64 rfl dX11_set_62 (by decide) rfl ?_
  refine a_iload 0 66 rfl dX11_set_64 rfl ?_
  refine a_iload_n 5 67 rfl dX11_set_66 rfl rfl ?_
  refine a_icmp_eq 137 70 rfl dX11_set_67 (by decide) (fun hc => absurd hc ((fun z => hne (nI_inj9 (by omega) (by omega) z)))) (fun _ => ?_)
  refine a_iload_n 4 71 rfl dX11_set_70 rfl rfl ?_
  refine a_if_ne 95 74 rfl dX11_set_71 (by decide) (fun _ => ?_) (fun hc => absurd hc ((by decide)))
  refine a_new (fs := [.int 0, .int 0, .long 0]) cl_5 q_402 q_403 q_131 (by intro j hj; rcases j with _ | _ | _ |  j <;> first | rfl | omega) 98 rfl dX11_set_95 ?_
  refine a_eq (st2 := [.ref (g_ad G (38 + tl.length))]) rfl rfl (by rw [g_hp_len]) rfl ?_
  refine a_eq (h2 := g_hp G C (tl ++ [c_O 5 [.int 0, .int 0, .long 0]])) rfl rfl rfl (g_hp_push) ?_
  have ht : (tl ++ [c_O 5 [.int 0, .int 0, .long 0]])[o]? = some (c_Fa T) := by rw [List.getElem?_append_left (List.getElem?_eq_some_iff.mp hf.2.2.2.1).1]; exact hf.2.2.2.1
  refine a_dup 99 rfl dX11_set_98 rfl ?_
  refine a_aload 1 101 rfl dX11_set_99 rfl ?_
  refine a_get 0 cl_5 f_RX11_114_5 (by decide) (f_T_at ht) rfl 104 rfl dX11_set_101 ?_
  refine a_iload_n 5 105 rfl dX11_set_104 rfl rfl ?_
  refine a_aload 1 107 rfl dX11_set_105 rfl ?_
  refine a_get 2 cl_5 f_RX11_123_5 (by decide) (f_T_at ht) rfl 110 rfl dX11_set_107 ?_
  refine a_callIN (as := [.int (nI T.1), .int (nI v9), .long T.2.2]) (rest := [.ref (g_ad G (38 + tl.length))]) (u1 := 0) (v1 := 0) (u2 := 0) (v2 := 0) (r_X5_init g_hp_last) rfl oX5_init q_404 q_405 rfl rfl (by omega) (by decide) rfl (Nat.le_of_ble_eq_true rfl) 113 rfl dX11_set_110 ?_
  refine a_eq (h2 := g_hp G C (tl ++ [c_Fa (T.1, v9, T.2.2)])) rfl rfl rfl (g_hp_setLast) ?_
  refine a_astore (lv' := [(6, .ref (g_ad G (38 + tl.length))), (5, .int (nI T.2.1)), (4, .ref (g_ad G (38 + o))), (0, .ref (g_ad G 0)), (1, .int (nI j)), (2, .int 1), (3, .int (nI v9))]) 115 rfl dX11_set_113 (by decide) rfl ?_
  refine a_aload_n 3 116 rfl dX11_set_115 rfl rfl ?_
  refine a_get 2 cl_10 f_RX11_28_10 (by decide) (rfl) rfl 119 rfl dX11_set_116 ?_
  refine a_iload_n 4 120 rfl dX11_set_119 rfl rfl ?_
  refine a_aload 0 122 rfl dX11_set_120 rfl ?_
  refine a_callVN (as := [.int (nI j), .ref (g_ad G (38 + tl.length))]) (rest := []) (st2 := []) (u1 := 0) (v1 := 0) (u2 := 0) (v2 := 0) (r_X4_replace rfl rfl g_hp_last hf.2.1 hf.1) (⟨_, _, _, _, rfl, rfl⟩) oX4_replace q_450 q_452 q_10 rfl (by omega) (by decide) rfl (Nat.le_of_ble_eq_true rfl) 125 rfl dX11_set_122 rfl ?_
  refine a_eq (h2 := g_hp G (f_uR C 0 (va_up (C.2.2.2.2.2 0) j (some (g_ad G (38 + tl.length))))) (tl ++ [c_Fa (T.1, v9, T.2.2)])) rfl rfl rfl (rfl) ?_
  refine a_aload_n 3 126 rfl dX11_set_125 rfl rfl ?_
  refine a_get 3 cl_10 f_RX11_35_10 (by decide) (rfl) rfl 129 rfl dX11_set_126 ?_
  refine a_iload_n 4 130 rfl dX11_set_129 rfl rfl ?_
  refine a_aload 2 132 rfl dX11_set_130 rfl ?_
  refine a_aload 0 134 rfl dX11_set_132 rfl ?_
  refine a_callVN (as := [.int (nI j), .ref (g_ad G (38 + o)), .ref (g_ad G (38 + tl.length))]) (rest := []) (st2 := []) (u1 := 0) (v1 := 0) (u2 := 0) (v2 := 0) (w) (⟨_, _, _, _, rfl, rfl⟩) oX2_note q_454 q_456 q_11 rfl (by omega) (by decide) rfl (Nat.le_of_ble_eq_true rfl) 137 rfl dX11_set_134 rfl ?_
  refine a_iload 1 139 rfl dX11_set_137 rfl ?_
  exact a_ireturn .int rfl rfl (rfl) (rfl) dX11_set_139
theorem r_X11_set1 {v9 : Nat} (hf : f_is G C tl j o T) (hv : v9 < 10) (hne : ¬ T.2.1 = v9) (hw : f_wx G C tl) (hd : C.1 4 < 12) : g_Run G mX11_set 3 1 3 [.ref (g_ad G 0), .int (nI j), .int 1, .int (nI v9)] (g_hp G C tl) (some (.int (nI T.2.1))) (g_hp G (f_xC (f_uR C 0 (va_up (C.2.2.2.2.2 0) j (some (g_ad G (38 + tl.length))))) (C.1 4 + 1) (C.1 4 + 1) (upd (C.2.2.2.1 2) (C.1 4) (nI j)) (va_up (C.2.2.2.2.2 1) (C.1 4) (some (g_ad G (38 + o)))) (va_up (C.2.2.2.2.2 2) (C.1 4) (some (g_ad G (38 + tl.length))))) (tl ++ [c_Fa (T.1, v9, T.2.2)])) := by
  have hX : g_chg G (g_hp G (f_uR C 0 (va_up (C.2.2.2.2.2 0) j (some (g_ad G (38 + tl.length))))) (tl ++ [c_Fa (T.1, v9, T.2.2)])) 7 8 9 10 (C.1 4) (C.1 5) (C.2.2.2.1 2) (C.2.2.2.2.2 1) (C.2.2.2.2.2 2) := r_chg (C := f_uR C 0 (va_up (C.2.2.2.2.2 0) j (some (g_ad G (38 + tl.length))))) (tl := tl ++ [c_Fa (T.1, v9, T.2.2)]) (fun j hj => ⟨(hw j hj).1.push, (hw j hj).2.push⟩)
  have ht : (tl ++ [c_Fa (T.1, v9, T.2.2)])[o]? = some (c_Fa T) := by rw [List.getElem?_append_left (List.getElem?_eq_some_iff.mp hf.2.2.2.1).1]; exact hf.2.2.2.1
  obtain ⟨h1, w, hk, hc⟩ := r_X2_note (y := nI j) hX hd (f_T_at ht) g_hp_last
  rw [f_xC_eq hk hc] at w
  exact r_set1_go hf hv hne w
theorem r_X11_set1_full {v9 : Nat} (hf : f_is G C tl j o T) (hv : v9 < 10) (hne : ¬ T.2.1 = v9) (hw : f_wx G C tl) (hd : C.1 4 = 12) : ∃ (fI2 : Nat → Int32) (fB2 fA2 : Nat → Option Nat), (∀ j, j < 11 → fI2 j = C.2.2.2.1 2 (j + 1) ∧ fB2 j = C.2.2.2.2.2 1 (j + 1) ∧ fA2 j = C.2.2.2.2.2 2 (j + 1)) ∧ g_Run G mX11_set 3 1 3 [.ref (g_ad G 0), .int (nI j), .int 1, .int (nI v9)] (g_hp G C tl) (some (.int (nI T.2.1))) (g_hp G (f_xC (f_uR C 0 (va_up (C.2.2.2.2.2 0) j (some (g_ad G (38 + tl.length))))) 12 12 (upd fI2 11 (nI j)) (va_up fB2 11 (some (g_ad G (38 + o)))) (va_up fA2 11 (some (g_ad G (38 + tl.length))))) (tl ++ [c_Fa (T.1, v9, T.2.2)])) := by
  have hX : g_chg G (g_hp G (f_uR C 0 (va_up (C.2.2.2.2.2 0) j (some (g_ad G (38 + tl.length))))) (tl ++ [c_Fa (T.1, v9, T.2.2)])) 7 8 9 10 (C.1 4) (C.1 5) (C.2.2.2.1 2) (C.2.2.2.2.2 1) (C.2.2.2.2.2 2) := r_chg (C := f_uR C 0 (va_up (C.2.2.2.2.2 0) j (some (g_ad G (38 + tl.length))))) (tl := tl ++ [c_Fa (T.1, v9, T.2.2)]) (fun j hj => ⟨(hw j hj).1.push, (hw j hj).2.push⟩)
  rw [hd] at hX
  have ht : (tl ++ [c_Fa (T.1, v9, T.2.2)])[o]? = some (c_Fa T) := by rw [List.getElem?_append_left (List.getElem?_eq_some_iff.mp hf.2.2.2.1).1]; exact hf.2.2.2.1
  obtain ⟨h1, fI2, fB2, fA2, w, hk, hc, hs⟩ := r_X2_note12 (y := nI j) hX (f_T_at ht) g_hp_last
  rw [f_xC_eq hk hc] at w
  exact ⟨fI2, fB2, fA2, hs, r_set1_go hf hv hne w⟩

-- judge
def f_judge (mn : Nat) (f : Nat → Int64) (so : Int64) : Nat → Nat → Int32
  | 0, _ => -2
  | t + 1, s => if mn ≤ s then nI (100 + s) else if f s = (f_bcL (so &&& f_ofSize (nI s) 64)).toInt64 then f_judge mn f so t (s + 1) else nI s
theorem r_X11_judge_bad1 (hi : ¬ vp_in y 3) (hm : C.1 3 ≤ 8) (hi3 : ¬ vp_in y2 (C.1 3)) : g_Run G mX11_judge 5 0 0 [.ref (g_ad G 0), .int y, .int y2] (g_hp G C tl) (some (.int (-1))) (g_hp G C tl) := by
  refine g_Run.of (lv := [(0, .ref (g_ad G 0)), (1, .int y), (2, .int y2)]) (by decide) (Nat.le_of_ble_eq_true rfl) rfl ?_
  refine a_aload_n 0 1 rfl dX11_judge_0 rfl rfl ?_
  refine a_iload_n 1 2 rfl dX11_judge_1 rfl rfl ?_
  refine a_callV (as := [.int y]) (rest := []) (st2 := [.null]) (u1 := 0) (v1 := 0) (u2 := 0) (v2 := 0) (r_listAt_out hi) (⟨_, _, _, _, rfl, rfl⟩) oX11_listAt q_833 q_835 q_43 rfl (by omega) (by decide) rfl (Nat.le_of_ble_eq_true rfl) 5 rfl dX11_judge_2 rfl ?_
  refine a_astore_nN (lv' := [(3, .null), (0, .ref (g_ad G 0)), (1, .int y), (2, .int y2)]) 6 rfl dX11_judge_5 rfl (by decide) rfl ?_
  refine a_aload_n 1 7 rfl dX11_judge_6 rfl rfl ?_
  refine a_get 2 cl_10 f_RX11_28_10 (by decide) (rfl) rfl 10 rfl dX11_judge_7 ?_
  refine a_iload_n 3 11 rfl dX11_judge_10 rfl rfl ?_
  refine a_callVN (as := [.int y2]) (rest := []) (st2 := [.null]) (u1 := 0) (v1 := 0) (u2 := 0) (v2 := 0) (r_at_out hm hi3) (⟨_, _, _, _, rfl, rfl⟩) oX4_at q_446 q_448 q_9 rfl (by omega) (by decide) rfl (Nat.le_of_ble_eq_true rfl) 14 rfl dX11_judge_11 rfl ?_
  refine a_astoreN (lv' := [(4, .null), (3, .null), (0, .ref (g_ad G 0)), (1, .int y), (2, .int y2)]) 16 rfl dX11_judge_14 (by decide) rfl ?_
  refine a_aload_nN 1 17 rfl dX11_judge_16 rfl rfl ?_
  refine a_ifnullN 25 dX11_judge_17 (by decide) ?_
  refine a_iconst (x := (-1)) 26 rfl dX11_judge_25 (by decide) ?_
  exact a_ireturn .int rfl rfl (rfl) (rfl) dX11_judge_26
theorem r_X11_judge_bad2 (hi : ¬ vp_in y 3) (hf : f_is G C tl j o T) : g_Run G mX11_judge 5 0 0 [.ref (g_ad G 0), .int y, .int (nI j)] (g_hp G C tl) (some (.int (-1))) (g_hp G C tl) := by
  refine g_Run.of (lv := [(0, .ref (g_ad G 0)), (1, .int y), (2, .int (nI j))]) (by decide) (Nat.le_of_ble_eq_true rfl) rfl ?_
  refine a_aload_n 0 1 rfl dX11_judge_0 rfl rfl ?_
  refine a_iload_n 1 2 rfl dX11_judge_1 rfl rfl ?_
  refine a_callV (as := [.int y]) (rest := []) (st2 := [.null]) (u1 := 0) (v1 := 0) (u2 := 0) (v2 := 0) (r_listAt_out hi) (⟨_, _, _, _, rfl, rfl⟩) oX11_listAt q_833 q_835 q_43 rfl (by omega) (by decide) rfl (Nat.le_of_ble_eq_true rfl) 5 rfl dX11_judge_2 rfl ?_
  refine a_astore_nN (lv' := [(3, .null), (0, .ref (g_ad G 0)), (1, .int y), (2, .int (nI j))]) 6 rfl dX11_judge_5 rfl (by decide) rfl ?_
  refine a_aload_n 1 7 rfl dX11_judge_6 rfl rfl ?_
  refine a_get 2 cl_10 f_RX11_28_10 (by decide) (rfl) rfl 10 rfl dX11_judge_7 ?_
  refine a_iload_n 3 11 rfl dX11_judge_10 rfl rfl ?_
  refine a_callVN (as := [.int (nI j)]) (rest := []) (st2 := [.ref (g_ad G (38 + o))]) (u1 := 0) (v1 := 0) (u2 := 0) (v2 := 0) (r_at_in hf) (⟨_, _, _, _, rfl, rfl⟩) oX4_at q_446 q_448 q_9 rfl (by omega) (by decide) rfl (Nat.le_of_ble_eq_true rfl) 14 rfl dX11_judge_11 rfl ?_
  refine a_astore (lv' := [(4, .ref (g_ad G (38 + o))), (3, .null), (0, .ref (g_ad G 0)), (1, .int y), (2, .int (nI j))]) 16 rfl dX11_judge_14 (by decide) rfl ?_
  refine a_aload_nN 1 17 rfl dX11_judge_16 rfl rfl ?_
  refine a_ifnullN 25 dX11_judge_17 (by decide) ?_
  refine a_iconst (x := (-1)) 26 rfl dX11_judge_25 (by decide) ?_
  exact a_ireturn .int rfl rfl (rfl) (rfl) dX11_judge_26
theorem nI_out {a b : Nat} (ha : a < 2 ^ 31) (hb : b ≤ a) : ¬ vp_in (nI a) b := fun z => by
  have e9 := vp_in_iff.mp z
  rw [nI_toInt ha] at e9
  omega
theorem r_X11_judge0_bad (hq : f_qs G C) (hm : C.1 3 ≤ 8) (hi3 : ¬ vp_in y2 (C.1 3)) : g_Run G mX11_judge 5 0 0 [.ref (g_ad G 0), .int 0, .int y2] (g_hp G C tl) (some (.int (-1))) (g_hp G C tl) := by
  refine g_Run.of (lv := [(0, .ref (g_ad G 0)), (1, .int 0), (2, .int y2)]) (by decide) (Nat.le_of_ble_eq_true rfl) rfl ?_
  refine a_aload_n 0 1 rfl dX11_judge_0 rfl rfl ?_
  refine a_iload_n 1 2 rfl dX11_judge_1 rfl rfl ?_
  refine a_callV (as := [.int 0]) (rest := []) (st2 := [.ref (g_ad G 32)]) (u1 := 0) (v1 := 0) (u2 := 0) (v2 := 0) (r_listAt0 hq) (⟨_, _, _, _, rfl, rfl⟩) oX11_listAt q_833 q_835 q_43 rfl (by omega) (by decide) rfl (Nat.le_of_ble_eq_true rfl) 5 rfl dX11_judge_2 rfl ?_
  refine a_astore_n (lv' := [(3, .ref (g_ad G 32)), (0, .ref (g_ad G 0)), (1, .int 0), (2, .int y2)]) 6 rfl dX11_judge_5 rfl (by decide) rfl ?_
  refine a_aload_n 1 7 rfl dX11_judge_6 rfl rfl ?_
  refine a_get 2 cl_10 f_RX11_28_10 (by decide) (rfl) rfl 10 rfl dX11_judge_7 ?_
  refine a_iload_n 3 11 rfl dX11_judge_10 rfl rfl ?_
  refine a_callVN (as := [.int y2]) (rest := []) (st2 := [.null]) (u1 := 0) (v1 := 0) (u2 := 0) (v2 := 0) (r_at_out hm hi3) (⟨_, _, _, _, rfl, rfl⟩) oX4_at q_446 q_448 q_9 rfl (by omega) (by decide) rfl (Nat.le_of_ble_eq_true rfl) 14 rfl dX11_judge_11 rfl ?_
  refine a_astoreN (lv' := [(4, .null), (3, .ref (g_ad G 32)), (0, .ref (g_ad G 0)), (1, .int 0), (2, .int y2)]) 16 rfl dX11_judge_14 (by decide) rfl ?_
  refine a_aload_n 1 17 rfl dX11_judge_16 rfl rfl ?_
  refine a_ifnull 20 rfl dX11_judge_17 ?_
  refine a_aloadN 0 22 rfl dX11_judge_20 rfl ?_
  refine a_ifnonnullN 25 rfl dX11_judge_22 ?_
  refine a_iconst (x := (-1)) 26 rfl dX11_judge_25 (by decide) ?_
  exact a_ireturn .int rfl rfl (rfl) (rfl) dX11_judge_26
theorem r_X11_judge0_miss (hq : f_qs G C) (hf : f_is G C tl j o T) (ht : C.2.1 9 = 0) : g_Run G mX11_judge 5 0 0 [.ref (g_ad G 0), .int 0, .int (nI j)] (g_hp G C tl) (some (.int (-11))) (g_hp G C tl) := by
  refine g_Run.of (lv := [(0, .ref (g_ad G 0)), (1, .int 0), (2, .int (nI j))]) (by decide) (Nat.le_of_ble_eq_true rfl) rfl ?_
  refine a_aload_n 0 1 rfl dX11_judge_0 rfl rfl ?_
  refine a_iload_n 1 2 rfl dX11_judge_1 rfl rfl ?_
  refine a_callV (as := [.int 0]) (rest := []) (st2 := [.ref (g_ad G 32)]) (u1 := 0) (v1 := 0) (u2 := 0) (v2 := 0) (r_listAt0 hq) (⟨_, _, _, _, rfl, rfl⟩) oX11_listAt q_833 q_835 q_43 rfl (by omega) (by decide) rfl (Nat.le_of_ble_eq_true rfl) 5 rfl dX11_judge_2 rfl ?_
  refine a_astore_n (lv' := [(3, .ref (g_ad G 32)), (0, .ref (g_ad G 0)), (1, .int 0), (2, .int (nI j))]) 6 rfl dX11_judge_5 rfl (by decide) rfl ?_
  refine a_aload_n 1 7 rfl dX11_judge_6 rfl rfl ?_
  refine a_get 2 cl_10 f_RX11_28_10 (by decide) (rfl) rfl 10 rfl dX11_judge_7 ?_
  refine a_iload_n 3 11 rfl dX11_judge_10 rfl rfl ?_
  refine a_callVN (as := [.int (nI j)]) (rest := []) (st2 := [.ref (g_ad G (38 + o))]) (u1 := 0) (v1 := 0) (u2 := 0) (v2 := 0) (r_at_in hf) (⟨_, _, _, _, rfl, rfl⟩) oX4_at q_446 q_448 q_9 rfl (by omega) (by decide) rfl (Nat.le_of_ble_eq_true rfl) 14 rfl dX11_judge_11 rfl ?_
  refine a_astore (lv' := [(4, .ref (g_ad G (38 + o))), (3, .ref (g_ad G 32)), (0, .ref (g_ad G 0)), (1, .int 0), (2, .int (nI j))]) 16 rfl dX11_judge_14 (by decide) rfl ?_
  refine a_aload_n 1 17 rfl dX11_judge_16 rfl rfl ?_
  refine a_ifnull 20 rfl dX11_judge_17 ?_
  refine a_aload 0 22 rfl dX11_judge_20 rfl ?_
  refine a_ifnonnull 27 dX11_judge_22 (by decide) ?_
  refine a_aload_n 1 28 rfl dX11_judge_27 rfl rfl ?_
  refine a_callVN (as := []) (rest := []) (st2 := [.int (if C.2.1 9 = 0 then 1 else 0)]) (u1 := 0) (v1 := 0) (u2 := 0) (v2 := 0) (r_X8_isMissing rfl) (⟨_, _, _, _, rfl, rfl⟩) oX8_isMissing q_837 q_839 q_44 rfl (by omega) (by decide) rfl (Nat.le_of_ble_eq_true rfl) 31 rfl dX11_judge_28 rfl ?_
  refine a_if_eq 37 34 rfl dX11_judge_31 (by decide) (fun hc => absurd hc ((by rw [if_pos ht]; decide))) (fun _ => ?_)
  refine a_bipush (x := (-11)) 36 rfl dX11_judge_34 (by decide) ?_
  exact a_ireturn .int rfl rfl (rfl) (rfl) dX11_judge_36
theorem r_X11_judge0 (hq : f_qs G C) (hf : f_is G C tl j o T) (hn : C.1 0 ≤ 6) (ht : ¬ C.2.1 9 = 0) (hmn : C.1 15 ≤ 20) : g_Run G mX11_judge 5 0 0 [.ref (g_ad G 0), .int 0, .int (nI j)] (g_hp G C tl) (some (.int (f_judge (C.1 15) (C.2.2.2.2.1 0) (f_so C T) (C.1 0 + 1) 0))) (g_hp G C tl) := by
  have key : ∀ jj ii : Nat, ii + jj = C.1 0 + 1 → g_A G mX11_judge 5 0 0 51 [(7, .int (nI ii)), (5, .long (f_so C T)), (3, .ref (g_ad G 32)), (0, .ref (g_ad G 0))] [] (g_hp G C tl) (some (.int (f_judge (C.1 15) (C.2.2.2.2.1 0) (f_so C T) jj ii))) (g_hp G C tl) := by
    intro jj
    induction jj with
    | zero =>
      intro ii hii
      refine a_iload 0 53 rfl dX11_judge_51 rfl ?_
      refine a_aload_n 3 54 rfl dX11_judge_53 rfl rfl ?_
      refine a_get 0 cl_10 f_RX11_12_10 (by decide) (rfl) rfl 57 rfl dX11_judge_54 ?_
      refine a_callVN (as := []) (rest := [.int (nI ii)]) (st2 := [.int (nI (C.1 0)), .int (nI ii)]) (u1 := 0) (v1 := 0) (u2 := 0) (v2 := 0) (r_X3_elements rfl) (⟨_, _, _, _, rfl, rfl⟩) oX3_elements q_352 q_354 q_0 rfl (by omega) (by decide) rfl (Nat.le_of_ble_eq_true rfl) 60 rfl dX11_judge_57 rfl ?_
      refine a_icmp_gt 109 63 rfl dX11_judge_60 (by decide) (fun _ => ?_) (fun hc => absurd (nI_lt (by omega) (by omega)) hc)
      refine a_bipush (x := (-2)) 111 rfl dX11_judge_109 (by decide) ?_
      exact a_ireturn .int rfl rfl (rfl) (rfl) dX11_judge_111
    | succ jj ih =>
      intro ii hii
      refine a_iload 0 53 rfl dX11_judge_51 rfl ?_
      refine a_aload_n 3 54 rfl dX11_judge_53 rfl rfl ?_
      refine a_get 0 cl_10 f_RX11_12_10 (by decide) (rfl) rfl 57 rfl dX11_judge_54 ?_
      refine a_callVN (as := []) (rest := [.int (nI ii)]) (st2 := [.int (nI (C.1 0)), .int (nI ii)]) (u1 := 0) (v1 := 0) (u2 := 0) (v2 := 0) (r_X3_elements rfl) (⟨_, _, _, _, rfl, rfl⟩) oX3_elements q_352 q_354 q_0 rfl (by omega) (by decide) rfl (Nat.le_of_ble_eq_true rfl) 60 rfl dX11_judge_57 rfl ?_
      refine a_icmp_gt 109 63 rfl dX11_judge_60 (by decide) (fun hc => absurd hc (nI_nlt (by omega) (by omega))) (fun _ => ?_)
      refine a_aload_n 2 64 rfl dX11_judge_63 rfl rfl ?_
      refine a_iload 0 66 rfl dX11_judge_64 rfl ?_
      by_cases hs : C.1 15 ≤ ii
      · skip
        refine a_callVN (as := [.int (nI ii)]) (rest := []) (st2 := [.int 0]) (u1 := 0) (v1 := 0) (u2 := 0) (v2 := 0) (r_X8_hasPlace_out rfl hmn (nI_out (by omega) hs)) (⟨_, _, _, _, rfl, rfl⟩) oX8_hasPlace q_841 q_843 q_45 rfl (by omega) (by decide) rfl (Nat.le_of_ble_eq_true rfl) 69 rfl dX11_judge_66 rfl ?_
        refine a_if_ne 78 72 rfl dX11_judge_69 (by decide) (fun hc => absurd (rfl) hc) (fun _ => ?_)
        refine a_bipush (x := 100) 74 rfl dX11_judge_72 (by decide) ?_
        refine a_iload 0 76 rfl dX11_judge_74 rfl ?_
        refine a_iadd 77 rfl dX11_judge_76 ?_
        exact a_ireturn .int rfl rfl ((by rw [f_judge, if_pos hs, show (100 : Int32) = nI 100 from rfl, nI_add])) (rfl) dX11_judge_77
      · skip
        refine a_callVN (as := [.int (nI ii)]) (rest := []) (st2 := [.int 1]) (u1 := 0) (v1 := 0) (u2 := 0) (v2 := 0) (r_X8_hasPlace_in rfl rfl hmn (by omega)) (⟨_, _, _, _, rfl, rfl⟩) oX8_hasPlace q_841 q_843 q_45 rfl (by omega) (by decide) rfl (Nat.le_of_ble_eq_true rfl) 69 rfl dX11_judge_66 rfl ?_
        refine a_if_ne 78 72 rfl dX11_judge_69 (by decide) (fun _ => ?_) (fun hc => absurd hc ((by decide)))
        refine a_aload_n 2 79 rfl dX11_judge_78 rfl rfl ?_
        refine a_iload 0 81 rfl dX11_judge_79 rfl ?_
        refine a_callVN (as := [.int (nI ii)]) (rest := []) (st2 := [.long (C.2.2.2.2.1 0 ii)]) (u1 := 0) (v1 := 0) (u2 := 0) (v2 := 0) (r_X8_at_in rfl rfl hmn (by omega)) (⟨_, _, _, _, rfl, rfl⟩) oX8_at q_845 q_847 q_46 rfl (by omega) (by decide) rfl (Nat.le_of_ble_eq_true rfl) 84 rfl dX11_judge_81 rfl ?_
        refine a_aload_n 3 85 rfl dX11_judge_84 rfl rfl ?_
        refine a_get 0 cl_10 f_RX11_12_10 (by decide) (rfl) rfl 88 rfl dX11_judge_85 ?_
        refine a_lload 1 90 rfl dX11_judge_88 rfl ?_
        refine a_iload 0 92 rfl dX11_judge_90 rfl ?_
        refine a_callVN (as := [.long (f_so C T), .int (nI ii)]) (rest := [.long (C.2.2.2.2.1 0 ii)]) (st2 := [.int (f_bcL (f_so C T &&& f_ofSize (nI ii) 64)), .long (C.2.2.2.2.1 0 ii)]) (u1 := 0) (v1 := 0) (u2 := 0) (v2 := 0) (r_X3_manyOfSize (n := C.1 0) rfl) (⟨_, _, _, _, rfl, rfl⟩) oX3_manyOfSize q_560 q_562 q_26 rfl (by omega) (by decide) rfl (Nat.le_of_ble_eq_true rfl) 95 rfl dX11_judge_92 rfl ?_
        refine a_i2l 96 rfl dX11_judge_95 ?_
        refine a_lcmp 97 rfl dX11_judge_96 ?_
        by_cases he : C.2.2.2.2.1 0 ii = (f_bcL (f_so C T &&& f_ofSize (nI ii) 64)).toInt64
        · skip
          refine a_if_eq 103 100 rfl dX11_judge_97 (by decide) (fun _ => ?_) (fun hc => absurd ((g_cmp_eq.mpr he)) hc)
          refine a_iinc (y := nI (ii + 1)) (lv' := [(7, .int (nI (ii + 1))), (5, .long (f_so C T)), (3, .ref (g_ad G 32)), (0, .ref (g_ad G 0))]) 0 106 rfl dX11_judge_103 rfl (nI_1 ii) (by decide) rfl ?_
          refine a_goto 51 dX11_judge_106 (by decide) ?_
          rw [f_judge, if_neg hs, if_pos he]
          exact ih (ii + 1) (by omega)
        · skip
          refine a_if_eq 103 100 rfl dX11_judge_97 (by decide) (fun hc => absurd hc ((g_cmp_ne.mpr he))) (fun _ => ?_)
          refine a_iload 0 102 rfl dX11_judge_100 rfl ?_
          exact a_ireturn .int rfl rfl ((by rw [f_judge, if_neg hs, if_neg he])) (rfl) dX11_judge_102
  refine g_Run.of (lv := [(0, .ref (g_ad G 0)), (1, .int 0), (2, .int (nI j))]) (by decide) (Nat.le_of_ble_eq_true rfl) rfl ?_
  refine a_aload_n 0 1 rfl dX11_judge_0 rfl rfl ?_
  refine a_iload_n 1 2 rfl dX11_judge_1 rfl rfl ?_
  refine a_callV (as := [.int 0]) (rest := []) (st2 := [.ref (g_ad G 32)]) (u1 := 0) (v1 := 0) (u2 := 0) (v2 := 0) (r_listAt0 hq) (⟨_, _, _, _, rfl, rfl⟩) oX11_listAt q_833 q_835 q_43 rfl (by omega) (by decide) rfl (Nat.le_of_ble_eq_true rfl) 5 rfl dX11_judge_2 rfl ?_
  refine a_astore_n (lv' := [(3, .ref (g_ad G 32)), (0, .ref (g_ad G 0)), (1, .int 0), (2, .int (nI j))]) 6 rfl dX11_judge_5 rfl (by decide) rfl ?_
  refine a_aload_n 1 7 rfl dX11_judge_6 rfl rfl ?_
  refine a_get 2 cl_10 f_RX11_28_10 (by decide) (rfl) rfl 10 rfl dX11_judge_7 ?_
  refine a_iload_n 3 11 rfl dX11_judge_10 rfl rfl ?_
  refine a_callVN (as := [.int (nI j)]) (rest := []) (st2 := [.ref (g_ad G (38 + o))]) (u1 := 0) (v1 := 0) (u2 := 0) (v2 := 0) (r_at_in hf) (⟨_, _, _, _, rfl, rfl⟩) oX4_at q_446 q_448 q_9 rfl (by omega) (by decide) rfl (Nat.le_of_ble_eq_true rfl) 14 rfl dX11_judge_11 rfl ?_
  refine a_astore (lv' := [(4, .ref (g_ad G (38 + o))), (3, .ref (g_ad G 32)), (0, .ref (g_ad G 0)), (1, .int 0), (2, .int (nI j))]) 16 rfl dX11_judge_14 (by decide) rfl ?_
  refine a_aload_n 1 17 rfl dX11_judge_16 rfl rfl ?_
  refine a_ifnull 20 rfl dX11_judge_17 ?_
  refine a_aload 0 22 rfl dX11_judge_20 rfl ?_
  refine a_ifnonnull 27 dX11_judge_22 (by decide) ?_
  refine a_aload_n 1 28 rfl dX11_judge_27 rfl rfl ?_
  refine a_callVN (as := []) (rest := []) (st2 := [.int (if C.2.1 9 = 0 then 1 else 0)]) (u1 := 0) (v1 := 0) (u2 := 0) (v2 := 0) (r_X8_isMissing rfl) (⟨_, _, _, _, rfl, rfl⟩) oX8_isMissing q_837 q_839 q_44 rfl (by omega) (by decide) rfl (Nat.le_of_ble_eq_true rfl) 31 rfl dX11_judge_28 rfl ?_
  refine a_if_eq 37 34 rfl dX11_judge_31 (by decide) (fun _ => ?_) (fun hc => absurd ((by rw [if_neg ht])) hc)
  refine a_aload_n 2 38 rfl dX11_judge_37 rfl rfl ?_
  refine a_get 0 cl_10 f_RX11_12_10 (by decide) (rfl) rfl 41 rfl dX11_judge_38 ?_
  refine a_aload 0 43 rfl dX11_judge_41 rfl ?_
  refine a_callVN (as := [.ref (g_ad G (38 + o))]) (rest := []) (st2 := [.long (f_so C T)]) (u1 := 0) (v1 := 0) (u2 := 0) (v2 := 0) (r_so hf hn) (⟨_, _, _, _, rfl, rfl⟩) oX3_setsOf q_467 q_469 q_13 rfl (by omega) (by decide) rfl (Nat.le_of_ble_eq_true rfl) 46 rfl dX11_judge_43 rfl ?_
  refine a_lstore (lv' := [(5, .long (f_so C T)), (4, .ref (g_ad G (38 + o))), (3, .ref (g_ad G 32)), (0, .ref (g_ad G 0)), (1, .int 0), (2, .int (nI j))]) 48 rfl dX11_judge_46 (by decide) rfl ?_
  refine a_iconst (x := 0) 49 rfl dX11_judge_48 (by decide) ?_
  refine a_istore (lv' := [(7, .int 0), (5, .long (f_so C T)), (4, .ref (g_ad G (38 + o))), (3, .ref (g_ad G 32)), (0, .ref (g_ad G 0)), (1, .int 0), (2, .int (nI j))]) 51 rfl dX11_judge_49 (by decide) rfl ?_
  refine a_sub (lv' := [(7, .int (nI 0)), (5, .long (f_so C T)), (3, .ref (g_ad G 32)), (0, .ref (g_ad G 0))]) [0, 1, 3, 4] rfl ?_
  exact key _ _ (by omega)

theorem r_X11_judge1_bad (hq : f_qs G C) (hm : C.1 3 ≤ 8) (hi3 : ¬ vp_in y2 (C.1 3)) : g_Run G mX11_judge 5 0 0 [.ref (g_ad G 0), .int 1, .int y2] (g_hp G C tl) (some (.int (-1))) (g_hp G C tl) := by
  refine g_Run.of (lv := [(0, .ref (g_ad G 0)), (1, .int 1), (2, .int y2)]) (by decide) (Nat.le_of_ble_eq_true rfl) rfl ?_
  refine a_aload_n 0 1 rfl dX11_judge_0 rfl rfl ?_
  refine a_iload_n 1 2 rfl dX11_judge_1 rfl rfl ?_
  refine a_callV (as := [.int 1]) (rest := []) (st2 := [.ref (g_ad G 34)]) (u1 := 0) (v1 := 0) (u2 := 0) (v2 := 0) (r_listAt1 hq) (⟨_, _, _, _, rfl, rfl⟩) oX11_listAt q_833 q_835 q_43 rfl (by omega) (by decide) rfl (Nat.le_of_ble_eq_true rfl) 5 rfl dX11_judge_2 rfl ?_
  refine a_astore_n (lv' := [(3, .ref (g_ad G 34)), (0, .ref (g_ad G 0)), (1, .int 1), (2, .int y2)]) 6 rfl dX11_judge_5 rfl (by decide) rfl ?_
  refine a_aload_n 1 7 rfl dX11_judge_6 rfl rfl ?_
  refine a_get 2 cl_10 f_RX11_28_10 (by decide) (rfl) rfl 10 rfl dX11_judge_7 ?_
  refine a_iload_n 3 11 rfl dX11_judge_10 rfl rfl ?_
  refine a_callVN (as := [.int y2]) (rest := []) (st2 := [.null]) (u1 := 0) (v1 := 0) (u2 := 0) (v2 := 0) (r_at_out hm hi3) (⟨_, _, _, _, rfl, rfl⟩) oX4_at q_446 q_448 q_9 rfl (by omega) (by decide) rfl (Nat.le_of_ble_eq_true rfl) 14 rfl dX11_judge_11 rfl ?_
  refine a_astoreN (lv' := [(4, .null), (3, .ref (g_ad G 34)), (0, .ref (g_ad G 0)), (1, .int 1), (2, .int y2)]) 16 rfl dX11_judge_14 (by decide) rfl ?_
  refine a_aload_n 1 17 rfl dX11_judge_16 rfl rfl ?_
  refine a_ifnull 20 rfl dX11_judge_17 ?_
  refine a_aloadN 0 22 rfl dX11_judge_20 rfl ?_
  refine a_ifnonnullN 25 rfl dX11_judge_22 ?_
  refine a_iconst (x := (-1)) 26 rfl dX11_judge_25 (by decide) ?_
  exact a_ireturn .int rfl rfl (rfl) (rfl) dX11_judge_26
theorem r_X11_judge1_miss (hq : f_qs G C) (hf : f_is G C tl j o T) (ht : C.2.1 10 = 0) : g_Run G mX11_judge 5 0 0 [.ref (g_ad G 0), .int 1, .int (nI j)] (g_hp G C tl) (some (.int (-11))) (g_hp G C tl) := by
  refine g_Run.of (lv := [(0, .ref (g_ad G 0)), (1, .int 1), (2, .int (nI j))]) (by decide) (Nat.le_of_ble_eq_true rfl) rfl ?_
  refine a_aload_n 0 1 rfl dX11_judge_0 rfl rfl ?_
  refine a_iload_n 1 2 rfl dX11_judge_1 rfl rfl ?_
  refine a_callV (as := [.int 1]) (rest := []) (st2 := [.ref (g_ad G 34)]) (u1 := 0) (v1 := 0) (u2 := 0) (v2 := 0) (r_listAt1 hq) (⟨_, _, _, _, rfl, rfl⟩) oX11_listAt q_833 q_835 q_43 rfl (by omega) (by decide) rfl (Nat.le_of_ble_eq_true rfl) 5 rfl dX11_judge_2 rfl ?_
  refine a_astore_n (lv' := [(3, .ref (g_ad G 34)), (0, .ref (g_ad G 0)), (1, .int 1), (2, .int (nI j))]) 6 rfl dX11_judge_5 rfl (by decide) rfl ?_
  refine a_aload_n 1 7 rfl dX11_judge_6 rfl rfl ?_
  refine a_get 2 cl_10 f_RX11_28_10 (by decide) (rfl) rfl 10 rfl dX11_judge_7 ?_
  refine a_iload_n 3 11 rfl dX11_judge_10 rfl rfl ?_
  refine a_callVN (as := [.int (nI j)]) (rest := []) (st2 := [.ref (g_ad G (38 + o))]) (u1 := 0) (v1 := 0) (u2 := 0) (v2 := 0) (r_at_in hf) (⟨_, _, _, _, rfl, rfl⟩) oX4_at q_446 q_448 q_9 rfl (by omega) (by decide) rfl (Nat.le_of_ble_eq_true rfl) 14 rfl dX11_judge_11 rfl ?_
  refine a_astore (lv' := [(4, .ref (g_ad G (38 + o))), (3, .ref (g_ad G 34)), (0, .ref (g_ad G 0)), (1, .int 1), (2, .int (nI j))]) 16 rfl dX11_judge_14 (by decide) rfl ?_
  refine a_aload_n 1 17 rfl dX11_judge_16 rfl rfl ?_
  refine a_ifnull 20 rfl dX11_judge_17 ?_
  refine a_aload 0 22 rfl dX11_judge_20 rfl ?_
  refine a_ifnonnull 27 dX11_judge_22 (by decide) ?_
  refine a_aload_n 1 28 rfl dX11_judge_27 rfl rfl ?_
  refine a_callVN (as := []) (rest := []) (st2 := [.int (if C.2.1 10 = 0 then 1 else 0)]) (u1 := 0) (v1 := 0) (u2 := 0) (v2 := 0) (r_X8_isMissing rfl) (⟨_, _, _, _, rfl, rfl⟩) oX8_isMissing q_837 q_839 q_44 rfl (by omega) (by decide) rfl (Nat.le_of_ble_eq_true rfl) 31 rfl dX11_judge_28 rfl ?_
  refine a_if_eq 37 34 rfl dX11_judge_31 (by decide) (fun hc => absurd hc ((by rw [if_pos ht]; decide))) (fun _ => ?_)
  refine a_bipush (x := (-11)) 36 rfl dX11_judge_34 (by decide) ?_
  exact a_ireturn .int rfl rfl (rfl) (rfl) dX11_judge_36
theorem r_X11_judge1 (hq : f_qs G C) (hf : f_is G C tl j o T) (hn : C.1 0 ≤ 6) (ht : ¬ C.2.1 10 = 0) (hmn : C.1 16 ≤ 20) : g_Run G mX11_judge 5 0 0 [.ref (g_ad G 0), .int 1, .int (nI j)] (g_hp G C tl) (some (.int (f_judge (C.1 16) (C.2.2.2.2.1 1) (f_so C T) (C.1 0 + 1) 0))) (g_hp G C tl) := by
  have key : ∀ jj ii : Nat, ii + jj = C.1 0 + 1 → g_A G mX11_judge 5 0 0 51 [(7, .int (nI ii)), (5, .long (f_so C T)), (3, .ref (g_ad G 34)), (0, .ref (g_ad G 0))] [] (g_hp G C tl) (some (.int (f_judge (C.1 16) (C.2.2.2.2.1 1) (f_so C T) jj ii))) (g_hp G C tl) := by
    intro jj
    induction jj with
    | zero =>
      intro ii hii
      refine a_iload 0 53 rfl dX11_judge_51 rfl ?_
      refine a_aload_n 3 54 rfl dX11_judge_53 rfl rfl ?_
      refine a_get 0 cl_10 f_RX11_12_10 (by decide) (rfl) rfl 57 rfl dX11_judge_54 ?_
      refine a_callVN (as := []) (rest := [.int (nI ii)]) (st2 := [.int (nI (C.1 0)), .int (nI ii)]) (u1 := 0) (v1 := 0) (u2 := 0) (v2 := 0) (r_X3_elements rfl) (⟨_, _, _, _, rfl, rfl⟩) oX3_elements q_352 q_354 q_0 rfl (by omega) (by decide) rfl (Nat.le_of_ble_eq_true rfl) 60 rfl dX11_judge_57 rfl ?_
      refine a_icmp_gt 109 63 rfl dX11_judge_60 (by decide) (fun _ => ?_) (fun hc => absurd (nI_lt (by omega) (by omega)) hc)
      refine a_bipush (x := (-2)) 111 rfl dX11_judge_109 (by decide) ?_
      exact a_ireturn .int rfl rfl (rfl) (rfl) dX11_judge_111
    | succ jj ih =>
      intro ii hii
      refine a_iload 0 53 rfl dX11_judge_51 rfl ?_
      refine a_aload_n 3 54 rfl dX11_judge_53 rfl rfl ?_
      refine a_get 0 cl_10 f_RX11_12_10 (by decide) (rfl) rfl 57 rfl dX11_judge_54 ?_
      refine a_callVN (as := []) (rest := [.int (nI ii)]) (st2 := [.int (nI (C.1 0)), .int (nI ii)]) (u1 := 0) (v1 := 0) (u2 := 0) (v2 := 0) (r_X3_elements rfl) (⟨_, _, _, _, rfl, rfl⟩) oX3_elements q_352 q_354 q_0 rfl (by omega) (by decide) rfl (Nat.le_of_ble_eq_true rfl) 60 rfl dX11_judge_57 rfl ?_
      refine a_icmp_gt 109 63 rfl dX11_judge_60 (by decide) (fun hc => absurd hc (nI_nlt (by omega) (by omega))) (fun _ => ?_)
      refine a_aload_n 2 64 rfl dX11_judge_63 rfl rfl ?_
      refine a_iload 0 66 rfl dX11_judge_64 rfl ?_
      by_cases hs : C.1 16 ≤ ii
      · skip
        refine a_callVN (as := [.int (nI ii)]) (rest := []) (st2 := [.int 0]) (u1 := 0) (v1 := 0) (u2 := 0) (v2 := 0) (r_X8_hasPlace_out rfl hmn (nI_out (by omega) hs)) (⟨_, _, _, _, rfl, rfl⟩) oX8_hasPlace q_841 q_843 q_45 rfl (by omega) (by decide) rfl (Nat.le_of_ble_eq_true rfl) 69 rfl dX11_judge_66 rfl ?_
        refine a_if_ne 78 72 rfl dX11_judge_69 (by decide) (fun hc => absurd (rfl) hc) (fun _ => ?_)
        refine a_bipush (x := 100) 74 rfl dX11_judge_72 (by decide) ?_
        refine a_iload 0 76 rfl dX11_judge_74 rfl ?_
        refine a_iadd 77 rfl dX11_judge_76 ?_
        exact a_ireturn .int rfl rfl ((by rw [f_judge, if_pos hs, show (100 : Int32) = nI 100 from rfl, nI_add])) (rfl) dX11_judge_77
      · skip
        refine a_callVN (as := [.int (nI ii)]) (rest := []) (st2 := [.int 1]) (u1 := 0) (v1 := 0) (u2 := 0) (v2 := 0) (r_X8_hasPlace_in rfl rfl hmn (by omega)) (⟨_, _, _, _, rfl, rfl⟩) oX8_hasPlace q_841 q_843 q_45 rfl (by omega) (by decide) rfl (Nat.le_of_ble_eq_true rfl) 69 rfl dX11_judge_66 rfl ?_
        refine a_if_ne 78 72 rfl dX11_judge_69 (by decide) (fun _ => ?_) (fun hc => absurd hc ((by decide)))
        refine a_aload_n 2 79 rfl dX11_judge_78 rfl rfl ?_
        refine a_iload 0 81 rfl dX11_judge_79 rfl ?_
        refine a_callVN (as := [.int (nI ii)]) (rest := []) (st2 := [.long (C.2.2.2.2.1 1 ii)]) (u1 := 0) (v1 := 0) (u2 := 0) (v2 := 0) (r_X8_at_in rfl rfl hmn (by omega)) (⟨_, _, _, _, rfl, rfl⟩) oX8_at q_845 q_847 q_46 rfl (by omega) (by decide) rfl (Nat.le_of_ble_eq_true rfl) 84 rfl dX11_judge_81 rfl ?_
        refine a_aload_n 3 85 rfl dX11_judge_84 rfl rfl ?_
        refine a_get 0 cl_10 f_RX11_12_10 (by decide) (rfl) rfl 88 rfl dX11_judge_85 ?_
        refine a_lload 1 90 rfl dX11_judge_88 rfl ?_
        refine a_iload 0 92 rfl dX11_judge_90 rfl ?_
        refine a_callVN (as := [.long (f_so C T), .int (nI ii)]) (rest := [.long (C.2.2.2.2.1 1 ii)]) (st2 := [.int (f_bcL (f_so C T &&& f_ofSize (nI ii) 64)), .long (C.2.2.2.2.1 1 ii)]) (u1 := 0) (v1 := 0) (u2 := 0) (v2 := 0) (r_X3_manyOfSize (n := C.1 0) rfl) (⟨_, _, _, _, rfl, rfl⟩) oX3_manyOfSize q_560 q_562 q_26 rfl (by omega) (by decide) rfl (Nat.le_of_ble_eq_true rfl) 95 rfl dX11_judge_92 rfl ?_
        refine a_i2l 96 rfl dX11_judge_95 ?_
        refine a_lcmp 97 rfl dX11_judge_96 ?_
        by_cases he : C.2.2.2.2.1 1 ii = (f_bcL (f_so C T &&& f_ofSize (nI ii) 64)).toInt64
        · skip
          refine a_if_eq 103 100 rfl dX11_judge_97 (by decide) (fun _ => ?_) (fun hc => absurd ((g_cmp_eq.mpr he)) hc)
          refine a_iinc (y := nI (ii + 1)) (lv' := [(7, .int (nI (ii + 1))), (5, .long (f_so C T)), (3, .ref (g_ad G 34)), (0, .ref (g_ad G 0))]) 0 106 rfl dX11_judge_103 rfl (nI_1 ii) (by decide) rfl ?_
          refine a_goto 51 dX11_judge_106 (by decide) ?_
          rw [f_judge, if_neg hs, if_pos he]
          exact ih (ii + 1) (by omega)
        · skip
          refine a_if_eq 103 100 rfl dX11_judge_97 (by decide) (fun hc => absurd hc ((g_cmp_ne.mpr he))) (fun _ => ?_)
          refine a_iload 0 102 rfl dX11_judge_100 rfl ?_
          exact a_ireturn .int rfl rfl ((by rw [f_judge, if_neg hs, if_neg he])) (rfl) dX11_judge_102
  refine g_Run.of (lv := [(0, .ref (g_ad G 0)), (1, .int 1), (2, .int (nI j))]) (by decide) (Nat.le_of_ble_eq_true rfl) rfl ?_
  refine a_aload_n 0 1 rfl dX11_judge_0 rfl rfl ?_
  refine a_iload_n 1 2 rfl dX11_judge_1 rfl rfl ?_
  refine a_callV (as := [.int 1]) (rest := []) (st2 := [.ref (g_ad G 34)]) (u1 := 0) (v1 := 0) (u2 := 0) (v2 := 0) (r_listAt1 hq) (⟨_, _, _, _, rfl, rfl⟩) oX11_listAt q_833 q_835 q_43 rfl (by omega) (by decide) rfl (Nat.le_of_ble_eq_true rfl) 5 rfl dX11_judge_2 rfl ?_
  refine a_astore_n (lv' := [(3, .ref (g_ad G 34)), (0, .ref (g_ad G 0)), (1, .int 1), (2, .int (nI j))]) 6 rfl dX11_judge_5 rfl (by decide) rfl ?_
  refine a_aload_n 1 7 rfl dX11_judge_6 rfl rfl ?_
  refine a_get 2 cl_10 f_RX11_28_10 (by decide) (rfl) rfl 10 rfl dX11_judge_7 ?_
  refine a_iload_n 3 11 rfl dX11_judge_10 rfl rfl ?_
  refine a_callVN (as := [.int (nI j)]) (rest := []) (st2 := [.ref (g_ad G (38 + o))]) (u1 := 0) (v1 := 0) (u2 := 0) (v2 := 0) (r_at_in hf) (⟨_, _, _, _, rfl, rfl⟩) oX4_at q_446 q_448 q_9 rfl (by omega) (by decide) rfl (Nat.le_of_ble_eq_true rfl) 14 rfl dX11_judge_11 rfl ?_
  refine a_astore (lv' := [(4, .ref (g_ad G (38 + o))), (3, .ref (g_ad G 34)), (0, .ref (g_ad G 0)), (1, .int 1), (2, .int (nI j))]) 16 rfl dX11_judge_14 (by decide) rfl ?_
  refine a_aload_n 1 17 rfl dX11_judge_16 rfl rfl ?_
  refine a_ifnull 20 rfl dX11_judge_17 ?_
  refine a_aload 0 22 rfl dX11_judge_20 rfl ?_
  refine a_ifnonnull 27 dX11_judge_22 (by decide) ?_
  refine a_aload_n 1 28 rfl dX11_judge_27 rfl rfl ?_
  refine a_callVN (as := []) (rest := []) (st2 := [.int (if C.2.1 10 = 0 then 1 else 0)]) (u1 := 0) (v1 := 0) (u2 := 0) (v2 := 0) (r_X8_isMissing rfl) (⟨_, _, _, _, rfl, rfl⟩) oX8_isMissing q_837 q_839 q_44 rfl (by omega) (by decide) rfl (Nat.le_of_ble_eq_true rfl) 31 rfl dX11_judge_28 rfl ?_
  refine a_if_eq 37 34 rfl dX11_judge_31 (by decide) (fun _ => ?_) (fun hc => absurd ((by rw [if_neg ht])) hc)
  refine a_aload_n 2 38 rfl dX11_judge_37 rfl rfl ?_
  refine a_get 0 cl_10 f_RX11_12_10 (by decide) (rfl) rfl 41 rfl dX11_judge_38 ?_
  refine a_aload 0 43 rfl dX11_judge_41 rfl ?_
  refine a_callVN (as := [.ref (g_ad G (38 + o))]) (rest := []) (st2 := [.long (f_so C T)]) (u1 := 0) (v1 := 0) (u2 := 0) (v2 := 0) (r_so hf hn) (⟨_, _, _, _, rfl, rfl⟩) oX3_setsOf q_467 q_469 q_13 rfl (by omega) (by decide) rfl (Nat.le_of_ble_eq_true rfl) 46 rfl dX11_judge_43 rfl ?_
  refine a_lstore (lv' := [(5, .long (f_so C T)), (4, .ref (g_ad G (38 + o))), (3, .ref (g_ad G 34)), (0, .ref (g_ad G 0)), (1, .int 1), (2, .int (nI j))]) 48 rfl dX11_judge_46 (by decide) rfl ?_
  refine a_iconst (x := 0) 49 rfl dX11_judge_48 (by decide) ?_
  refine a_istore (lv' := [(7, .int 0), (5, .long (f_so C T)), (4, .ref (g_ad G (38 + o))), (3, .ref (g_ad G 34)), (0, .ref (g_ad G 0)), (1, .int 1), (2, .int (nI j))]) 51 rfl dX11_judge_49 (by decide) rfl ?_
  refine a_sub (lv' := [(7, .int (nI 0)), (5, .long (f_so C T)), (3, .ref (g_ad G 34)), (0, .ref (g_ad G 0))]) [0, 1, 3, 4] rfl ?_
  exact key _ _ (by omega)

theorem r_X11_judge2_bad (hq : f_qs G C) (hm : C.1 3 ≤ 8) (hi3 : ¬ vp_in y2 (C.1 3)) : g_Run G mX11_judge 5 0 0 [.ref (g_ad G 0), .int 2, .int y2] (g_hp G C tl) (some (.int (-1))) (g_hp G C tl) := by
  refine g_Run.of (lv := [(0, .ref (g_ad G 0)), (1, .int 2), (2, .int y2)]) (by decide) (Nat.le_of_ble_eq_true rfl) rfl ?_
  refine a_aload_n 0 1 rfl dX11_judge_0 rfl rfl ?_
  refine a_iload_n 1 2 rfl dX11_judge_1 rfl rfl ?_
  refine a_callV (as := [.int 2]) (rest := []) (st2 := [.ref (g_ad G 36)]) (u1 := 0) (v1 := 0) (u2 := 0) (v2 := 0) (r_listAt2 hq) (⟨_, _, _, _, rfl, rfl⟩) oX11_listAt q_833 q_835 q_43 rfl (by omega) (by decide) rfl (Nat.le_of_ble_eq_true rfl) 5 rfl dX11_judge_2 rfl ?_
  refine a_astore_n (lv' := [(3, .ref (g_ad G 36)), (0, .ref (g_ad G 0)), (1, .int 2), (2, .int y2)]) 6 rfl dX11_judge_5 rfl (by decide) rfl ?_
  refine a_aload_n 1 7 rfl dX11_judge_6 rfl rfl ?_
  refine a_get 2 cl_10 f_RX11_28_10 (by decide) (rfl) rfl 10 rfl dX11_judge_7 ?_
  refine a_iload_n 3 11 rfl dX11_judge_10 rfl rfl ?_
  refine a_callVN (as := [.int y2]) (rest := []) (st2 := [.null]) (u1 := 0) (v1 := 0) (u2 := 0) (v2 := 0) (r_at_out hm hi3) (⟨_, _, _, _, rfl, rfl⟩) oX4_at q_446 q_448 q_9 rfl (by omega) (by decide) rfl (Nat.le_of_ble_eq_true rfl) 14 rfl dX11_judge_11 rfl ?_
  refine a_astoreN (lv' := [(4, .null), (3, .ref (g_ad G 36)), (0, .ref (g_ad G 0)), (1, .int 2), (2, .int y2)]) 16 rfl dX11_judge_14 (by decide) rfl ?_
  refine a_aload_n 1 17 rfl dX11_judge_16 rfl rfl ?_
  refine a_ifnull 20 rfl dX11_judge_17 ?_
  refine a_aloadN 0 22 rfl dX11_judge_20 rfl ?_
  refine a_ifnonnullN 25 rfl dX11_judge_22 ?_
  refine a_iconst (x := (-1)) 26 rfl dX11_judge_25 (by decide) ?_
  exact a_ireturn .int rfl rfl (rfl) (rfl) dX11_judge_26
theorem r_X11_judge2_miss (hq : f_qs G C) (hf : f_is G C tl j o T) (ht : C.2.1 11 = 0) : g_Run G mX11_judge 5 0 0 [.ref (g_ad G 0), .int 2, .int (nI j)] (g_hp G C tl) (some (.int (-11))) (g_hp G C tl) := by
  refine g_Run.of (lv := [(0, .ref (g_ad G 0)), (1, .int 2), (2, .int (nI j))]) (by decide) (Nat.le_of_ble_eq_true rfl) rfl ?_
  refine a_aload_n 0 1 rfl dX11_judge_0 rfl rfl ?_
  refine a_iload_n 1 2 rfl dX11_judge_1 rfl rfl ?_
  refine a_callV (as := [.int 2]) (rest := []) (st2 := [.ref (g_ad G 36)]) (u1 := 0) (v1 := 0) (u2 := 0) (v2 := 0) (r_listAt2 hq) (⟨_, _, _, _, rfl, rfl⟩) oX11_listAt q_833 q_835 q_43 rfl (by omega) (by decide) rfl (Nat.le_of_ble_eq_true rfl) 5 rfl dX11_judge_2 rfl ?_
  refine a_astore_n (lv' := [(3, .ref (g_ad G 36)), (0, .ref (g_ad G 0)), (1, .int 2), (2, .int (nI j))]) 6 rfl dX11_judge_5 rfl (by decide) rfl ?_
  refine a_aload_n 1 7 rfl dX11_judge_6 rfl rfl ?_
  refine a_get 2 cl_10 f_RX11_28_10 (by decide) (rfl) rfl 10 rfl dX11_judge_7 ?_
  refine a_iload_n 3 11 rfl dX11_judge_10 rfl rfl ?_
  refine a_callVN (as := [.int (nI j)]) (rest := []) (st2 := [.ref (g_ad G (38 + o))]) (u1 := 0) (v1 := 0) (u2 := 0) (v2 := 0) (r_at_in hf) (⟨_, _, _, _, rfl, rfl⟩) oX4_at q_446 q_448 q_9 rfl (by omega) (by decide) rfl (Nat.le_of_ble_eq_true rfl) 14 rfl dX11_judge_11 rfl ?_
  refine a_astore (lv' := [(4, .ref (g_ad G (38 + o))), (3, .ref (g_ad G 36)), (0, .ref (g_ad G 0)), (1, .int 2), (2, .int (nI j))]) 16 rfl dX11_judge_14 (by decide) rfl ?_
  refine a_aload_n 1 17 rfl dX11_judge_16 rfl rfl ?_
  refine a_ifnull 20 rfl dX11_judge_17 ?_
  refine a_aload 0 22 rfl dX11_judge_20 rfl ?_
  refine a_ifnonnull 27 dX11_judge_22 (by decide) ?_
  refine a_aload_n 1 28 rfl dX11_judge_27 rfl rfl ?_
  refine a_callVN (as := []) (rest := []) (st2 := [.int (if C.2.1 11 = 0 then 1 else 0)]) (u1 := 0) (v1 := 0) (u2 := 0) (v2 := 0) (r_X8_isMissing rfl) (⟨_, _, _, _, rfl, rfl⟩) oX8_isMissing q_837 q_839 q_44 rfl (by omega) (by decide) rfl (Nat.le_of_ble_eq_true rfl) 31 rfl dX11_judge_28 rfl ?_
  refine a_if_eq 37 34 rfl dX11_judge_31 (by decide) (fun hc => absurd hc ((by rw [if_pos ht]; decide))) (fun _ => ?_)
  refine a_bipush (x := (-11)) 36 rfl dX11_judge_34 (by decide) ?_
  exact a_ireturn .int rfl rfl (rfl) (rfl) dX11_judge_36
theorem r_X11_judge2 (hq : f_qs G C) (hf : f_is G C tl j o T) (hn : C.1 0 ≤ 6) (ht : ¬ C.2.1 11 = 0) (hmn : C.1 17 ≤ 20) : g_Run G mX11_judge 5 0 0 [.ref (g_ad G 0), .int 2, .int (nI j)] (g_hp G C tl) (some (.int (f_judge (C.1 17) (C.2.2.2.2.1 2) (f_so C T) (C.1 0 + 1) 0))) (g_hp G C tl) := by
  have key : ∀ jj ii : Nat, ii + jj = C.1 0 + 1 → g_A G mX11_judge 5 0 0 51 [(7, .int (nI ii)), (5, .long (f_so C T)), (3, .ref (g_ad G 36)), (0, .ref (g_ad G 0))] [] (g_hp G C tl) (some (.int (f_judge (C.1 17) (C.2.2.2.2.1 2) (f_so C T) jj ii))) (g_hp G C tl) := by
    intro jj
    induction jj with
    | zero =>
      intro ii hii
      refine a_iload 0 53 rfl dX11_judge_51 rfl ?_
      refine a_aload_n 3 54 rfl dX11_judge_53 rfl rfl ?_
      refine a_get 0 cl_10 f_RX11_12_10 (by decide) (rfl) rfl 57 rfl dX11_judge_54 ?_
      refine a_callVN (as := []) (rest := [.int (nI ii)]) (st2 := [.int (nI (C.1 0)), .int (nI ii)]) (u1 := 0) (v1 := 0) (u2 := 0) (v2 := 0) (r_X3_elements rfl) (⟨_, _, _, _, rfl, rfl⟩) oX3_elements q_352 q_354 q_0 rfl (by omega) (by decide) rfl (Nat.le_of_ble_eq_true rfl) 60 rfl dX11_judge_57 rfl ?_
      refine a_icmp_gt 109 63 rfl dX11_judge_60 (by decide) (fun _ => ?_) (fun hc => absurd (nI_lt (by omega) (by omega)) hc)
      refine a_bipush (x := (-2)) 111 rfl dX11_judge_109 (by decide) ?_
      exact a_ireturn .int rfl rfl (rfl) (rfl) dX11_judge_111
    | succ jj ih =>
      intro ii hii
      refine a_iload 0 53 rfl dX11_judge_51 rfl ?_
      refine a_aload_n 3 54 rfl dX11_judge_53 rfl rfl ?_
      refine a_get 0 cl_10 f_RX11_12_10 (by decide) (rfl) rfl 57 rfl dX11_judge_54 ?_
      refine a_callVN (as := []) (rest := [.int (nI ii)]) (st2 := [.int (nI (C.1 0)), .int (nI ii)]) (u1 := 0) (v1 := 0) (u2 := 0) (v2 := 0) (r_X3_elements rfl) (⟨_, _, _, _, rfl, rfl⟩) oX3_elements q_352 q_354 q_0 rfl (by omega) (by decide) rfl (Nat.le_of_ble_eq_true rfl) 60 rfl dX11_judge_57 rfl ?_
      refine a_icmp_gt 109 63 rfl dX11_judge_60 (by decide) (fun hc => absurd hc (nI_nlt (by omega) (by omega))) (fun _ => ?_)
      refine a_aload_n 2 64 rfl dX11_judge_63 rfl rfl ?_
      refine a_iload 0 66 rfl dX11_judge_64 rfl ?_
      by_cases hs : C.1 17 ≤ ii
      · skip
        refine a_callVN (as := [.int (nI ii)]) (rest := []) (st2 := [.int 0]) (u1 := 0) (v1 := 0) (u2 := 0) (v2 := 0) (r_X8_hasPlace_out rfl hmn (nI_out (by omega) hs)) (⟨_, _, _, _, rfl, rfl⟩) oX8_hasPlace q_841 q_843 q_45 rfl (by omega) (by decide) rfl (Nat.le_of_ble_eq_true rfl) 69 rfl dX11_judge_66 rfl ?_
        refine a_if_ne 78 72 rfl dX11_judge_69 (by decide) (fun hc => absurd (rfl) hc) (fun _ => ?_)
        refine a_bipush (x := 100) 74 rfl dX11_judge_72 (by decide) ?_
        refine a_iload 0 76 rfl dX11_judge_74 rfl ?_
        refine a_iadd 77 rfl dX11_judge_76 ?_
        exact a_ireturn .int rfl rfl ((by rw [f_judge, if_pos hs, show (100 : Int32) = nI 100 from rfl, nI_add])) (rfl) dX11_judge_77
      · skip
        refine a_callVN (as := [.int (nI ii)]) (rest := []) (st2 := [.int 1]) (u1 := 0) (v1 := 0) (u2 := 0) (v2 := 0) (r_X8_hasPlace_in rfl rfl hmn (by omega)) (⟨_, _, _, _, rfl, rfl⟩) oX8_hasPlace q_841 q_843 q_45 rfl (by omega) (by decide) rfl (Nat.le_of_ble_eq_true rfl) 69 rfl dX11_judge_66 rfl ?_
        refine a_if_ne 78 72 rfl dX11_judge_69 (by decide) (fun _ => ?_) (fun hc => absurd hc ((by decide)))
        refine a_aload_n 2 79 rfl dX11_judge_78 rfl rfl ?_
        refine a_iload 0 81 rfl dX11_judge_79 rfl ?_
        refine a_callVN (as := [.int (nI ii)]) (rest := []) (st2 := [.long (C.2.2.2.2.1 2 ii)]) (u1 := 0) (v1 := 0) (u2 := 0) (v2 := 0) (r_X8_at_in rfl rfl hmn (by omega)) (⟨_, _, _, _, rfl, rfl⟩) oX8_at q_845 q_847 q_46 rfl (by omega) (by decide) rfl (Nat.le_of_ble_eq_true rfl) 84 rfl dX11_judge_81 rfl ?_
        refine a_aload_n 3 85 rfl dX11_judge_84 rfl rfl ?_
        refine a_get 0 cl_10 f_RX11_12_10 (by decide) (rfl) rfl 88 rfl dX11_judge_85 ?_
        refine a_lload 1 90 rfl dX11_judge_88 rfl ?_
        refine a_iload 0 92 rfl dX11_judge_90 rfl ?_
        refine a_callVN (as := [.long (f_so C T), .int (nI ii)]) (rest := [.long (C.2.2.2.2.1 2 ii)]) (st2 := [.int (f_bcL (f_so C T &&& f_ofSize (nI ii) 64)), .long (C.2.2.2.2.1 2 ii)]) (u1 := 0) (v1 := 0) (u2 := 0) (v2 := 0) (r_X3_manyOfSize (n := C.1 0) rfl) (⟨_, _, _, _, rfl, rfl⟩) oX3_manyOfSize q_560 q_562 q_26 rfl (by omega) (by decide) rfl (Nat.le_of_ble_eq_true rfl) 95 rfl dX11_judge_92 rfl ?_
        refine a_i2l 96 rfl dX11_judge_95 ?_
        refine a_lcmp 97 rfl dX11_judge_96 ?_
        by_cases he : C.2.2.2.2.1 2 ii = (f_bcL (f_so C T &&& f_ofSize (nI ii) 64)).toInt64
        · skip
          refine a_if_eq 103 100 rfl dX11_judge_97 (by decide) (fun _ => ?_) (fun hc => absurd ((g_cmp_eq.mpr he)) hc)
          refine a_iinc (y := nI (ii + 1)) (lv' := [(7, .int (nI (ii + 1))), (5, .long (f_so C T)), (3, .ref (g_ad G 36)), (0, .ref (g_ad G 0))]) 0 106 rfl dX11_judge_103 rfl (nI_1 ii) (by decide) rfl ?_
          refine a_goto 51 dX11_judge_106 (by decide) ?_
          rw [f_judge, if_neg hs, if_pos he]
          exact ih (ii + 1) (by omega)
        · skip
          refine a_if_eq 103 100 rfl dX11_judge_97 (by decide) (fun hc => absurd hc ((g_cmp_ne.mpr he))) (fun _ => ?_)
          refine a_iload 0 102 rfl dX11_judge_100 rfl ?_
          exact a_ireturn .int rfl rfl ((by rw [f_judge, if_neg hs, if_neg he])) (rfl) dX11_judge_102
  refine g_Run.of (lv := [(0, .ref (g_ad G 0)), (1, .int 2), (2, .int (nI j))]) (by decide) (Nat.le_of_ble_eq_true rfl) rfl ?_
  refine a_aload_n 0 1 rfl dX11_judge_0 rfl rfl ?_
  refine a_iload_n 1 2 rfl dX11_judge_1 rfl rfl ?_
  refine a_callV (as := [.int 2]) (rest := []) (st2 := [.ref (g_ad G 36)]) (u1 := 0) (v1 := 0) (u2 := 0) (v2 := 0) (r_listAt2 hq) (⟨_, _, _, _, rfl, rfl⟩) oX11_listAt q_833 q_835 q_43 rfl (by omega) (by decide) rfl (Nat.le_of_ble_eq_true rfl) 5 rfl dX11_judge_2 rfl ?_
  refine a_astore_n (lv' := [(3, .ref (g_ad G 36)), (0, .ref (g_ad G 0)), (1, .int 2), (2, .int (nI j))]) 6 rfl dX11_judge_5 rfl (by decide) rfl ?_
  refine a_aload_n 1 7 rfl dX11_judge_6 rfl rfl ?_
  refine a_get 2 cl_10 f_RX11_28_10 (by decide) (rfl) rfl 10 rfl dX11_judge_7 ?_
  refine a_iload_n 3 11 rfl dX11_judge_10 rfl rfl ?_
  refine a_callVN (as := [.int (nI j)]) (rest := []) (st2 := [.ref (g_ad G (38 + o))]) (u1 := 0) (v1 := 0) (u2 := 0) (v2 := 0) (r_at_in hf) (⟨_, _, _, _, rfl, rfl⟩) oX4_at q_446 q_448 q_9 rfl (by omega) (by decide) rfl (Nat.le_of_ble_eq_true rfl) 14 rfl dX11_judge_11 rfl ?_
  refine a_astore (lv' := [(4, .ref (g_ad G (38 + o))), (3, .ref (g_ad G 36)), (0, .ref (g_ad G 0)), (1, .int 2), (2, .int (nI j))]) 16 rfl dX11_judge_14 (by decide) rfl ?_
  refine a_aload_n 1 17 rfl dX11_judge_16 rfl rfl ?_
  refine a_ifnull 20 rfl dX11_judge_17 ?_
  refine a_aload 0 22 rfl dX11_judge_20 rfl ?_
  refine a_ifnonnull 27 dX11_judge_22 (by decide) ?_
  refine a_aload_n 1 28 rfl dX11_judge_27 rfl rfl ?_
  refine a_callVN (as := []) (rest := []) (st2 := [.int (if C.2.1 11 = 0 then 1 else 0)]) (u1 := 0) (v1 := 0) (u2 := 0) (v2 := 0) (r_X8_isMissing rfl) (⟨_, _, _, _, rfl, rfl⟩) oX8_isMissing q_837 q_839 q_44 rfl (by omega) (by decide) rfl (Nat.le_of_ble_eq_true rfl) 31 rfl dX11_judge_28 rfl ?_
  refine a_if_eq 37 34 rfl dX11_judge_31 (by decide) (fun _ => ?_) (fun hc => absurd ((by rw [if_neg ht])) hc)
  refine a_aload_n 2 38 rfl dX11_judge_37 rfl rfl ?_
  refine a_get 0 cl_10 f_RX11_12_10 (by decide) (rfl) rfl 41 rfl dX11_judge_38 ?_
  refine a_aload 0 43 rfl dX11_judge_41 rfl ?_
  refine a_callVN (as := [.ref (g_ad G (38 + o))]) (rest := []) (st2 := [.long (f_so C T)]) (u1 := 0) (v1 := 0) (u2 := 0) (v2 := 0) (r_so hf hn) (⟨_, _, _, _, rfl, rfl⟩) oX3_setsOf q_467 q_469 q_13 rfl (by omega) (by decide) rfl (Nat.le_of_ble_eq_true rfl) 46 rfl dX11_judge_43 rfl ?_
  refine a_lstore (lv' := [(5, .long (f_so C T)), (4, .ref (g_ad G (38 + o))), (3, .ref (g_ad G 36)), (0, .ref (g_ad G 0)), (1, .int 2), (2, .int (nI j))]) 48 rfl dX11_judge_46 (by decide) rfl ?_
  refine a_iconst (x := 0) 49 rfl dX11_judge_48 (by decide) ?_
  refine a_istore (lv' := [(7, .int 0), (5, .long (f_so C T)), (4, .ref (g_ad G (38 + o))), (3, .ref (g_ad G 36)), (0, .ref (g_ad G 0)), (1, .int 2), (2, .int (nI j))]) 51 rfl dX11_judge_49 (by decide) rfl ?_
  refine a_sub (lv' := [(7, .int (nI 0)), (5, .long (f_so C T)), (3, .ref (g_ad G 36)), (0, .ref (g_ad G 0))]) [0, 1, 3, 4] rfl ?_
  exact key _ _ (by omega)

end SE1
