/-! The model's sets: mirrored, parts, sets of kinds, shadows -/
section MS1
variable {G : g_G} {C : f_C} {M : f_M} {ob h : List va_E} {x : Int64} {y y2 : Int32} {s : Nat}
def f_mirM (n s : Nat) : Nat → Nat
  | 0 => 0
  | t + 1 => f_mirM n s t ||| cond (Nat.testBit s t) (2 ^ (n - 1 - t)) 0
theorem r_mirM (hn : M.1 0 ≤ 6) (hs : s < 64) : g_Run G mX12_mirrored 2 0 0 [.ref (g_ad G 38), .int (nI s)] (g_hp G C (g_hm G M ++ ob)) (some (.int (nI (f_mirM (M.1 0) s (M.1 0))))) (g_hp G C (g_hm G M ++ ob)) := by
  refine g_Run.of (lv := [(0, .ref (g_ad G 38)), (1, .int (nI s))]) (by decide) (Nat.le_of_ble_eq_true rfl) rfl ?_
  refine a_iconst (x := 0) 1 rfl dX12_mirrored_0 (by decide) ?_
  refine a_istore_n (lv' := [(2, .int 0), (0, .ref (g_ad G 38)), (1, .int (nI s))]) 2 rfl dX12_mirrored_1 rfl (by decide) rfl ?_
  refine a_iconst (x := 0) 3 rfl dX12_mirrored_2 (by decide) ?_
  refine a_istore_n (lv' := [(3, .int 0), (2, .int 0), (0, .ref (g_ad G 38)), (1, .int (nI s))]) 4 rfl dX12_mirrored_3 rfl (by decide) rfl ?_
  refine a_sub (lv' := [(3, .int (nI 0)), (2, .int (nI (f_mirM (M.1 0) s 0))), (0, .ref (g_ad G 38)), (1, .int (nI s))]) [0, 1, 2, 3] rfl ?_
  refine g_for (P := fun t9 => True) (M.1 0) (fun t9 => [(3, .int (nI t9)), (2, .int (nI (f_mirM (M.1 0) s t9))), (0, .ref (g_ad G 38)), (1, .int (nI s))]) (fun t9 => (g_hp G C (g_hm G M ++ ob))) (trivial) (fun t9 h_t9 p_t9 k_t9 => ?_) (fun p_t9 => ?_)
  · skip
    refine a_iload_n 0 5 rfl dX12_mirrored_4 rfl rfl ?_
    refine a_aload_n 2 6 rfl dX12_mirrored_5 rfl rfl ?_
    refine a_get 0 cl_11 f_RX12_9_11 (by decide) (rfl) rfl 9 rfl dX12_mirrored_6 ?_
    refine a_icmp_ge 44 12 rfl dX12_mirrored_9 (by decide) (fun hc => absurd hc (nI_ge (by omega) (by omega))) (fun _ => ?_)
    refine a_iload_n 1 13 rfl dX12_mirrored_12 rfl rfl ?_
    refine a_iload_n 3 14 rfl dX12_mirrored_13 rfl rfl ?_
    refine a_iload_n 0 15 rfl dX12_mirrored_14 rfl rfl ?_
    refine a_ishr 16 rfl dX12_mirrored_15 ?_
    refine a_iconst (x := 1) 17 rfl dX12_mirrored_16 (by decide) ?_
    refine a_iand 18 rfl dX12_mirrored_17 ?_
    refine a_eq (st2 := [.int (f_i (Nat.testBit s t9)), .int (nI (f_mirM (M.1 0) s t9))]) rfl rfl (congrArg (fun z9 => Value.int z9 :: [.int (nI (f_mirM (M.1 0) s t9))]) (f_tbI (s := s) (e := t9) (by omega) (by omega))) rfl ?_
    refine a_iconst (x := 1) 19 rfl dX12_mirrored_18 (by decide) ?_
    refine g_sfx (pc := 36) (lv := [(3, .int (nI t9)), (2, .int (nI (f_mirM (M.1 0) s t9))), (0, .ref (g_ad G 38)), (1, .int (nI s))]) (st := [.int (nI (cond (Nat.testBit s t9) (2 ^ (((M.1 0) - 1) - t9)) 0)), .int (nI (f_mirM (M.1 0) s t9))]) (h := (g_hp G C (g_hm G M ++ ob))) (fun key => ?_) ?_
    · skip
      rcases Bool.eq_false_or_eq_true ((Nat.testBit s t9)) with c19_1 | c19_1
      · skip
        refine a_icmp_ne 35 22 rfl dX12_mirrored_19 (by decide) (fun hc => absurd (f_i_T1 c19_1) hc) (fun _ => ?_)
        refine a_iconst (x := 1) 23 rfl dX12_mirrored_22 (by decide) ?_
        refine a_aload_n 2 24 rfl dX12_mirrored_23 rfl rfl ?_
        refine a_get 0 cl_11 f_RX12_9_11 (by decide) (rfl) rfl 27 rfl dX12_mirrored_24 ?_
        refine a_iconst (x := 1) 28 rfl dX12_mirrored_27 (by decide) ?_
        refine a_isub 29 rfl dX12_mirrored_28 ?_
        refine a_eq (st2 := [.int (nI ((M.1 0) - 1)), .int 1, .int (nI (f_mirM (M.1 0) s t9))]) rfl rfl (congrArg (fun z9 => Value.int z9 :: [.int 1, .int (nI (f_mirM (M.1 0) s t9))]) (pk_sub (a := (M.1 0)) (b := 1) (by omega))) rfl ?_
        refine a_iload_n 0 30 rfl dX12_mirrored_29 rfl rfl ?_
        refine a_isub 31 rfl dX12_mirrored_30 ?_
        refine a_eq (st2 := [.int (nI (((M.1 0) - 1) - t9)), .int 1, .int (nI (f_mirM (M.1 0) s t9))]) rfl rfl (congrArg (fun z9 => Value.int z9 :: [.int 1, .int (nI (f_mirM (M.1 0) s t9))]) (pk_sub (a := ((M.1 0) - 1)) (b := t9) (by omega))) rfl ?_
        refine a_ishl 32 rfl dX12_mirrored_31 ?_
        refine a_eq (st2 := [.int (nI (2 ^ (((M.1 0) - 1) - t9))), .int (nI (f_mirM (M.1 0) s t9))]) rfl rfl (congrArg (fun z9 => Value.int z9 :: [.int (nI (f_mirM (M.1 0) s t9))]) (f_shlI (((M.1 0) - 1) - t9) (by omega))) rfl ?_
        refine a_goto 36 dX12_mirrored_32 (by decide) ?_
        exact a_eq rfl (rfl) (by rw [c19_1]; rfl) rfl key
      · skip
        refine a_icmp_ne 35 22 rfl dX12_mirrored_19 (by decide) (fun _ => ?_) (fun hc => absurd hc (f_i_F1 c19_1))
        refine a_iconst (x := 0) 36 rfl dX12_mirrored_35 (by decide) ?_
        exact a_eq rfl (rfl) (by rw [c19_1]; rfl) rfl key
    refine a_ior 37 rfl dX12_mirrored_36 ?_
    refine a_eq (st2 := [.int (nI ((f_mirM (M.1 0) s t9) ||| (cond (Nat.testBit s t9) (2 ^ (((M.1 0) - 1) - t9)) 0)))]) rfl rfl (congrArg (fun z9 => Value.int z9 :: []) (nI_or (f_mirM (M.1 0) s t9) (cond (Nat.testBit s t9) (2 ^ (((M.1 0) - 1) - t9)) 0))) rfl ?_
    refine a_istore_n (lv' := [(2, .int (nI ((f_mirM (M.1 0) s t9) ||| (cond (Nat.testBit s t9) (2 ^ (((M.1 0) - 1) - t9)) 0)))), (3, .int (nI t9)), (0, .ref (g_ad G 38)), (1, .int (nI s))]) 38 rfl dX12_mirrored_37 rfl (by decide) rfl ?_
    refine a_iinc (y := nI (t9 + 1)) (lv' := [(3, .int (nI (t9 + 1))), (2, .int (nI ((f_mirM (M.1 0) s t9) ||| (cond (Nat.testBit s t9) (2 ^ (((M.1 0) - 1) - t9)) 0)))), (0, .ref (g_ad G 38)), (1, .int (nI s))]) 1 41 rfl dX12_mirrored_38 rfl (nI_1 t9) (by decide) rfl ?_
    refine a_goto 4 dX12_mirrored_41 (by decide) ?_
    refine a_sub (lv' := [(3, .int (nI (t9 + 1))), (2, .int (nI (f_mirM (M.1 0) s (t9 + 1)))), (0, .ref (g_ad G 38)), (1, .int (nI s))]) [0, 1, 2, 3] rfl ?_
    exact k_t9 trivial
  · skip
    refine a_iload_n 0 5 rfl dX12_mirrored_4 rfl rfl ?_
    refine a_aload_n 2 6 rfl dX12_mirrored_5 rfl rfl ?_
    refine a_get 0 cl_11 f_RX12_9_11 (by decide) (rfl) rfl 9 rfl dX12_mirrored_6 ?_
    refine a_icmp_ge 44 12 rfl dX12_mirrored_9 (by decide) (fun _ => ?_) (fun hc => absurd (nI_le (by omega) (by omega)) hc)
    refine a_iload_n 1 45 rfl dX12_mirrored_44 rfl rfl ?_
    exact a_ireturn .int rfl rfl (rfl) (rfl) dX12_mirrored_45
theorem r_partM (hn : M.1 0 ≤ 6) (hs : s < 64) : g_Run G mX12_isPartOfOne 2 0 0 [.ref (g_ad G 38), .int (nI s), .long x] (g_hp G C (g_hm G M ++ ob)) (some (.int (f_i (f_ex (fun o => f_b x o && decide (s &&& o = s)) (2 ^ M.1 0))))) (g_hp G C (g_hm G M ++ ob)) := by
  have hp : 2 ^ M.1 0 ≤ 64 := Nat.pow_le_pow_right (by decide) hn
  refine g_Run.of (lv := [(0, .ref (g_ad G 38)), (1, .int (nI s)), (2, .long x)]) (by decide) (Nat.le_of_ble_eq_true rfl) rfl ?_
  refine a_iconst (x := 0) 1 rfl dX12_isPartOfOne_0 (by decide) ?_
  refine a_istore (lv' := [(4, .int 0), (0, .ref (g_ad G 38)), (1, .int (nI s)), (2, .long x)]) 3 rfl dX12_isPartOfOne_1 (by decide) rfl ?_
  refine a_sub (lv' := [(4, .int (nI 0)), (0, .ref (g_ad G 38)), (1, .int (nI s)), (2, .long x)]) [0, 1, 2, 3] rfl ?_
  refine g_for (P := fun t9 => f_ex (fun o => f_b x o && decide (s &&& o = s)) t9 = false) (2 ^ M.1 0) (fun t9 => [(4, .int (nI t9)), (0, .ref (g_ad G 38)), (1, .int (nI s)), (2, .long x)]) (fun t9 => (g_hp G C (g_hm G M ++ ob))) (rfl) (fun t9 h_t9 p_t9 k_t9 => ?_) (fun p_t9 => ?_)
  · skip
    refine a_iload 0 5 rfl dX12_isPartOfOne_3 rfl ?_
    refine a_aload_n 1 6 rfl dX12_isPartOfOne_5 rfl rfl ?_
    refine a_callV (as := []) (rest := [.int (nI t9)]) (st2 := [.int (nI (2 ^ M.1 0)), .int (nI t9)]) (u1 := 0) (v1 := 0) (u2 := 0) (v2 := 0) (r_allM hn) (⟨_, _, _, _, rfl, rfl⟩) oX12_all q_1253 q_1255 q_85 rfl (by omega) (by decide) rfl (Nat.le_of_ble_eq_true rfl) 9 rfl dX12_isPartOfOne_6 rfl ?_
    refine a_icmp_ge 37 12 rfl dX12_isPartOfOne_9 (by decide) (fun hc => absurd hc (nI_ge (by omega) (by omega))) (fun _ => ?_)
    refine a_lload_n 3 13 rfl dX12_isPartOfOne_12 rfl rfl ?_
    refine a_iload 0 15 rfl dX12_isPartOfOne_13 rfl ?_
    refine a_callS (as := [.long x, .int (nI t9)]) (rest := []) (st2 := [.int (f_i (f_b x t9))]) (u1 := 0) (v1 := 0) (u2 := 0) (v2 := 0) (r_hasB (s := t9) (by omega)) oX12_has q_1304 q_1305 rfl (by omega) (by decide) rfl (Nat.le_of_ble_eq_true rfl) 18 rfl dX12_isPartOfOne_15 rfl ?_
    rcases Bool.eq_false_or_eq_true (f_b x t9) with e1 | e1
    · skip
      refine a_if_eq 31 21 rfl dX12_isPartOfOne_18 (by decide) (fun hc => absurd hc (f_i_T e1)) (fun _ => ?_)
      refine a_iload_n 2 22 rfl dX12_isPartOfOne_21 rfl rfl ?_
      refine a_iload 0 24 rfl dX12_isPartOfOne_22 rfl ?_
      refine a_iand 25 rfl dX12_isPartOfOne_24 ?_
      refine a_eq (st2 := [.int (nI (s &&& t9))]) rfl rfl (congrArg (fun z9 => Value.int z9 :: []) (nI_and s t9)) rfl ?_
      refine a_iload_n 2 26 rfl dX12_isPartOfOne_25 rfl rfl ?_
      have hb : s &&& t9 ≤ s := Nat.and_le_left
      rcases Bool.eq_false_or_eq_true (decide ((s &&& t9) = s)) with e2 | e2
      · skip
        refine a_icmp_ne 31 29 rfl dX12_isPartOfOne_26 (by decide) (fun hc => absurd (congrArg nI (of_decide_eq_true e2)) hc) (fun _ => ?_)
        refine a_iconst (x := 1) 30 rfl dX12_isPartOfOne_29 (by decide) ?_
        exact a_ireturn .boolean rfl rfl ((by rw [(f_ex_T _).mpr ⟨t9, h_t9, by show (_ && _) = true; rw [e1, e2]; rfl⟩]; rfl)) (rfl) dX12_isPartOfOne_30
      · skip
        refine a_icmp_ne 31 29 rfl dX12_isPartOfOne_26 (by decide) (fun _ => ?_) (fun hc => absurd hc (fun z9 => of_decide_eq_false e2 (nI_inj9 (a := (s &&& t9)) (b := s) (by omega) (by omega) z9)))
        refine a_iinc (y := nI (t9 + 1)) (lv' := [(4, .int (nI (t9 + 1))), (0, .ref (g_ad G 38)), (1, .int (nI s)), (2, .long x)]) 0 34 rfl dX12_isPartOfOne_31 rfl (nI_1 t9) (by decide) rfl ?_
        refine a_goto 3 dX12_isPartOfOne_34 (by decide) ?_
        refine a_sub (lv' := [(4, .int (nI (t9 + 1))), (0, .ref (g_ad G 38)), (1, .int (nI s)), (2, .long x)]) [0, 1, 2, 3] rfl ?_
        exact k_t9 ((by show (_ || _) = false; rw [p_t9]; show (_ && _) = false; rw [e1, e2]; rfl))
    · skip
      refine a_if_eq 31 21 rfl dX12_isPartOfOne_18 (by decide) (fun _ => ?_) (fun hc => absurd (f_i_F e1) hc)
      refine a_iinc (y := nI (t9 + 1)) (lv' := [(4, .int (nI (t9 + 1))), (0, .ref (g_ad G 38)), (1, .int (nI s)), (2, .long x)]) 0 34 rfl dX12_isPartOfOne_31 rfl (nI_1 t9) (by decide) rfl ?_
      refine a_goto 3 dX12_isPartOfOne_34 (by decide) ?_
      refine a_sub (lv' := [(4, .int (nI (t9 + 1))), (0, .ref (g_ad G 38)), (1, .int (nI s)), (2, .long x)]) [0, 1, 2, 3] rfl ?_
      exact k_t9 ((by show (_ || _) = false; rw [p_t9]; show (_ && _) = false; rw [e1]; rfl))
  · skip
    refine a_iload 0 5 rfl dX12_isPartOfOne_3 rfl ?_
    refine a_aload_n 1 6 rfl dX12_isPartOfOne_5 rfl rfl ?_
    refine a_callV (as := []) (rest := [.int (nI (2 ^ M.1 0))]) (st2 := [.int (nI (2 ^ M.1 0)), .int (nI (2 ^ M.1 0))]) (u1 := 0) (v1 := 0) (u2 := 0) (v2 := 0) (r_allM hn) (⟨_, _, _, _, rfl, rfl⟩) oX12_all q_1253 q_1255 q_85 rfl (by omega) (by decide) rfl (Nat.le_of_ble_eq_true rfl) 9 rfl dX12_isPartOfOne_6 rfl ?_
    refine a_icmp_ge 37 12 rfl dX12_isPartOfOne_9 (by decide) (fun _ => ?_) (fun hc => absurd (nI_le (by omega) (by omega)) hc)
    refine a_iconst (x := 0) 38 rfl dX12_isPartOfOne_37 (by decide) ?_
    exact a_ireturn .boolean rfl rfl ((by rw [p_t9]; rfl)) (rfl) dX12_isPartOfOne_38
def f_kd (k n g : Nat) (own : Int64) (s : Nat) : Int64 := match k with
  | 0 => cond (f_b own s) (f_sl 1 (nI s)) 0
  | 1 => cond (f_b own s) 0 (f_sl 1 (nI s))
  | 2 => cond (f_b own s) (f_sl 1 (nI (2 ^ n - 1 - s))) 0
  | 5 => cond (f_b own s) (f_sl 1 (nI (f_mirM n (2 ^ n - 1 - s) n))) 0
  | _ => cond (f_b own s) (cond (decide (f_pop (nI s).toInt64 = g)) (f_sl 1 (nI s)) 0) 0
def f_sB (k n g : Nat) (x : Int64) : Int64 := match k with
  | 4 => f_or (fun s => cond (f_ex (fun o => f_b (f_or (f_kd 4 n g (x &&& f_all (2 ^ n))) (2 ^ n)) o && decide (s &&& o = s)) (2 ^ n)) (f_sl 1 (nI s)) 0) (2 ^ n)
  | k => f_or (f_kd k n g (x &&& f_all (2 ^ n))) (2 ^ n)
theorem r_setsBy0 {g : Nat} (hn : M.1 0 ≤ 6) (hg : g < 10) : g_Run G mX12_setsBy 3 0 0 [.ref (g_ad G 38), .int 0, .int (nI g), .long x] (g_hp G C (g_hm G M ++ ob)) (some (.long (f_sB 0 (M.1 0) g x))) (g_hp G C (g_hm G M ++ ob)) := by
  have hp : 2 ^ M.1 0 ≤ 64 := Nat.pow_le_pow_right (by decide) hn
  refine g_Run.of (lv := [(0, .ref (g_ad G 38)), (1, .int 0), (2, .int (nI g)), (3, .long x)]) (by decide) (Nat.le_of_ble_eq_true rfl) rfl ?_
  refine a_lload_n 3 1 rfl dX12_setsBy_0 rfl rfl ?_
  refine a_aload_n 0 2 rfl dX12_setsBy_1 rfl rfl ?_
  refine a_callV (as := []) (rest := [.long x]) (st2 := [.int (nI (2 ^ M.1 0)), .long x]) (u1 := 0) (v1 := 0) (u2 := 0) (v2 := 0) (r_allM hn) (⟨_, _, _, _, rfl, rfl⟩) oX12_all q_1253 q_1255 q_85 rfl (by omega) (by decide) rfl (Nat.le_of_ble_eq_true rfl) 5 rfl dX12_setsBy_2 rfl ?_
  refine a_callS (as := [.int (nI (2 ^ M.1 0))]) (rest := [.long x]) (st2 := [.long (f_all (2 ^ M.1 0)), .long x]) (u1 := 0) (v1 := 0) (u2 := 0) (v2 := 0) (r_bits hp) oX12_bits q_1257 q_1258 rfl (by omega) (by decide) rfl (Nat.le_of_ble_eq_true rfl) 8 rfl dX12_setsBy_5 rfl ?_
  refine a_land 9 rfl dX12_setsBy_8 ?_
  refine a_lstore (lv' := [(5, .long (x &&& (f_all (2 ^ M.1 0)))), (0, .ref (g_ad G 38)), (1, .int 0), (2, .int (nI g)), (3, .long x)]) 11 rfl dX12_setsBy_9 (by decide) rfl ?_
  refine a_lconst (x := 0) 12 rfl dX12_setsBy_11 (by decide) ?_
  refine a_lstore (lv' := [(7, .long 0), (5, .long (x &&& (f_all (2 ^ M.1 0)))), (0, .ref (g_ad G 38)), (1, .int 0), (2, .int (nI g)), (3, .long x)]) 14 rfl dX12_setsBy_12 (by decide) rfl ?_
  refine a_iconst (x := 0) 15 rfl dX12_setsBy_14 (by decide) ?_
  refine a_istore (lv' := [(9, .int 0), (7, .long 0), (5, .long (x &&& (f_all (2 ^ M.1 0)))), (0, .ref (g_ad G 38)), (1, .int 0), (2, .int (nI g)), (3, .long x)]) 17 rfl dX12_setsBy_15 (by decide) rfl ?_
  refine a_sub (lv' := [(9, .int (nI 0)), (7, .long (f_or (f_kd 0 (M.1 0) g (x &&& f_all (2 ^ M.1 0))) 0)), (5, .long (x &&& f_all (2 ^ M.1 0))), (0, .ref (g_ad G 38)), (1, .int 0), (2, .int (nI g))]) [0, 1, 2, 3, 4, 5] rfl ?_
  refine g_for (P := fun t9 => True) (2 ^ M.1 0) (fun t9 => [(9, .int (nI t9)), (7, .long (f_or (f_kd 0 (M.1 0) g (x &&& f_all (2 ^ M.1 0))) t9)), (5, .long (x &&& f_all (2 ^ M.1 0))), (0, .ref (g_ad G 38)), (1, .int 0), (2, .int (nI g))]) (fun t9 => (g_hp G C (g_hm G M ++ ob))) (trivial) (fun t9 h_t9 p_t9 k_t9 => ?_) (fun p_t9 => ?_)
  · skip
    skip
    have hm := r_mirM (G := G) (C := C) (M := M) (ob := ob) (s := 2 ^ M.1 0 - 1 - t9) hn (by omega)
    refine a_iload 0 19 rfl dX12_setsBy_17 rfl ?_
    refine a_aload_n 3 20 rfl dX12_setsBy_19 rfl rfl ?_
    refine a_callV (as := []) (rest := [.int (nI t9)]) (st2 := [.int (nI (2 ^ M.1 0)), .int (nI t9)]) (u1 := 0) (v1 := 0) (u2 := 0) (v2 := 0) (r_allM hn) (⟨_, _, _, _, rfl, rfl⟩) oX12_all q_1253 q_1255 q_85 rfl (by omega) (by decide) rfl (Nat.le_of_ble_eq_true rfl) 23 rfl dX12_setsBy_20 rfl ?_
    refine a_icmp_ge 212 26 rfl dX12_setsBy_23 (by decide) (fun hc => absurd hc (nI_ge (by omega) (by omega))) (fun _ => ?_)
    refine a_lload 2 28 rfl dX12_setsBy_26 rfl ?_
    refine a_iload 0 30 rfl dX12_setsBy_28 rfl ?_
    refine a_callS (as := [.long (x &&& f_all (2 ^ M.1 0)), .int (nI t9)]) (rest := []) (st2 := [.int (f_i (f_b (x &&& f_all (2 ^ M.1 0)) t9))]) (u1 := 0) (v1 := 0) (u2 := 0) (v2 := 0) (r_hasB (s := t9) (by omega)) oX12_has q_1304 q_1305 rfl (by omega) (by decide) rfl (Nat.le_of_ble_eq_true rfl) 33 rfl dX12_setsBy_30 rfl ?_
    refine a_istore (lv' := [(10, .int (f_i (f_b (x &&& f_all (2 ^ M.1 0)) t9))), (9, .int (nI t9)), (7, .long (f_or (f_kd 0 (M.1 0) g (x &&& f_all (2 ^ M.1 0))) t9)), (5, .long (x &&& f_all (2 ^ M.1 0))), (0, .ref (g_ad G 38)), (1, .int 0), (2, .int (nI g))]) 35 rfl dX12_setsBy_33 (by decide) rfl ?_
    refine a_iload_n 5 36 rfl dX12_setsBy_35 rfl rfl ?_
    
    refine g_sfx (pc := 91) (lv := [(10, .int (f_i (f_b (x &&& f_all (2 ^ M.1 0)) t9))), (9, .int (nI t9)), (7, .long (f_or (f_kd 0 (M.1 0) g (x &&& f_all (2 ^ M.1 0))) t9)), (5, .long (x &&& f_all (2 ^ M.1 0))), (0, .ref (g_ad G 38)), (1, .int 0), (2, .int (nI g))]) (st := [.long (cond (f_b (x &&& f_all (2 ^ M.1 0)) t9) (f_sl (1 : Int64) (nI t9)) 0), .long (f_or (f_kd 0 (M.1 0) g (x &&& f_all (2 ^ M.1 0))) t9)]) (h := (g_hp G C (g_hm G M ++ ob))) (fun key => ?_) ?_
    · skip
      refine a_tableIn (off := 40) 76 dX12_setsBy_36 (by decide) (by decide) (by decide) (by decide) ?_
      refine a_lload 2 78 rfl dX12_setsBy_76 rfl ?_
      refine a_iload 0 80 rfl dX12_setsBy_78 rfl ?_
      rcases Bool.eq_false_or_eq_true ((f_b (x &&& f_all (2 ^ M.1 0)) t9)) with c80_1 | c80_1
      · skip
        refine a_if_eq 90 83 rfl dX12_setsBy_80 (by decide) (fun hc => absurd hc (f_i_T c80_1)) (fun _ => ?_)
        refine a_lconst (x := 1) 84 rfl dX12_setsBy_83 (by decide) ?_
        refine a_iload 1 86 rfl dX12_setsBy_84 rfl ?_
        refine a_lshl 87 rfl dX12_setsBy_86 ?_
        refine a_goto 91 dX12_setsBy_87 (by decide) ?_
        exact a_eq rfl (rfl) (by rw [c80_1]; rfl) rfl key
      · skip
        refine a_if_eq 90 83 rfl dX12_setsBy_80 (by decide) (fun _ => ?_) (fun hc => absurd (f_i_F c80_1) hc)
        refine a_lconst (x := 0) 91 rfl dX12_setsBy_90 (by decide) ?_
        exact a_eq rfl (rfl) (by rw [c80_1]; rfl) rfl key
    refine a_lor 92 rfl dX12_setsBy_91 ?_
    refine a_lstore (lv' := [(7, .long ((f_or (f_kd 0 (M.1 0) g (x &&& f_all (2 ^ M.1 0))) t9) ||| (cond (f_b (x &&& f_all (2 ^ M.1 0)) t9) (f_sl (1 : Int64) (nI t9)) 0))), (10, .int (f_i (f_b (x &&& f_all (2 ^ M.1 0)) t9))), (9, .int (nI t9)), (5, .long (x &&& f_all (2 ^ M.1 0))), (0, .ref (g_ad G 38)), (1, .int 0), (2, .int (nI g))]) 94 rfl dX12_setsBy_92 (by decide) rfl ?_
    refine a_goto 206 dX12_setsBy_94 (by decide) ?_
    refine a_iinc (y := nI (t9 + 1)) (lv' := [(9, .int (nI (t9 + 1))), (7, .long ((f_or (f_kd 0 (M.1 0) g (x &&& f_all (2 ^ M.1 0))) t9) ||| (cond (f_b (x &&& f_all (2 ^ M.1 0)) t9) (f_sl (1 : Int64) (nI t9)) 0))), (10, .int (f_i (f_b (x &&& f_all (2 ^ M.1 0)) t9))), (5, .long (x &&& f_all (2 ^ M.1 0))), (0, .ref (g_ad G 38)), (1, .int 0), (2, .int (nI g))]) 2 209 rfl dX12_setsBy_206 rfl (nI_1 t9) (by decide) rfl ?_
    refine a_goto 17 dX12_setsBy_209 (by decide) ?_
    refine a_sub (lv' := [(9, .int (nI (t9 + 1))), (7, .long (f_or (f_kd 0 (M.1 0) g (x &&& f_all (2 ^ M.1 0))) (t9 + 1))), (5, .long (x &&& f_all (2 ^ M.1 0))), (0, .ref (g_ad G 38)), (1, .int 0), (2, .int (nI g))]) [0, 1, 3, 4, 5, 6] rfl ?_
    exact k_t9 trivial
  · skip
    refine a_iload 0 19 rfl dX12_setsBy_17 rfl ?_
    refine a_aload_n 3 20 rfl dX12_setsBy_19 rfl rfl ?_
    refine a_callV (as := []) (rest := [.int (nI (2 ^ M.1 0))]) (st2 := [.int (nI (2 ^ M.1 0)), .int (nI (2 ^ M.1 0))]) (u1 := 0) (v1 := 0) (u2 := 0) (v2 := 0) (r_allM hn) (⟨_, _, _, _, rfl, rfl⟩) oX12_all q_1253 q_1255 q_85 rfl (by omega) (by decide) rfl (Nat.le_of_ble_eq_true rfl) 23 rfl dX12_setsBy_20 rfl ?_
    refine a_icmp_ge 212 26 rfl dX12_setsBy_23 (by decide) (fun _ => ?_) (fun hc => absurd (nI_le (by omega) (by omega)) hc)
    refine a_iload_n 4 213 rfl dX12_setsBy_212 rfl rfl ?_
    refine a_iconst (x := 4) 214 rfl dX12_setsBy_213 (by decide) ?_
    refine a_icmp_eq 220 217 rfl dX12_setsBy_214 (by decide) (fun hc => absurd hc ((by decide))) (fun _ => ?_)
    refine a_lload 1 219 rfl dX12_setsBy_217 rfl ?_
    exact a_lreturn rfl (rfl) (rfl) dX12_setsBy_219

theorem r_setsBy1 {g : Nat} (hn : M.1 0 ≤ 6) (hg : g < 10) : g_Run G mX12_setsBy 3 0 0 [.ref (g_ad G 38), .int 1, .int (nI g), .long x] (g_hp G C (g_hm G M ++ ob)) (some (.long (f_sB 1 (M.1 0) g x))) (g_hp G C (g_hm G M ++ ob)) := by
  have hp : 2 ^ M.1 0 ≤ 64 := Nat.pow_le_pow_right (by decide) hn
  refine g_Run.of (lv := [(0, .ref (g_ad G 38)), (1, .int 1), (2, .int (nI g)), (3, .long x)]) (by decide) (Nat.le_of_ble_eq_true rfl) rfl ?_
  refine a_lload_n 3 1 rfl dX12_setsBy_0 rfl rfl ?_
  refine a_aload_n 0 2 rfl dX12_setsBy_1 rfl rfl ?_
  refine a_callV (as := []) (rest := [.long x]) (st2 := [.int (nI (2 ^ M.1 0)), .long x]) (u1 := 0) (v1 := 0) (u2 := 0) (v2 := 0) (r_allM hn) (⟨_, _, _, _, rfl, rfl⟩) oX12_all q_1253 q_1255 q_85 rfl (by omega) (by decide) rfl (Nat.le_of_ble_eq_true rfl) 5 rfl dX12_setsBy_2 rfl ?_
  refine a_callS (as := [.int (nI (2 ^ M.1 0))]) (rest := [.long x]) (st2 := [.long (f_all (2 ^ M.1 0)), .long x]) (u1 := 0) (v1 := 0) (u2 := 0) (v2 := 0) (r_bits hp) oX12_bits q_1257 q_1258 rfl (by omega) (by decide) rfl (Nat.le_of_ble_eq_true rfl) 8 rfl dX12_setsBy_5 rfl ?_
  refine a_land 9 rfl dX12_setsBy_8 ?_
  refine a_lstore (lv' := [(5, .long (x &&& (f_all (2 ^ M.1 0)))), (0, .ref (g_ad G 38)), (1, .int 1), (2, .int (nI g)), (3, .long x)]) 11 rfl dX12_setsBy_9 (by decide) rfl ?_
  refine a_lconst (x := 0) 12 rfl dX12_setsBy_11 (by decide) ?_
  refine a_lstore (lv' := [(7, .long 0), (5, .long (x &&& (f_all (2 ^ M.1 0)))), (0, .ref (g_ad G 38)), (1, .int 1), (2, .int (nI g)), (3, .long x)]) 14 rfl dX12_setsBy_12 (by decide) rfl ?_
  refine a_iconst (x := 0) 15 rfl dX12_setsBy_14 (by decide) ?_
  refine a_istore (lv' := [(9, .int 0), (7, .long 0), (5, .long (x &&& (f_all (2 ^ M.1 0)))), (0, .ref (g_ad G 38)), (1, .int 1), (2, .int (nI g)), (3, .long x)]) 17 rfl dX12_setsBy_15 (by decide) rfl ?_
  refine a_sub (lv' := [(9, .int (nI 0)), (7, .long (f_or (f_kd 1 (M.1 0) g (x &&& f_all (2 ^ M.1 0))) 0)), (5, .long (x &&& f_all (2 ^ M.1 0))), (0, .ref (g_ad G 38)), (1, .int 1), (2, .int (nI g))]) [0, 1, 2, 3, 4, 5] rfl ?_
  refine g_for (P := fun t9 => True) (2 ^ M.1 0) (fun t9 => [(9, .int (nI t9)), (7, .long (f_or (f_kd 1 (M.1 0) g (x &&& f_all (2 ^ M.1 0))) t9)), (5, .long (x &&& f_all (2 ^ M.1 0))), (0, .ref (g_ad G 38)), (1, .int 1), (2, .int (nI g))]) (fun t9 => (g_hp G C (g_hm G M ++ ob))) (trivial) (fun t9 h_t9 p_t9 k_t9 => ?_) (fun p_t9 => ?_)
  · skip
    skip
    have hm := r_mirM (G := G) (C := C) (M := M) (ob := ob) (s := 2 ^ M.1 0 - 1 - t9) hn (by omega)
    refine a_iload 0 19 rfl dX12_setsBy_17 rfl ?_
    refine a_aload_n 3 20 rfl dX12_setsBy_19 rfl rfl ?_
    refine a_callV (as := []) (rest := [.int (nI t9)]) (st2 := [.int (nI (2 ^ M.1 0)), .int (nI t9)]) (u1 := 0) (v1 := 0) (u2 := 0) (v2 := 0) (r_allM hn) (⟨_, _, _, _, rfl, rfl⟩) oX12_all q_1253 q_1255 q_85 rfl (by omega) (by decide) rfl (Nat.le_of_ble_eq_true rfl) 23 rfl dX12_setsBy_20 rfl ?_
    refine a_icmp_ge 212 26 rfl dX12_setsBy_23 (by decide) (fun hc => absurd hc (nI_ge (by omega) (by omega))) (fun _ => ?_)
    refine a_lload 2 28 rfl dX12_setsBy_26 rfl ?_
    refine a_iload 0 30 rfl dX12_setsBy_28 rfl ?_
    refine a_callS (as := [.long (x &&& f_all (2 ^ M.1 0)), .int (nI t9)]) (rest := []) (st2 := [.int (f_i (f_b (x &&& f_all (2 ^ M.1 0)) t9))]) (u1 := 0) (v1 := 0) (u2 := 0) (v2 := 0) (r_hasB (s := t9) (by omega)) oX12_has q_1304 q_1305 rfl (by omega) (by decide) rfl (Nat.le_of_ble_eq_true rfl) 33 rfl dX12_setsBy_30 rfl ?_
    refine a_istore (lv' := [(10, .int (f_i (f_b (x &&& f_all (2 ^ M.1 0)) t9))), (9, .int (nI t9)), (7, .long (f_or (f_kd 1 (M.1 0) g (x &&& f_all (2 ^ M.1 0))) t9)), (5, .long (x &&& f_all (2 ^ M.1 0))), (0, .ref (g_ad G 38)), (1, .int 1), (2, .int (nI g))]) 35 rfl dX12_setsBy_33 (by decide) rfl ?_
    refine a_iload_n 5 36 rfl dX12_setsBy_35 rfl rfl ?_
    
    refine g_sfx (pc := 112) (lv := [(10, .int (f_i (f_b (x &&& f_all (2 ^ M.1 0)) t9))), (9, .int (nI t9)), (7, .long (f_or (f_kd 1 (M.1 0) g (x &&& f_all (2 ^ M.1 0))) t9)), (5, .long (x &&& f_all (2 ^ M.1 0))), (0, .ref (g_ad G 38)), (1, .int 1), (2, .int (nI g))]) (st := [.long (cond (f_b (x &&& f_all (2 ^ M.1 0)) t9) 0 (f_sl (1 : Int64) (nI t9))), .long (f_or (f_kd 1 (M.1 0) g (x &&& f_all (2 ^ M.1 0))) t9)]) (h := (g_hp G C (g_hm G M ++ ob))) (fun key => ?_) ?_
    · skip
      refine a_tableIn (off := 61) 97 dX12_setsBy_36 (by decide) (by decide) (by decide) (by decide) ?_
      refine a_lload 2 99 rfl dX12_setsBy_97 rfl ?_
      refine a_iload 0 101 rfl dX12_setsBy_99 rfl ?_
      rcases Bool.eq_false_or_eq_true ((f_b (x &&& f_all (2 ^ M.1 0)) t9)) with c101_1 | c101_1
      · skip
        refine a_if_eq 108 104 rfl dX12_setsBy_101 (by decide) (fun hc => absurd hc (f_i_T c101_1)) (fun _ => ?_)
        refine a_lconst (x := 0) 105 rfl dX12_setsBy_104 (by decide) ?_
        refine a_goto 112 dX12_setsBy_105 (by decide) ?_
        exact a_eq rfl (rfl) (by rw [c101_1]; rfl) rfl key
      · skip
        refine a_if_eq 108 104 rfl dX12_setsBy_101 (by decide) (fun _ => ?_) (fun hc => absurd (f_i_F c101_1) hc)
        refine a_lconst (x := 1) 109 rfl dX12_setsBy_108 (by decide) ?_
        refine a_iload 1 111 rfl dX12_setsBy_109 rfl ?_
        refine a_lshl 112 rfl dX12_setsBy_111 ?_
        exact a_eq rfl (rfl) (by rw [c101_1]; rfl) rfl key
    refine a_lor 113 rfl dX12_setsBy_112 ?_
    refine a_lstore (lv' := [(7, .long ((f_or (f_kd 1 (M.1 0) g (x &&& f_all (2 ^ M.1 0))) t9) ||| (cond (f_b (x &&& f_all (2 ^ M.1 0)) t9) 0 (f_sl (1 : Int64) (nI t9))))), (10, .int (f_i (f_b (x &&& f_all (2 ^ M.1 0)) t9))), (9, .int (nI t9)), (5, .long (x &&& f_all (2 ^ M.1 0))), (0, .ref (g_ad G 38)), (1, .int 1), (2, .int (nI g))]) 115 rfl dX12_setsBy_113 (by decide) rfl ?_
    refine a_goto 206 dX12_setsBy_115 (by decide) ?_
    refine a_iinc (y := nI (t9 + 1)) (lv' := [(9, .int (nI (t9 + 1))), (7, .long ((f_or (f_kd 1 (M.1 0) g (x &&& f_all (2 ^ M.1 0))) t9) ||| (cond (f_b (x &&& f_all (2 ^ M.1 0)) t9) 0 (f_sl (1 : Int64) (nI t9))))), (10, .int (f_i (f_b (x &&& f_all (2 ^ M.1 0)) t9))), (5, .long (x &&& f_all (2 ^ M.1 0))), (0, .ref (g_ad G 38)), (1, .int 1), (2, .int (nI g))]) 2 209 rfl dX12_setsBy_206 rfl (nI_1 t9) (by decide) rfl ?_
    refine a_goto 17 dX12_setsBy_209 (by decide) ?_
    refine a_sub (lv' := [(9, .int (nI (t9 + 1))), (7, .long (f_or (f_kd 1 (M.1 0) g (x &&& f_all (2 ^ M.1 0))) (t9 + 1))), (5, .long (x &&& f_all (2 ^ M.1 0))), (0, .ref (g_ad G 38)), (1, .int 1), (2, .int (nI g))]) [0, 1, 3, 4, 5, 6] rfl ?_
    exact k_t9 trivial
  · skip
    refine a_iload 0 19 rfl dX12_setsBy_17 rfl ?_
    refine a_aload_n 3 20 rfl dX12_setsBy_19 rfl rfl ?_
    refine a_callV (as := []) (rest := [.int (nI (2 ^ M.1 0))]) (st2 := [.int (nI (2 ^ M.1 0)), .int (nI (2 ^ M.1 0))]) (u1 := 0) (v1 := 0) (u2 := 0) (v2 := 0) (r_allM hn) (⟨_, _, _, _, rfl, rfl⟩) oX12_all q_1253 q_1255 q_85 rfl (by omega) (by decide) rfl (Nat.le_of_ble_eq_true rfl) 23 rfl dX12_setsBy_20 rfl ?_
    refine a_icmp_ge 212 26 rfl dX12_setsBy_23 (by decide) (fun _ => ?_) (fun hc => absurd (nI_le (by omega) (by omega)) hc)
    refine a_iload_n 4 213 rfl dX12_setsBy_212 rfl rfl ?_
    refine a_iconst (x := 4) 214 rfl dX12_setsBy_213 (by decide) ?_
    refine a_icmp_eq 220 217 rfl dX12_setsBy_214 (by decide) (fun hc => absurd hc ((by decide))) (fun _ => ?_)
    refine a_lload 1 219 rfl dX12_setsBy_217 rfl ?_
    exact a_lreturn rfl (rfl) (rfl) dX12_setsBy_219

theorem r_setsBy2 {g : Nat} (hn : M.1 0 ≤ 6) (hg : g < 10) : g_Run G mX12_setsBy 3 0 0 [.ref (g_ad G 38), .int 2, .int (nI g), .long x] (g_hp G C (g_hm G M ++ ob)) (some (.long (f_sB 2 (M.1 0) g x))) (g_hp G C (g_hm G M ++ ob)) := by
  have hp : 2 ^ M.1 0 ≤ 64 := Nat.pow_le_pow_right (by decide) hn
  refine g_Run.of (lv := [(0, .ref (g_ad G 38)), (1, .int 2), (2, .int (nI g)), (3, .long x)]) (by decide) (Nat.le_of_ble_eq_true rfl) rfl ?_
  refine a_lload_n 3 1 rfl dX12_setsBy_0 rfl rfl ?_
  refine a_aload_n 0 2 rfl dX12_setsBy_1 rfl rfl ?_
  refine a_callV (as := []) (rest := [.long x]) (st2 := [.int (nI (2 ^ M.1 0)), .long x]) (u1 := 0) (v1 := 0) (u2 := 0) (v2 := 0) (r_allM hn) (⟨_, _, _, _, rfl, rfl⟩) oX12_all q_1253 q_1255 q_85 rfl (by omega) (by decide) rfl (Nat.le_of_ble_eq_true rfl) 5 rfl dX12_setsBy_2 rfl ?_
  refine a_callS (as := [.int (nI (2 ^ M.1 0))]) (rest := [.long x]) (st2 := [.long (f_all (2 ^ M.1 0)), .long x]) (u1 := 0) (v1 := 0) (u2 := 0) (v2 := 0) (r_bits hp) oX12_bits q_1257 q_1258 rfl (by omega) (by decide) rfl (Nat.le_of_ble_eq_true rfl) 8 rfl dX12_setsBy_5 rfl ?_
  refine a_land 9 rfl dX12_setsBy_8 ?_
  refine a_lstore (lv' := [(5, .long (x &&& (f_all (2 ^ M.1 0)))), (0, .ref (g_ad G 38)), (1, .int 2), (2, .int (nI g)), (3, .long x)]) 11 rfl dX12_setsBy_9 (by decide) rfl ?_
  refine a_lconst (x := 0) 12 rfl dX12_setsBy_11 (by decide) ?_
  refine a_lstore (lv' := [(7, .long 0), (5, .long (x &&& (f_all (2 ^ M.1 0)))), (0, .ref (g_ad G 38)), (1, .int 2), (2, .int (nI g)), (3, .long x)]) 14 rfl dX12_setsBy_12 (by decide) rfl ?_
  refine a_iconst (x := 0) 15 rfl dX12_setsBy_14 (by decide) ?_
  refine a_istore (lv' := [(9, .int 0), (7, .long 0), (5, .long (x &&& (f_all (2 ^ M.1 0)))), (0, .ref (g_ad G 38)), (1, .int 2), (2, .int (nI g)), (3, .long x)]) 17 rfl dX12_setsBy_15 (by decide) rfl ?_
  refine a_sub (lv' := [(9, .int (nI 0)), (7, .long (f_or (f_kd 2 (M.1 0) g (x &&& f_all (2 ^ M.1 0))) 0)), (5, .long (x &&& f_all (2 ^ M.1 0))), (0, .ref (g_ad G 38)), (1, .int 2), (2, .int (nI g))]) [0, 1, 2, 3, 4, 5] rfl ?_
  refine g_for (P := fun t9 => True) (2 ^ M.1 0) (fun t9 => [(9, .int (nI t9)), (7, .long (f_or (f_kd 2 (M.1 0) g (x &&& f_all (2 ^ M.1 0))) t9)), (5, .long (x &&& f_all (2 ^ M.1 0))), (0, .ref (g_ad G 38)), (1, .int 2), (2, .int (nI g))]) (fun t9 => (g_hp G C (g_hm G M ++ ob))) (trivial) (fun t9 h_t9 p_t9 k_t9 => ?_) (fun p_t9 => ?_)
  · skip
    skip
    have hm := r_mirM (G := G) (C := C) (M := M) (ob := ob) (s := 2 ^ M.1 0 - 1 - t9) hn (by omega)
    refine a_iload 0 19 rfl dX12_setsBy_17 rfl ?_
    refine a_aload_n 3 20 rfl dX12_setsBy_19 rfl rfl ?_
    refine a_callV (as := []) (rest := [.int (nI t9)]) (st2 := [.int (nI (2 ^ M.1 0)), .int (nI t9)]) (u1 := 0) (v1 := 0) (u2 := 0) (v2 := 0) (r_allM hn) (⟨_, _, _, _, rfl, rfl⟩) oX12_all q_1253 q_1255 q_85 rfl (by omega) (by decide) rfl (Nat.le_of_ble_eq_true rfl) 23 rfl dX12_setsBy_20 rfl ?_
    refine a_icmp_ge 212 26 rfl dX12_setsBy_23 (by decide) (fun hc => absurd hc (nI_ge (by omega) (by omega))) (fun _ => ?_)
    refine a_lload 2 28 rfl dX12_setsBy_26 rfl ?_
    refine a_iload 0 30 rfl dX12_setsBy_28 rfl ?_
    refine a_callS (as := [.long (x &&& f_all (2 ^ M.1 0)), .int (nI t9)]) (rest := []) (st2 := [.int (f_i (f_b (x &&& f_all (2 ^ M.1 0)) t9))]) (u1 := 0) (v1 := 0) (u2 := 0) (v2 := 0) (r_hasB (s := t9) (by omega)) oX12_has q_1304 q_1305 rfl (by omega) (by decide) rfl (Nat.le_of_ble_eq_true rfl) 33 rfl dX12_setsBy_30 rfl ?_
    refine a_istore (lv' := [(10, .int (f_i (f_b (x &&& f_all (2 ^ M.1 0)) t9))), (9, .int (nI t9)), (7, .long (f_or (f_kd 2 (M.1 0) g (x &&& f_all (2 ^ M.1 0))) t9)), (5, .long (x &&& f_all (2 ^ M.1 0))), (0, .ref (g_ad G 38)), (1, .int 2), (2, .int (nI g))]) 35 rfl dX12_setsBy_33 (by decide) rfl ?_
    refine a_iload_n 5 36 rfl dX12_setsBy_35 rfl rfl ?_
    refine g_sfx (pc := 140) (lv := [(10, .int (f_i (f_b (x &&& f_all (2 ^ M.1 0)) t9))), (9, .int (nI t9)), (7, .long (f_or (f_kd 2 (M.1 0) g (x &&& f_all (2 ^ M.1 0))) t9)), (5, .long (x &&& f_all (2 ^ M.1 0))), (0, .ref (g_ad G 38)), (1, .int 2), (2, .int (nI g))]) (st := [.long (cond (f_b (x &&& f_all (2 ^ M.1 0)) t9) (f_sl (1 : Int64) (nI (((2 ^ M.1 0) - 1) - t9))) 0), .long (f_or (f_kd 2 (M.1 0) g (x &&& f_all (2 ^ M.1 0))) t9)]) (h := (g_hp G C (g_hm G M ++ ob))) (fun key => ?_) ?_
    · skip
      refine a_tableIn (off := 82) 118 dX12_setsBy_36 (by decide) (by decide) (by decide) (by decide) ?_
      refine a_lload 2 120 rfl dX12_setsBy_118 rfl ?_
      refine a_iload 0 122 rfl dX12_setsBy_120 rfl ?_
      rcases Bool.eq_false_or_eq_true ((f_b (x &&& f_all (2 ^ M.1 0)) t9)) with c122_1 | c122_1
      · skip
        refine a_if_eq 139 125 rfl dX12_setsBy_122 (by decide) (fun hc => absurd hc (f_i_T c122_1)) (fun _ => ?_)
        refine a_lconst (x := 1) 126 rfl dX12_setsBy_125 (by decide) ?_
        refine a_aload_n 4 127 rfl dX12_setsBy_126 rfl rfl ?_
        refine a_callV (as := []) (rest := [.long 1, .long (f_or (f_kd 2 (M.1 0) g (x &&& f_all (2 ^ M.1 0))) t9)]) (st2 := [.int (nI (2 ^ M.1 0)), .long 1, .long (f_or (f_kd 2 (M.1 0) g (x &&& f_all (2 ^ M.1 0))) t9)]) (u1 := 0) (v1 := 0) (u2 := 0) (v2 := 0) (r_allM hn) (⟨_, _, _, _, rfl, rfl⟩) oX12_all q_1253 q_1255 q_85 rfl (by omega) (by decide) rfl (Nat.le_of_ble_eq_true rfl) 130 rfl dX12_setsBy_127 rfl ?_
        refine a_iconst (x := 1) 131 rfl dX12_setsBy_130 (by decide) ?_
        refine a_isub 132 rfl dX12_setsBy_131 ?_
        refine a_eq (st2 := [.int (nI ((2 ^ M.1 0) - 1)), .long 1, .long (f_or (f_kd 2 (M.1 0) g (x &&& f_all (2 ^ M.1 0))) t9)]) rfl rfl (congrArg (fun z9 => Value.int z9 :: [.long 1, .long (f_or (f_kd 2 (M.1 0) g (x &&& f_all (2 ^ M.1 0))) t9)]) (pk_sub (a := (2 ^ M.1 0)) (b := 1) (by omega))) rfl ?_
        refine a_iload 1 134 rfl dX12_setsBy_132 rfl ?_
        refine a_isub 135 rfl dX12_setsBy_134 ?_
        refine a_eq (st2 := [.int (nI (((2 ^ M.1 0) - 1) - t9)), .long 1, .long (f_or (f_kd 2 (M.1 0) g (x &&& f_all (2 ^ M.1 0))) t9)]) rfl rfl (congrArg (fun z9 => Value.int z9 :: [.long 1, .long (f_or (f_kd 2 (M.1 0) g (x &&& f_all (2 ^ M.1 0))) t9)]) (pk_sub (a := ((2 ^ M.1 0) - 1)) (b := t9) (by omega))) rfl ?_
        refine a_lshl 136 rfl dX12_setsBy_135 ?_
        refine a_goto 140 dX12_setsBy_136 (by decide) ?_
        exact a_eq rfl (rfl) (by rw [c122_1]; rfl) rfl key
      · skip
        refine a_if_eq 139 125 rfl dX12_setsBy_122 (by decide) (fun _ => ?_) (fun hc => absurd (f_i_F c122_1) hc)
        refine a_lconst (x := 0) 140 rfl dX12_setsBy_139 (by decide) ?_
        exact a_eq rfl (rfl) (by rw [c122_1]; rfl) rfl key
    refine a_lor 141 rfl dX12_setsBy_140 ?_
    refine a_lstore (lv' := [(7, .long ((f_or (f_kd 2 (M.1 0) g (x &&& f_all (2 ^ M.1 0))) t9) ||| (cond (f_b (x &&& f_all (2 ^ M.1 0)) t9) (f_sl (1 : Int64) (nI (((2 ^ M.1 0) - 1) - t9))) 0))), (10, .int (f_i (f_b (x &&& f_all (2 ^ M.1 0)) t9))), (9, .int (nI t9)), (5, .long (x &&& f_all (2 ^ M.1 0))), (0, .ref (g_ad G 38)), (1, .int 2), (2, .int (nI g))]) 143 rfl dX12_setsBy_141 (by decide) rfl ?_
    refine a_goto 206 dX12_setsBy_143 (by decide) ?_
    refine a_iinc (y := nI (t9 + 1)) (lv' := [(9, .int (nI (t9 + 1))), (7, .long ((f_or (f_kd 2 (M.1 0) g (x &&& f_all (2 ^ M.1 0))) t9) ||| (cond (f_b (x &&& f_all (2 ^ M.1 0)) t9) (f_sl (1 : Int64) (nI (((2 ^ M.1 0) - 1) - t9))) 0))), (10, .int (f_i (f_b (x &&& f_all (2 ^ M.1 0)) t9))), (5, .long (x &&& f_all (2 ^ M.1 0))), (0, .ref (g_ad G 38)), (1, .int 2), (2, .int (nI g))]) 2 209 rfl dX12_setsBy_206 rfl (nI_1 t9) (by decide) rfl ?_
    refine a_goto 17 dX12_setsBy_209 (by decide) ?_
    refine a_sub (lv' := [(9, .int (nI (t9 + 1))), (7, .long (f_or (f_kd 2 (M.1 0) g (x &&& f_all (2 ^ M.1 0))) (t9 + 1))), (5, .long (x &&& f_all (2 ^ M.1 0))), (0, .ref (g_ad G 38)), (1, .int 2), (2, .int (nI g))]) [0, 1, 3, 4, 5, 6] rfl ?_
    exact k_t9 trivial
  · skip
    refine a_iload 0 19 rfl dX12_setsBy_17 rfl ?_
    refine a_aload_n 3 20 rfl dX12_setsBy_19 rfl rfl ?_
    refine a_callV (as := []) (rest := [.int (nI (2 ^ M.1 0))]) (st2 := [.int (nI (2 ^ M.1 0)), .int (nI (2 ^ M.1 0))]) (u1 := 0) (v1 := 0) (u2 := 0) (v2 := 0) (r_allM hn) (⟨_, _, _, _, rfl, rfl⟩) oX12_all q_1253 q_1255 q_85 rfl (by omega) (by decide) rfl (Nat.le_of_ble_eq_true rfl) 23 rfl dX12_setsBy_20 rfl ?_
    refine a_icmp_ge 212 26 rfl dX12_setsBy_23 (by decide) (fun _ => ?_) (fun hc => absurd (nI_le (by omega) (by omega)) hc)
    refine a_iload_n 4 213 rfl dX12_setsBy_212 rfl rfl ?_
    refine a_iconst (x := 4) 214 rfl dX12_setsBy_213 (by decide) ?_
    refine a_icmp_eq 220 217 rfl dX12_setsBy_214 (by decide) (fun hc => absurd hc ((by decide))) (fun _ => ?_)
    refine a_lload 1 219 rfl dX12_setsBy_217 rfl ?_
    exact a_lreturn rfl (rfl) (rfl) dX12_setsBy_219

theorem r_setsBy5 {g : Nat} (hn : M.1 0 ≤ 6) (hg : g < 10) : g_Run G mX12_setsBy 3 0 0 [.ref (g_ad G 38), .int 5, .int (nI g), .long x] (g_hp G C (g_hm G M ++ ob)) (some (.long (f_sB 5 (M.1 0) g x))) (g_hp G C (g_hm G M ++ ob)) := by
  have hp : 2 ^ M.1 0 ≤ 64 := Nat.pow_le_pow_right (by decide) hn
  refine g_Run.of (lv := [(0, .ref (g_ad G 38)), (1, .int 5), (2, .int (nI g)), (3, .long x)]) (by decide) (Nat.le_of_ble_eq_true rfl) rfl ?_
  refine a_lload_n 3 1 rfl dX12_setsBy_0 rfl rfl ?_
  refine a_aload_n 0 2 rfl dX12_setsBy_1 rfl rfl ?_
  refine a_callV (as := []) (rest := [.long x]) (st2 := [.int (nI (2 ^ M.1 0)), .long x]) (u1 := 0) (v1 := 0) (u2 := 0) (v2 := 0) (r_allM hn) (⟨_, _, _, _, rfl, rfl⟩) oX12_all q_1253 q_1255 q_85 rfl (by omega) (by decide) rfl (Nat.le_of_ble_eq_true rfl) 5 rfl dX12_setsBy_2 rfl ?_
  refine a_callS (as := [.int (nI (2 ^ M.1 0))]) (rest := [.long x]) (st2 := [.long (f_all (2 ^ M.1 0)), .long x]) (u1 := 0) (v1 := 0) (u2 := 0) (v2 := 0) (r_bits hp) oX12_bits q_1257 q_1258 rfl (by omega) (by decide) rfl (Nat.le_of_ble_eq_true rfl) 8 rfl dX12_setsBy_5 rfl ?_
  refine a_land 9 rfl dX12_setsBy_8 ?_
  refine a_lstore (lv' := [(5, .long (x &&& (f_all (2 ^ M.1 0)))), (0, .ref (g_ad G 38)), (1, .int 5), (2, .int (nI g)), (3, .long x)]) 11 rfl dX12_setsBy_9 (by decide) rfl ?_
  refine a_lconst (x := 0) 12 rfl dX12_setsBy_11 (by decide) ?_
  refine a_lstore (lv' := [(7, .long 0), (5, .long (x &&& (f_all (2 ^ M.1 0)))), (0, .ref (g_ad G 38)), (1, .int 5), (2, .int (nI g)), (3, .long x)]) 14 rfl dX12_setsBy_12 (by decide) rfl ?_
  refine a_iconst (x := 0) 15 rfl dX12_setsBy_14 (by decide) ?_
  refine a_istore (lv' := [(9, .int 0), (7, .long 0), (5, .long (x &&& (f_all (2 ^ M.1 0)))), (0, .ref (g_ad G 38)), (1, .int 5), (2, .int (nI g)), (3, .long x)]) 17 rfl dX12_setsBy_15 (by decide) rfl ?_
  refine a_sub (lv' := [(9, .int (nI 0)), (7, .long (f_or (f_kd 5 (M.1 0) g (x &&& f_all (2 ^ M.1 0))) 0)), (5, .long (x &&& f_all (2 ^ M.1 0))), (0, .ref (g_ad G 38)), (1, .int 5), (2, .int (nI g))]) [0, 1, 2, 3, 4, 5] rfl ?_
  refine g_for (P := fun t9 => True) (2 ^ M.1 0) (fun t9 => [(9, .int (nI t9)), (7, .long (f_or (f_kd 5 (M.1 0) g (x &&& f_all (2 ^ M.1 0))) t9)), (5, .long (x &&& f_all (2 ^ M.1 0))), (0, .ref (g_ad G 38)), (1, .int 5), (2, .int (nI g))]) (fun t9 => (g_hp G C (g_hm G M ++ ob))) (trivial) (fun t9 h_t9 p_t9 k_t9 => ?_) (fun p_t9 => ?_)
  · skip
    skip
    have hm := r_mirM (G := G) (C := C) (M := M) (ob := ob) (s := 2 ^ M.1 0 - 1 - t9) hn (by omega)
    refine a_iload 0 19 rfl dX12_setsBy_17 rfl ?_
    refine a_aload_n 3 20 rfl dX12_setsBy_19 rfl rfl ?_
    refine a_callV (as := []) (rest := [.int (nI t9)]) (st2 := [.int (nI (2 ^ M.1 0)), .int (nI t9)]) (u1 := 0) (v1 := 0) (u2 := 0) (v2 := 0) (r_allM hn) (⟨_, _, _, _, rfl, rfl⟩) oX12_all q_1253 q_1255 q_85 rfl (by omega) (by decide) rfl (Nat.le_of_ble_eq_true rfl) 23 rfl dX12_setsBy_20 rfl ?_
    refine a_icmp_ge 212 26 rfl dX12_setsBy_23 (by decide) (fun hc => absurd hc (nI_ge (by omega) (by omega))) (fun _ => ?_)
    refine a_lload 2 28 rfl dX12_setsBy_26 rfl ?_
    refine a_iload 0 30 rfl dX12_setsBy_28 rfl ?_
    refine a_callS (as := [.long (x &&& f_all (2 ^ M.1 0)), .int (nI t9)]) (rest := []) (st2 := [.int (f_i (f_b (x &&& f_all (2 ^ M.1 0)) t9))]) (u1 := 0) (v1 := 0) (u2 := 0) (v2 := 0) (r_hasB (s := t9) (by omega)) oX12_has q_1304 q_1305 rfl (by omega) (by decide) rfl (Nat.le_of_ble_eq_true rfl) 33 rfl dX12_setsBy_30 rfl ?_
    refine a_istore (lv' := [(10, .int (f_i (f_b (x &&& f_all (2 ^ M.1 0)) t9))), (9, .int (nI t9)), (7, .long (f_or (f_kd 5 (M.1 0) g (x &&& f_all (2 ^ M.1 0))) t9)), (5, .long (x &&& f_all (2 ^ M.1 0))), (0, .ref (g_ad G 38)), (1, .int 5), (2, .int (nI g))]) 35 rfl dX12_setsBy_33 (by decide) rfl ?_
    refine a_iload_n 5 36 rfl dX12_setsBy_35 rfl rfl ?_
    refine g_sfx (pc := 172) (lv := [(10, .int (f_i (f_b (x &&& f_all (2 ^ M.1 0)) t9))), (9, .int (nI t9)), (7, .long (f_or (f_kd 5 (M.1 0) g (x &&& f_all (2 ^ M.1 0))) t9)), (5, .long (x &&& f_all (2 ^ M.1 0))), (0, .ref (g_ad G 38)), (1, .int 5), (2, .int (nI g))]) (st := [.long (cond (f_b (x &&& f_all (2 ^ M.1 0)) t9) (f_sl (1 : Int64) (nI (f_mirM (M.1 0) (2 ^ M.1 0 - 1 - t9) (M.1 0)))) 0), .long (f_or (f_kd 5 (M.1 0) g (x &&& f_all (2 ^ M.1 0))) t9)]) (h := (g_hp G C (g_hm G M ++ ob))) (fun key => ?_) ?_
    · skip
      refine a_tableIn (off := 110) 146 dX12_setsBy_36 (by decide) (by decide) (by decide) (by decide) ?_
      refine a_lload 2 148 rfl dX12_setsBy_146 rfl ?_
      refine a_iload 0 150 rfl dX12_setsBy_148 rfl ?_
      rcases Bool.eq_false_or_eq_true ((f_b (x &&& f_all (2 ^ M.1 0)) t9)) with c150_1 | c150_1
      · skip
        refine a_if_eq 171 153 rfl dX12_setsBy_150 (by decide) (fun hc => absurd hc (f_i_T c150_1)) (fun _ => ?_)
        refine a_lconst (x := 1) 154 rfl dX12_setsBy_153 (by decide) ?_
        refine a_aload_n 4 155 rfl dX12_setsBy_154 rfl rfl ?_
        refine a_aload_n 4 156 rfl dX12_setsBy_155 rfl rfl ?_
        refine a_callV (as := []) (rest := [.ref (g_ad G 38), .long 1, .long (f_or (f_kd 5 (M.1 0) g (x &&& f_all (2 ^ M.1 0))) t9)]) (st2 := [.int (nI (2 ^ M.1 0)), .ref (g_ad G 38), .long 1, .long (f_or (f_kd 5 (M.1 0) g (x &&& f_all (2 ^ M.1 0))) t9)]) (u1 := 0) (v1 := 0) (u2 := 0) (v2 := 0) (r_allM hn) (⟨_, _, _, _, rfl, rfl⟩) oX12_all q_1253 q_1255 q_85 rfl (by omega) (by decide) rfl (Nat.le_of_ble_eq_true rfl) 159 rfl dX12_setsBy_156 rfl ?_
        refine a_iconst (x := 1) 160 rfl dX12_setsBy_159 (by decide) ?_
        refine a_isub 161 rfl dX12_setsBy_160 ?_
        refine a_eq (st2 := [.int (nI ((2 ^ M.1 0) - 1)), .ref (g_ad G 38), .long 1, .long (f_or (f_kd 5 (M.1 0) g (x &&& f_all (2 ^ M.1 0))) t9)]) rfl rfl (congrArg (fun z9 => Value.int z9 :: [.ref (g_ad G 38), .long 1, .long (f_or (f_kd 5 (M.1 0) g (x &&& f_all (2 ^ M.1 0))) t9)]) (pk_sub (a := (2 ^ M.1 0)) (b := 1) (by omega))) rfl ?_
        refine a_iload 1 163 rfl dX12_setsBy_161 rfl ?_
        refine a_isub 164 rfl dX12_setsBy_163 ?_
        refine a_eq (st2 := [.int (nI (((2 ^ M.1 0) - 1) - t9)), .ref (g_ad G 38), .long 1, .long (f_or (f_kd 5 (M.1 0) g (x &&& f_all (2 ^ M.1 0))) t9)]) rfl rfl (congrArg (fun z9 => Value.int z9 :: [.ref (g_ad G 38), .long 1, .long (f_or (f_kd 5 (M.1 0) g (x &&& f_all (2 ^ M.1 0))) t9)]) (pk_sub (a := ((2 ^ M.1 0) - 1)) (b := t9) (by omega))) rfl ?_
        refine a_callV (as := [.int (nI (((2 ^ M.1 0) - 1) - t9))]) (rest := [.long 1, .long (f_or (f_kd 5 (M.1 0) g (x &&& f_all (2 ^ M.1 0))) t9)]) (st2 := [.int (nI (f_mirM (M.1 0) (2 ^ M.1 0 - 1 - t9) (M.1 0))), .long 1, .long (f_or (f_kd 5 (M.1 0) g (x &&& f_all (2 ^ M.1 0))) t9)]) (u1 := 0) (v1 := 0) (u2 := 0) (v2 := 0) (hm) (⟨_, _, _, _, rfl, rfl⟩) oX12_mirrored q_1307 q_1309 q_91 rfl (by omega) (by decide) rfl (Nat.le_of_ble_eq_true rfl) 167 rfl dX12_setsBy_164 rfl ?_
        refine a_lshl 168 rfl dX12_setsBy_167 ?_
        refine a_goto 172 dX12_setsBy_168 (by decide) ?_
        exact a_eq rfl (rfl) (by rw [c150_1]; rfl) rfl key
      · skip
        refine a_if_eq 171 153 rfl dX12_setsBy_150 (by decide) (fun _ => ?_) (fun hc => absurd (f_i_F c150_1) hc)
        refine a_lconst (x := 0) 172 rfl dX12_setsBy_171 (by decide) ?_
        exact a_eq rfl (rfl) (by rw [c150_1]; rfl) rfl key
    refine a_lor 173 rfl dX12_setsBy_172 ?_
    refine a_lstore (lv' := [(7, .long ((f_or (f_kd 5 (M.1 0) g (x &&& f_all (2 ^ M.1 0))) t9) ||| (cond (f_b (x &&& f_all (2 ^ M.1 0)) t9) (f_sl (1 : Int64) (nI (f_mirM (M.1 0) (2 ^ M.1 0 - 1 - t9) (M.1 0)))) 0))), (10, .int (f_i (f_b (x &&& f_all (2 ^ M.1 0)) t9))), (9, .int (nI t9)), (5, .long (x &&& f_all (2 ^ M.1 0))), (0, .ref (g_ad G 38)), (1, .int 5), (2, .int (nI g))]) 175 rfl dX12_setsBy_173 (by decide) rfl ?_
    refine a_goto 206 dX12_setsBy_175 (by decide) ?_
    refine a_iinc (y := nI (t9 + 1)) (lv' := [(9, .int (nI (t9 + 1))), (7, .long ((f_or (f_kd 5 (M.1 0) g (x &&& f_all (2 ^ M.1 0))) t9) ||| (cond (f_b (x &&& f_all (2 ^ M.1 0)) t9) (f_sl (1 : Int64) (nI (f_mirM (M.1 0) (2 ^ M.1 0 - 1 - t9) (M.1 0)))) 0))), (10, .int (f_i (f_b (x &&& f_all (2 ^ M.1 0)) t9))), (5, .long (x &&& f_all (2 ^ M.1 0))), (0, .ref (g_ad G 38)), (1, .int 5), (2, .int (nI g))]) 2 209 rfl dX12_setsBy_206 rfl (nI_1 t9) (by decide) rfl ?_
    refine a_goto 17 dX12_setsBy_209 (by decide) ?_
    refine a_sub (lv' := [(9, .int (nI (t9 + 1))), (7, .long (f_or (f_kd 5 (M.1 0) g (x &&& f_all (2 ^ M.1 0))) (t9 + 1))), (5, .long (x &&& f_all (2 ^ M.1 0))), (0, .ref (g_ad G 38)), (1, .int 5), (2, .int (nI g))]) [0, 1, 3, 4, 5, 6] rfl ?_
    exact k_t9 trivial
  · skip
    refine a_iload 0 19 rfl dX12_setsBy_17 rfl ?_
    refine a_aload_n 3 20 rfl dX12_setsBy_19 rfl rfl ?_
    refine a_callV (as := []) (rest := [.int (nI (2 ^ M.1 0))]) (st2 := [.int (nI (2 ^ M.1 0)), .int (nI (2 ^ M.1 0))]) (u1 := 0) (v1 := 0) (u2 := 0) (v2 := 0) (r_allM hn) (⟨_, _, _, _, rfl, rfl⟩) oX12_all q_1253 q_1255 q_85 rfl (by omega) (by decide) rfl (Nat.le_of_ble_eq_true rfl) 23 rfl dX12_setsBy_20 rfl ?_
    refine a_icmp_ge 212 26 rfl dX12_setsBy_23 (by decide) (fun _ => ?_) (fun hc => absurd (nI_le (by omega) (by omega)) hc)
    refine a_iload_n 4 213 rfl dX12_setsBy_212 rfl rfl ?_
    refine a_iconst (x := 4) 214 rfl dX12_setsBy_213 (by decide) ?_
    refine a_icmp_eq 220 217 rfl dX12_setsBy_214 (by decide) (fun hc => absurd hc ((by decide))) (fun _ => ?_)
    refine a_lload 1 219 rfl dX12_setsBy_217 rfl ?_
    exact a_lreturn rfl (rfl) (rfl) dX12_setsBy_219

theorem r_setsBy3 {g : Nat} (hn : M.1 0 ≤ 6) (hg : g < 10) : g_Run G mX12_setsBy 3 0 0 [.ref (g_ad G 38), .int 3, .int (nI g), .long x] (g_hp G C (g_hm G M ++ ob)) (some (.long (f_sB 3 (M.1 0) g x))) (g_hp G C (g_hm G M ++ ob)) := by
  have hp : 2 ^ M.1 0 ≤ 64 := Nat.pow_le_pow_right (by decide) hn
  refine g_Run.of (lv := [(0, .ref (g_ad G 38)), (1, .int 3), (2, .int (nI g)), (3, .long x)]) (by decide) (Nat.le_of_ble_eq_true rfl) rfl ?_
  refine a_lload_n 3 1 rfl dX12_setsBy_0 rfl rfl ?_
  refine a_aload_n 0 2 rfl dX12_setsBy_1 rfl rfl ?_
  refine a_callV (as := []) (rest := [.long x]) (st2 := [.int (nI (2 ^ M.1 0)), .long x]) (u1 := 0) (v1 := 0) (u2 := 0) (v2 := 0) (r_allM hn) (⟨_, _, _, _, rfl, rfl⟩) oX12_all q_1253 q_1255 q_85 rfl (by omega) (by decide) rfl (Nat.le_of_ble_eq_true rfl) 5 rfl dX12_setsBy_2 rfl ?_
  refine a_callS (as := [.int (nI (2 ^ M.1 0))]) (rest := [.long x]) (st2 := [.long (f_all (2 ^ M.1 0)), .long x]) (u1 := 0) (v1 := 0) (u2 := 0) (v2 := 0) (r_bits hp) oX12_bits q_1257 q_1258 rfl (by omega) (by decide) rfl (Nat.le_of_ble_eq_true rfl) 8 rfl dX12_setsBy_5 rfl ?_
  refine a_land 9 rfl dX12_setsBy_8 ?_
  refine a_lstore (lv' := [(5, .long (x &&& (f_all (2 ^ M.1 0)))), (0, .ref (g_ad G 38)), (1, .int 3), (2, .int (nI g)), (3, .long x)]) 11 rfl dX12_setsBy_9 (by decide) rfl ?_
  refine a_lconst (x := 0) 12 rfl dX12_setsBy_11 (by decide) ?_
  refine a_lstore (lv' := [(7, .long 0), (5, .long (x &&& (f_all (2 ^ M.1 0)))), (0, .ref (g_ad G 38)), (1, .int 3), (2, .int (nI g)), (3, .long x)]) 14 rfl dX12_setsBy_12 (by decide) rfl ?_
  refine a_iconst (x := 0) 15 rfl dX12_setsBy_14 (by decide) ?_
  refine a_istore (lv' := [(9, .int 0), (7, .long 0), (5, .long (x &&& (f_all (2 ^ M.1 0)))), (0, .ref (g_ad G 38)), (1, .int 3), (2, .int (nI g)), (3, .long x)]) 17 rfl dX12_setsBy_15 (by decide) rfl ?_
  refine a_sub (lv' := [(9, .int (nI 0)), (7, .long (f_or (f_kd 3 (M.1 0) g (x &&& f_all (2 ^ M.1 0))) 0)), (5, .long (x &&& f_all (2 ^ M.1 0))), (0, .ref (g_ad G 38)), (1, .int 3), (2, .int (nI g))]) [0, 1, 2, 3, 4, 5] rfl ?_
  refine g_for (P := fun t9 => True) (2 ^ M.1 0) (fun t9 => [(9, .int (nI t9)), (7, .long (f_or (f_kd 3 (M.1 0) g (x &&& f_all (2 ^ M.1 0))) t9)), (5, .long (x &&& f_all (2 ^ M.1 0))), (0, .ref (g_ad G 38)), (1, .int 3), (2, .int (nI g))]) (fun t9 => (g_hp G C (g_hm G M ++ ob))) (trivial) (fun t9 h_t9 p_t9 k_t9 => ?_) (fun p_t9 => ?_)
  · skip
    have hq := f_pop_le (nI t9).toInt64
    have hm := r_mirM (G := G) (C := C) (M := M) (ob := ob) (s := 2 ^ M.1 0 - 1 - t9) hn (by omega)
    refine a_iload 0 19 rfl dX12_setsBy_17 rfl ?_
    refine a_aload_n 3 20 rfl dX12_setsBy_19 rfl rfl ?_
    refine a_callV (as := []) (rest := [.int (nI t9)]) (st2 := [.int (nI (2 ^ M.1 0)), .int (nI t9)]) (u1 := 0) (v1 := 0) (u2 := 0) (v2 := 0) (r_allM hn) (⟨_, _, _, _, rfl, rfl⟩) oX12_all q_1253 q_1255 q_85 rfl (by omega) (by decide) rfl (Nat.le_of_ble_eq_true rfl) 23 rfl dX12_setsBy_20 rfl ?_
    refine a_icmp_ge 212 26 rfl dX12_setsBy_23 (by decide) (fun hc => absurd hc (nI_ge (by omega) (by omega))) (fun _ => ?_)
    refine a_lload 2 28 rfl dX12_setsBy_26 rfl ?_
    refine a_iload 0 30 rfl dX12_setsBy_28 rfl ?_
    refine a_callS (as := [.long (x &&& f_all (2 ^ M.1 0)), .int (nI t9)]) (rest := []) (st2 := [.int (f_i (f_b (x &&& f_all (2 ^ M.1 0)) t9))]) (u1 := 0) (v1 := 0) (u2 := 0) (v2 := 0) (r_hasB (s := t9) (by omega)) oX12_has q_1304 q_1305 rfl (by omega) (by decide) rfl (Nat.le_of_ble_eq_true rfl) 33 rfl dX12_setsBy_30 rfl ?_
    refine a_istore (lv' := [(10, .int (f_i (f_b (x &&& f_all (2 ^ M.1 0)) t9))), (9, .int (nI t9)), (7, .long (f_or (f_kd 3 (M.1 0) g (x &&& f_all (2 ^ M.1 0))) t9)), (5, .long (x &&& f_all (2 ^ M.1 0))), (0, .ref (g_ad G 38)), (1, .int 3), (2, .int (nI g))]) 35 rfl dX12_setsBy_33 (by decide) rfl ?_
    refine a_iload_n 5 36 rfl dX12_setsBy_35 rfl rfl ?_
    
    refine g_sfx (pc := 203) (lv := [(10, .int (f_i (f_b (x &&& f_all (2 ^ M.1 0)) t9))), (9, .int (nI t9)), (7, .long (f_or (f_kd 3 (M.1 0) g (x &&& f_all (2 ^ M.1 0))) t9)), (5, .long (x &&& f_all (2 ^ M.1 0))), (0, .ref (g_ad G 38)), (1, .int 3), (2, .int (nI g))]) (st := [.long (cond (f_b (x &&& f_all (2 ^ M.1 0)) t9) (cond (decide ((f_pop ((nI t9).toInt64)) = g)) (f_sl (1 : Int64) (nI t9)) 0) 0), .long (f_or (f_kd 3 (M.1 0) g (x &&& f_all (2 ^ M.1 0))) t9)]) (h := (g_hp G C (g_hm G M ++ ob))) (fun key => ?_) ?_
    · skip
      refine a_tableIn (off := 142) 178 dX12_setsBy_36 (by decide) (by decide) (by decide) (by decide) ?_
      refine a_lload 2 180 rfl dX12_setsBy_178 rfl ?_
      refine a_iload 0 182 rfl dX12_setsBy_180 rfl ?_
      rcases Bool.eq_false_or_eq_true ((f_b (x &&& f_all (2 ^ M.1 0)) t9)) with c182_1 | c182_1
      · skip
        refine a_if_eq 202 185 rfl dX12_setsBy_182 (by decide) (fun hc => absurd hc (f_i_T c182_1)) (fun _ => ?_)
        refine a_iload 1 187 rfl dX12_setsBy_185 rfl ?_
        refine a_i2l 188 rfl dX12_setsBy_187 ?_
        refine a_callS (as := [.long ((nI t9).toInt64)]) (rest := [.long (f_or (f_kd 3 (M.1 0) g (x &&& f_all (2 ^ M.1 0))) t9)]) (st2 := [.int (nI (f_pop ((nI t9).toInt64))), .long (f_or (f_kd 3 (M.1 0) g (x &&& f_all (2 ^ M.1 0))) t9)]) (u1 := 0) (v1 := 0) (u2 := 0) (v2 := 0) (r_many) oX12_many q_1311 q_1312 rfl (by omega) (by decide) rfl (Nat.le_of_ble_eq_true rfl) 191 rfl dX12_setsBy_188 rfl ?_
        refine a_iload_n 6 192 rfl dX12_setsBy_191 rfl rfl ?_
        rcases Bool.eq_false_or_eq_true (decide ((f_pop ((nI t9).toInt64)) = g)) with c192_2 | c192_2
        · skip
          refine a_icmp_ne 202 195 rfl dX12_setsBy_192 (by decide) (fun hc => absurd (congrArg nI (of_decide_eq_true c192_2)) hc) (fun _ => ?_)
          refine a_lconst (x := 1) 196 rfl dX12_setsBy_195 (by decide) ?_
          refine a_iload 1 198 rfl dX12_setsBy_196 rfl ?_
          refine a_lshl 199 rfl dX12_setsBy_198 ?_
          refine a_goto 203 dX12_setsBy_199 (by decide) ?_
          exact a_eq rfl (rfl) (by rw [c182_1, c192_2]; rfl) rfl key
        · skip
          refine a_icmp_ne 202 195 rfl dX12_setsBy_192 (by decide) (fun _ => ?_) (fun hc => absurd hc (fun z9 => of_decide_eq_false c192_2 (nI_inj9 (a := (f_pop ((nI t9).toInt64))) (b := g) (by omega) (by omega) z9)))
          refine a_lconst (x := 0) 203 rfl dX12_setsBy_202 (by decide) ?_
          exact a_eq rfl (rfl) (by rw [c182_1, c192_2]; rfl) rfl key
      · skip
        refine a_if_eq 202 185 rfl dX12_setsBy_182 (by decide) (fun _ => ?_) (fun hc => absurd (f_i_F c182_1) hc)
        refine a_lconst (x := 0) 203 rfl dX12_setsBy_202 (by decide) ?_
        exact a_eq rfl (rfl) (by rw [c182_1]; rfl) rfl key
    refine a_lor 204 rfl dX12_setsBy_203 ?_
    refine a_lstore (lv' := [(7, .long ((f_or (f_kd 3 (M.1 0) g (x &&& f_all (2 ^ M.1 0))) t9) ||| (cond (f_b (x &&& f_all (2 ^ M.1 0)) t9) (cond (decide ((f_pop ((nI t9).toInt64)) = g)) (f_sl (1 : Int64) (nI t9)) 0) 0))), (10, .int (f_i (f_b (x &&& f_all (2 ^ M.1 0)) t9))), (9, .int (nI t9)), (5, .long (x &&& f_all (2 ^ M.1 0))), (0, .ref (g_ad G 38)), (1, .int 3), (2, .int (nI g))]) 206 rfl dX12_setsBy_204 (by decide) rfl ?_
    refine a_iinc (y := nI (t9 + 1)) (lv' := [(9, .int (nI (t9 + 1))), (7, .long ((f_or (f_kd 3 (M.1 0) g (x &&& f_all (2 ^ M.1 0))) t9) ||| (cond (f_b (x &&& f_all (2 ^ M.1 0)) t9) (cond (decide ((f_pop ((nI t9).toInt64)) = g)) (f_sl (1 : Int64) (nI t9)) 0) 0))), (10, .int (f_i (f_b (x &&& f_all (2 ^ M.1 0)) t9))), (5, .long (x &&& f_all (2 ^ M.1 0))), (0, .ref (g_ad G 38)), (1, .int 3), (2, .int (nI g))]) 2 209 rfl dX12_setsBy_206 rfl (nI_1 t9) (by decide) rfl ?_
    refine a_goto 17 dX12_setsBy_209 (by decide) ?_
    refine a_sub (lv' := [(9, .int (nI (t9 + 1))), (7, .long (f_or (f_kd 3 (M.1 0) g (x &&& f_all (2 ^ M.1 0))) (t9 + 1))), (5, .long (x &&& f_all (2 ^ M.1 0))), (0, .ref (g_ad G 38)), (1, .int 3), (2, .int (nI g))]) [0, 1, 3, 4, 5, 6] rfl ?_
    exact k_t9 trivial
  · skip
    refine a_iload 0 19 rfl dX12_setsBy_17 rfl ?_
    refine a_aload_n 3 20 rfl dX12_setsBy_19 rfl rfl ?_
    refine a_callV (as := []) (rest := [.int (nI (2 ^ M.1 0))]) (st2 := [.int (nI (2 ^ M.1 0)), .int (nI (2 ^ M.1 0))]) (u1 := 0) (v1 := 0) (u2 := 0) (v2 := 0) (r_allM hn) (⟨_, _, _, _, rfl, rfl⟩) oX12_all q_1253 q_1255 q_85 rfl (by omega) (by decide) rfl (Nat.le_of_ble_eq_true rfl) 23 rfl dX12_setsBy_20 rfl ?_
    refine a_icmp_ge 212 26 rfl dX12_setsBy_23 (by decide) (fun _ => ?_) (fun hc => absurd (nI_le (by omega) (by omega)) hc)
    refine a_iload_n 4 213 rfl dX12_setsBy_212 rfl rfl ?_
    refine a_iconst (x := 4) 214 rfl dX12_setsBy_213 (by decide) ?_
    refine a_icmp_eq 220 217 rfl dX12_setsBy_214 (by decide) (fun hc => absurd hc ((by decide))) (fun _ => ?_)
    refine a_lload 1 219 rfl dX12_setsBy_217 rfl ?_
    exact a_lreturn rfl (rfl) (rfl) dX12_setsBy_219

theorem r_setsBy4 {g : Nat} (hn : M.1 0 ≤ 6) (hg : g < 10) : g_Run G mX12_setsBy 3 0 0 [.ref (g_ad G 38), .int 4, .int (nI g), .long x] (g_hp G C (g_hm G M ++ ob)) (some (.long (f_sB 4 (M.1 0) g x))) (g_hp G C (g_hm G M ++ ob)) := by
  have hp : 2 ^ M.1 0 ≤ 64 := Nat.pow_le_pow_right (by decide) hn
  obtain ⟨own, eo⟩ : ∃ own, own = x &&& f_all (2 ^ M.1 0) := ⟨_, rfl⟩
  obtain ⟨set, es⟩ : ∃ set, set = f_or (f_kd 4 (M.1 0) g own) (2 ^ M.1 0) := ⟨_, rfl⟩
  show g_Run G mX12_setsBy 3 0 0 _ _ (some (.long (f_or (fun s => cond (f_ex (fun o => f_b (f_or (f_kd 4 (M.1 0) g (x &&& f_all (2 ^ M.1 0))) (2 ^ M.1 0)) o && decide (s &&& o = s)) (2 ^ M.1 0)) (f_sl 1 (nI s)) 0) (2 ^ M.1 0)))) _
  rw [← eo, ← es]
  refine g_Run.of (lv := [(0, .ref (g_ad G 38)), (1, .int 4), (2, .int (nI g)), (3, .long x)]) (by decide) (Nat.le_of_ble_eq_true rfl) rfl ?_
  refine a_lload_n 3 1 rfl dX12_setsBy_0 rfl rfl ?_
  refine a_aload_n 0 2 rfl dX12_setsBy_1 rfl rfl ?_
  refine a_callV (as := []) (rest := [.long x]) (st2 := [.int (nI (2 ^ M.1 0)), .long x]) (u1 := 0) (v1 := 0) (u2 := 0) (v2 := 0) (r_allM hn) (⟨_, _, _, _, rfl, rfl⟩) oX12_all q_1253 q_1255 q_85 rfl (by omega) (by decide) rfl (Nat.le_of_ble_eq_true rfl) 5 rfl dX12_setsBy_2 rfl ?_
  refine a_callS (as := [.int (nI (2 ^ M.1 0))]) (rest := [.long x]) (st2 := [.long (f_all (2 ^ M.1 0)), .long x]) (u1 := 0) (v1 := 0) (u2 := 0) (v2 := 0) (r_bits hp) oX12_bits q_1257 q_1258 rfl (by omega) (by decide) rfl (Nat.le_of_ble_eq_true rfl) 8 rfl dX12_setsBy_5 rfl ?_
  refine a_land 9 rfl dX12_setsBy_8 ?_
  refine a_eq (st2 := [.long own]) rfl rfl (congrArg (fun z9 => Value.long z9 :: []) (eo.symm)) rfl ?_
  refine a_lstore (lv' := [(5, .long own), (0, .ref (g_ad G 38)), (1, .int 4), (2, .int (nI g)), (3, .long x)]) 11 rfl dX12_setsBy_9 (by decide) rfl ?_
  refine a_lconst (x := 0) 12 rfl dX12_setsBy_11 (by decide) ?_
  refine a_lstore (lv' := [(7, .long 0), (5, .long own), (0, .ref (g_ad G 38)), (1, .int 4), (2, .int (nI g)), (3, .long x)]) 14 rfl dX12_setsBy_12 (by decide) rfl ?_
  refine a_iconst (x := 0) 15 rfl dX12_setsBy_14 (by decide) ?_
  refine a_istore (lv' := [(9, .int 0), (7, .long 0), (5, .long own), (0, .ref (g_ad G 38)), (1, .int 4), (2, .int (nI g)), (3, .long x)]) 17 rfl dX12_setsBy_15 (by decide) rfl ?_
  refine a_sub (lv' := [(9, .int (nI 0)), (7, .long (f_or (f_kd 4 (M.1 0) g own) 0)), (5, .long own), (0, .ref (g_ad G 38)), (1, .int 4), (2, .int (nI g))]) [0, 1, 2, 3, 4, 5] rfl ?_
  refine g_for (P := fun t9 => True) (2 ^ M.1 0) (fun t9 => [(9, .int (nI t9)), (7, .long (f_or (f_kd 4 (M.1 0) g own) t9)), (5, .long own), (0, .ref (g_ad G 38)), (1, .int 4), (2, .int (nI g))]) (fun t9 => (g_hp G C (g_hm G M ++ ob))) (trivial) (fun t9 h_t9 p_t9 k_t9 => ?_) (fun p_t9 => ?_)
  · skip
    have hq := f_pop_le (nI t9).toInt64
    refine a_iload 0 19 rfl dX12_setsBy_17 rfl ?_
    refine a_aload_n 3 20 rfl dX12_setsBy_19 rfl rfl ?_
    refine a_callV (as := []) (rest := [.int (nI t9)]) (st2 := [.int (nI (2 ^ M.1 0)), .int (nI t9)]) (u1 := 0) (v1 := 0) (u2 := 0) (v2 := 0) (r_allM hn) (⟨_, _, _, _, rfl, rfl⟩) oX12_all q_1253 q_1255 q_85 rfl (by omega) (by decide) rfl (Nat.le_of_ble_eq_true rfl) 23 rfl dX12_setsBy_20 rfl ?_
    refine a_icmp_ge 212 26 rfl dX12_setsBy_23 (by decide) (fun hc => absurd hc (nI_ge (by omega) (by omega))) (fun _ => ?_)
    refine a_lload 2 28 rfl dX12_setsBy_26 rfl ?_
    refine a_iload 0 30 rfl dX12_setsBy_28 rfl ?_
    refine a_callS (as := [.long own, .int (nI t9)]) (rest := []) (st2 := [.int (f_i (f_b own t9))]) (u1 := 0) (v1 := 0) (u2 := 0) (v2 := 0) (r_hasB (s := t9) (by omega)) oX12_has q_1304 q_1305 rfl (by omega) (by decide) rfl (Nat.le_of_ble_eq_true rfl) 33 rfl dX12_setsBy_30 rfl ?_
    refine a_istore (lv' := [(10, .int (f_i (f_b own t9))), (9, .int (nI t9)), (7, .long (f_or (f_kd 4 (M.1 0) g own) t9)), (5, .long own), (0, .ref (g_ad G 38)), (1, .int 4), (2, .int (nI g))]) 35 rfl dX12_setsBy_33 (by decide) rfl ?_
    refine a_iload_n 5 36 rfl dX12_setsBy_35 rfl rfl ?_
    refine g_sfx (pc := 203) (lv := [(10, .int (f_i (f_b own t9))), (9, .int (nI t9)), (7, .long (f_or (f_kd 4 (M.1 0) g own) t9)), (5, .long own), (0, .ref (g_ad G 38)), (1, .int 4), (2, .int (nI g))]) (st := [.long (cond (f_b own t9) (cond (decide ((f_pop ((nI t9).toInt64)) = g)) (f_sl (1 : Int64) (nI t9)) 0) 0), .long (f_or (f_kd 4 (M.1 0) g own) t9)]) (h := (g_hp G C (g_hm G M ++ ob))) (fun key => ?_) ?_
    · skip
      refine a_tableIn (off := 142) 178 dX12_setsBy_36 (by decide) (by decide) (by decide) (by decide) ?_
      refine a_lload 2 180 rfl dX12_setsBy_178 rfl ?_
      refine a_iload 0 182 rfl dX12_setsBy_180 rfl ?_
      rcases Bool.eq_false_or_eq_true ((f_b own t9)) with c182_1 | c182_1
      · skip
        refine a_if_eq 202 185 rfl dX12_setsBy_182 (by decide) (fun hc => absurd hc (f_i_T c182_1)) (fun _ => ?_)
        refine a_iload 1 187 rfl dX12_setsBy_185 rfl ?_
        refine a_i2l 188 rfl dX12_setsBy_187 ?_
        refine a_callS (as := [.long ((nI t9).toInt64)]) (rest := [.long (f_or (f_kd 4 (M.1 0) g own) t9)]) (st2 := [.int (nI (f_pop ((nI t9).toInt64))), .long (f_or (f_kd 4 (M.1 0) g own) t9)]) (u1 := 0) (v1 := 0) (u2 := 0) (v2 := 0) (r_many) oX12_many q_1311 q_1312 rfl (by omega) (by decide) rfl (Nat.le_of_ble_eq_true rfl) 191 rfl dX12_setsBy_188 rfl ?_
        refine a_iload_n 6 192 rfl dX12_setsBy_191 rfl rfl ?_
        rcases Bool.eq_false_or_eq_true (decide ((f_pop ((nI t9).toInt64)) = g)) with c192_2 | c192_2
        · skip
          refine a_icmp_ne 202 195 rfl dX12_setsBy_192 (by decide) (fun hc => absurd (congrArg nI (of_decide_eq_true c192_2)) hc) (fun _ => ?_)
          refine a_lconst (x := 1) 196 rfl dX12_setsBy_195 (by decide) ?_
          refine a_iload 1 198 rfl dX12_setsBy_196 rfl ?_
          refine a_lshl 199 rfl dX12_setsBy_198 ?_
          refine a_goto 203 dX12_setsBy_199 (by decide) ?_
          exact a_eq rfl (rfl) (by rw [c182_1, c192_2]; rfl) rfl key
        · skip
          refine a_icmp_ne 202 195 rfl dX12_setsBy_192 (by decide) (fun _ => ?_) (fun hc => absurd hc (fun z9 => of_decide_eq_false c192_2 (nI_inj9 (a := (f_pop ((nI t9).toInt64))) (b := g) (by omega) (by omega) z9)))
          refine a_lconst (x := 0) 203 rfl dX12_setsBy_202 (by decide) ?_
          exact a_eq rfl (rfl) (by rw [c182_1, c192_2]; rfl) rfl key
      · skip
        refine a_if_eq 202 185 rfl dX12_setsBy_182 (by decide) (fun _ => ?_) (fun hc => absurd (f_i_F c182_1) hc)
        refine a_lconst (x := 0) 203 rfl dX12_setsBy_202 (by decide) ?_
        exact a_eq rfl (rfl) (by rw [c182_1]; rfl) rfl key
    refine a_lor 204 rfl dX12_setsBy_203 ?_
    refine a_lstore (lv' := [(7, .long ((f_or (f_kd 4 (M.1 0) g own) t9) ||| (cond (f_b own t9) (cond (decide ((f_pop ((nI t9).toInt64)) = g)) (f_sl (1 : Int64) (nI t9)) 0) 0))), (10, .int (f_i (f_b own t9))), (9, .int (nI t9)), (5, .long own), (0, .ref (g_ad G 38)), (1, .int 4), (2, .int (nI g))]) 206 rfl dX12_setsBy_204 (by decide) rfl ?_
    refine a_iinc (y := nI (t9 + 1)) (lv' := [(9, .int (nI (t9 + 1))), (7, .long ((f_or (f_kd 4 (M.1 0) g own) t9) ||| (cond (f_b own t9) (cond (decide ((f_pop ((nI t9).toInt64)) = g)) (f_sl (1 : Int64) (nI t9)) 0) 0))), (10, .int (f_i (f_b own t9))), (5, .long own), (0, .ref (g_ad G 38)), (1, .int 4), (2, .int (nI g))]) 2 209 rfl dX12_setsBy_206 rfl (nI_1 t9) (by decide) rfl ?_
    refine a_goto 17 dX12_setsBy_209 (by decide) ?_
    refine a_sub (lv' := [(9, .int (nI (t9 + 1))), (7, .long (f_or (f_kd 4 (M.1 0) g own) (t9 + 1))), (5, .long own), (0, .ref (g_ad G 38)), (1, .int 4), (2, .int (nI g))]) [0, 1, 3, 4, 5, 6] rfl ?_
    exact k_t9 trivial
  · skip
    refine a_eq (lv2 := [(9, .int (nI (2 ^ M.1 0))), (7, .long set), (5, .long own), (0, .ref (g_ad G 38)), (1, .int 4), (2, .int (nI g))]) rfl (congrArg (fun z9 => ([(9, .int (nI (2 ^ M.1 0))), (7, .long z9), (5, .long own), (0, .ref (g_ad G 38)), (1, .int 4), (2, .int (nI g))] : List (Nat × Value))) (es.symm)) rfl rfl ?_
    refine a_iload 0 19 rfl dX12_setsBy_17 rfl ?_
    refine a_aload_n 3 20 rfl dX12_setsBy_19 rfl rfl ?_
    refine a_callV (as := []) (rest := [.int (nI (2 ^ M.1 0))]) (st2 := [.int (nI (2 ^ M.1 0)), .int (nI (2 ^ M.1 0))]) (u1 := 0) (v1 := 0) (u2 := 0) (v2 := 0) (r_allM hn) (⟨_, _, _, _, rfl, rfl⟩) oX12_all q_1253 q_1255 q_85 rfl (by omega) (by decide) rfl (Nat.le_of_ble_eq_true rfl) 23 rfl dX12_setsBy_20 rfl ?_
    refine a_icmp_ge 212 26 rfl dX12_setsBy_23 (by decide) (fun _ => ?_) (fun hc => absurd (nI_le (by omega) (by omega)) hc)
    refine a_iload_n 4 213 rfl dX12_setsBy_212 rfl rfl ?_
    refine a_iconst (x := 4) 214 rfl dX12_setsBy_213 (by decide) ?_
    refine a_icmp_eq 220 217 rfl dX12_setsBy_214 (by decide) (fun _ => ?_) (fun hc => absurd (rfl) hc)
    refine a_lconst (x := 0) 221 rfl dX12_setsBy_220 (by decide) ?_
    refine a_lstore (lv' := [(9, .long 0), (7, .long set), (5, .long own), (0, .ref (g_ad G 38)), (1, .int 4), (2, .int (nI g))]) 223 rfl dX12_setsBy_221 (by decide) rfl ?_
    refine a_iconst (x := 0) 224 rfl dX12_setsBy_223 (by decide) ?_
    refine a_istore (lv' := [(11, .int 0), (9, .long 0), (7, .long set), (5, .long own), (0, .ref (g_ad G 38)), (1, .int 4), (2, .int (nI g))]) 226 rfl dX12_setsBy_224 (by decide) rfl ?_
    refine a_sub (lv' := [(11, .int (nI 0)), (9, .long (f_or (fun s => cond (f_ex (fun o => f_b set o && decide (s &&& o = s)) (2 ^ M.1 0)) (f_sl 1 (nI s)) 0) 0)), (7, .long set), (0, .ref (g_ad G 38))]) [0, 1, 2, 4] rfl ?_
    refine g_for (P := fun s9 => True) (2 ^ M.1 0) (fun s9 => [(11, .int (nI s9)), (9, .long (f_or (fun s => cond (f_ex (fun o => f_b set o && decide (s &&& o = s)) (2 ^ M.1 0)) (f_sl 1 (nI s)) 0) s9)), (7, .long set), (0, .ref (g_ad G 38))]) (fun s9 => (g_hp G C (g_hm G M ++ ob))) (trivial) (fun s9 h_s9 p_s9 k_s9 => ?_) (fun p_s9 => ?_)
    · skip
      refine g_sfx (pc := 256) (lv := [(11, .int (nI s9)), (9, .long (f_or (fun s => cond (f_ex (fun o => f_b set o && decide (s &&& o = s)) (2 ^ M.1 0)) (f_sl 1 (nI s)) 0) s9)), (7, .long set), (0, .ref (g_ad G 38))]) (st := [.long (cond (f_ex (fun o => f_b set o && decide (s9 &&& o = s9)) (2 ^ M.1 0)) (f_sl (1 : Int64) (nI s9)) 0), .long (f_or (fun s => cond (f_ex (fun o => f_b set o && decide (s &&& o = s)) (2 ^ M.1 0)) (f_sl 1 (nI s)) 0) s9)]) (h := (g_hp G C (g_hm G M ++ ob))) (fun key => ?_) ?_
      · skip
        refine a_iload 0 228 rfl dX12_setsBy_226 rfl ?_
        refine a_aload_n 3 229 rfl dX12_setsBy_228 rfl rfl ?_
        refine a_callV (as := []) (rest := [.int (nI s9)]) (st2 := [.int (nI (2 ^ M.1 0)), .int (nI s9)]) (u1 := 0) (v1 := 0) (u2 := 0) (v2 := 0) (r_allM hn) (⟨_, _, _, _, rfl, rfl⟩) oX12_all q_1253 q_1255 q_85 rfl (by omega) (by decide) rfl (Nat.le_of_ble_eq_true rfl) 232 rfl dX12_setsBy_229 rfl ?_
        refine a_icmp_ge 265 235 rfl dX12_setsBy_232 (by decide) (fun hc => absurd hc (nI_ge (by omega) (by omega))) (fun _ => ?_)
        refine a_lload 1 237 rfl dX12_setsBy_235 rfl ?_
        refine a_aload_n 3 238 rfl dX12_setsBy_237 rfl rfl ?_
        refine a_iload 0 240 rfl dX12_setsBy_238 rfl ?_
        refine a_lload 2 242 rfl dX12_setsBy_240 rfl ?_
        refine a_callV (as := [.int (nI s9), .long set]) (rest := [.long (f_or (fun s => cond (f_ex (fun o => f_b set o && decide (s &&& o = s)) (2 ^ M.1 0)) (f_sl 1 (nI s)) 0) s9)]) (st2 := [.int (f_i (f_ex (fun o => f_b set o && decide (s9 &&& o = s9)) (2 ^ M.1 0))), .long (f_or (fun s => cond (f_ex (fun o => f_b set o && decide (s &&& o = s)) (2 ^ M.1 0)) (f_sl 1 (nI s)) 0) s9)]) (u1 := 0) (v1 := 0) (u2 := 0) (v2 := 0) (r_partM hn (s := s9) (x := set) (by omega)) (⟨_, _, _, _, rfl, rfl⟩) oX12_isPartOfOne q_1314 q_1316 q_92 rfl (by omega) (by decide) rfl (Nat.le_of_ble_eq_true rfl) 245 rfl dX12_setsBy_242 rfl ?_
        rcases Bool.eq_false_or_eq_true ((f_ex (fun o => f_b set o && decide (s9 &&& o = s9)) (2 ^ M.1 0))) with c245_1 | c245_1
        · skip
          refine a_if_eq 255 248 rfl dX12_setsBy_245 (by decide) (fun hc => absurd hc (f_i_T c245_1)) (fun _ => ?_)
          refine a_lconst (x := 1) 249 rfl dX12_setsBy_248 (by decide) ?_
          refine a_iload 0 251 rfl dX12_setsBy_249 rfl ?_
          refine a_lshl 252 rfl dX12_setsBy_251 ?_
          refine a_goto 256 dX12_setsBy_252 (by decide) ?_
          exact a_eq rfl (rfl) (by rw [c245_1]; rfl) rfl key
        · skip
          refine a_if_eq 255 248 rfl dX12_setsBy_245 (by decide) (fun _ => ?_) (fun hc => absurd (f_i_F c245_1) hc)
          refine a_lconst (x := 0) 256 rfl dX12_setsBy_255 (by decide) ?_
          exact a_eq rfl (rfl) (by rw [c245_1]; rfl) rfl key
      refine a_lor 257 rfl dX12_setsBy_256 ?_
      refine a_lstore (lv' := [(9, .long ((f_or (fun s => cond (f_ex (fun o => f_b set o && decide (s &&& o = s)) (2 ^ M.1 0)) (f_sl 1 (nI s)) 0) s9) ||| (cond (f_ex (fun o => f_b set o && decide (s9 &&& o = s9)) (2 ^ M.1 0)) (f_sl (1 : Int64) (nI s9)) 0))), (11, .int (nI s9)), (7, .long set), (0, .ref (g_ad G 38))]) 259 rfl dX12_setsBy_257 (by decide) rfl ?_
      refine a_iinc (y := nI (s9 + 1)) (lv' := [(11, .int (nI (s9 + 1))), (9, .long ((f_or (fun s => cond (f_ex (fun o => f_b set o && decide (s &&& o = s)) (2 ^ M.1 0)) (f_sl 1 (nI s)) 0) s9) ||| (cond (f_ex (fun o => f_b set o && decide (s9 &&& o = s9)) (2 ^ M.1 0)) (f_sl (1 : Int64) (nI s9)) 0))), (7, .long set), (0, .ref (g_ad G 38))]) 1 262 rfl dX12_setsBy_259 rfl (nI_1 s9) (by decide) rfl ?_
      refine a_goto 226 dX12_setsBy_262 (by decide) ?_
      refine a_sub (lv' := [(11, .int (nI (s9 + 1))), (9, .long (f_or (fun s => cond (f_ex (fun o => f_b set o && decide (s &&& o = s)) (2 ^ M.1 0)) (f_sl 1 (nI s)) 0) (s9 + 1))), (7, .long set), (0, .ref (g_ad G 38))]) [0, 1, 2, 3] rfl ?_
      exact k_s9 trivial
    · skip
      refine a_iload 0 228 rfl dX12_setsBy_226 rfl ?_
      refine a_aload_n 3 229 rfl dX12_setsBy_228 rfl rfl ?_
      refine a_callV (as := []) (rest := [.int (nI (2 ^ M.1 0))]) (st2 := [.int (nI (2 ^ M.1 0)), .int (nI (2 ^ M.1 0))]) (u1 := 0) (v1 := 0) (u2 := 0) (v2 := 0) (r_allM hn) (⟨_, _, _, _, rfl, rfl⟩) oX12_all q_1253 q_1255 q_85 rfl (by omega) (by decide) rfl (Nat.le_of_ble_eq_true rfl) 232 rfl dX12_setsBy_229 rfl ?_
      refine a_icmp_ge 265 235 rfl dX12_setsBy_232 (by decide) (fun _ => ?_) (fun hc => absurd (nI_le (by omega) (by omega)) hc)
      refine a_lload 1 267 rfl dX12_setsBy_265 rfl ?_
      exact a_lreturn rfl (rfl) (rfl) dX12_setsBy_267
theorem r_setsOf {j k g : Nat} {t : Int64} (hn : M.1 0 ≤ 6) (hj : j < M.1 1) (hm : M.1 1 ≤ 8) (hk : M.2.2.2.1 0 j = nI k) (hk6 : k < 6) (hg : M.2.2.2.1 1 j = nI g) (hg9 : g < 10) (ht : M.2.2.2.2 0 j = t) : g_Run G mX12_setsOf 4 0 0 [.ref (g_ad G 38), .int (nI j)] (g_hp G C (g_hm G M ++ ob)) (some (.long (f_sB k (M.1 0) g t))) (g_hp G C (g_hm G M ++ ob)) := by
  have w : g_Run G mX12_setsBy 3 0 0 [.ref (g_ad G 38), .int (nI k), .int (nI g), .long t] (g_hp G C (g_hm G M ++ ob)) (some (.long (f_sB k (M.1 0) g t))) (g_hp G C (g_hm G M ++ ob)) := by
    match k, hk6 with
    | 0, _ => exact r_setsBy0 hn hg9
    | 1, _ => exact r_setsBy1 hn hg9
    | 2, _ => exact r_setsBy2 hn hg9
    | 3, _ => exact r_setsBy3 hn hg9
    | 4, _ => exact r_setsBy4 hn hg9
    | 5, _ => exact r_setsBy5 hn hg9
  have hin : vp_in (nI j) 8 := vp_in_nI (by omega) (by omega)
  have hcl : (nI j).toNatClampNeg = j := g_cl (by omega)
  refine g_Run.of (lv := [(0, .ref (g_ad G 38)), (1, .int (nI j))]) (by decide) (Nat.le_of_ble_eq_true rfl) rfl ?_
  refine a_aload_n 0 1 rfl dX12_setsOf_0 rfl rfl ?_
  refine a_aload_n 0 2 rfl dX12_setsOf_1 rfl rfl ?_
  refine a_get 4 cl_11 f_RX12_15_11 (by decide) (rfl) rfl 5 rfl dX12_setsOf_2 ?_
  refine a_iload_n 1 6 rfl dX12_setsOf_5 rfl rfl ?_
  refine a_iald (rfl) (hin) 7 rfl dX12_setsOf_6 ?_
  refine a_eq (st2 := [.int (nI k), .ref (g_ad G 38)]) rfl rfl (congrArg (fun z9 => Value.int z9 :: [.ref (g_ad G 38)]) (by rw [hcl]; exact hk)) rfl ?_
  refine a_aload_n 0 8 rfl dX12_setsOf_7 rfl rfl ?_
  refine a_get 5 cl_11 f_RX12_19_11 (by decide) (rfl) rfl 11 rfl dX12_setsOf_8 ?_
  refine a_iload_n 1 12 rfl dX12_setsOf_11 rfl rfl ?_
  refine a_iald (rfl) (hin) 13 rfl dX12_setsOf_12 ?_
  refine a_eq (st2 := [.int (nI g), .int (nI k), .ref (g_ad G 38)]) rfl rfl (congrArg (fun z9 => Value.int z9 :: [.int (nI k), .ref (g_ad G 38)]) (by rw [hcl]; exact hg)) rfl ?_
  refine a_aload_n 0 14 rfl dX12_setsOf_13 rfl rfl ?_
  refine a_get 8 cl_11 f_RX12_28_11 (by decide) (rfl) rfl 17 rfl dX12_setsOf_14 ?_
  refine a_iload_n 1 18 rfl dX12_setsOf_17 rfl rfl ?_
  refine a_lald (rfl) (hin) 19 rfl dX12_setsOf_18 ?_
  refine a_eq (st2 := [.long t, .int (nI g), .int (nI k), .ref (g_ad G 38)]) rfl rfl (congrArg (fun z9 => Value.long z9 :: [.int (nI g), .int (nI k), .ref (g_ad G 38)]) (by rw [hcl]; exact ht)) rfl ?_
  refine a_callV (as := [.int (nI k), .int (nI g), .long t]) (rest := []) (st2 := [.long (f_sB k (M.1 0) g t)]) (u1 := 0) (v1 := 0) (u2 := 0) (v2 := 0) (w) (⟨_, _, _, _, rfl, rfl⟩) oX12_setsBy q_1300 q_1302 q_90 rfl (by omega) (by decide) rfl (Nat.le_of_ble_eq_true rfl) 22 rfl dX12_setsOf_19 rfl ?_
  exact a_lreturn rfl (rfl) (rfl) dX12_setsOf_22
/-- the shadows of the model -/
def f_shM (u : Bool) (n : Nat) (x : Int64) : Nat → Int64
  | 0 => 0
  | s + 1 => cond (f_b x s) (f_orF (f_shM u n x s) (fun e => cond (u ^^ Nat.testBit s e) (f_sl 1 (nI (s ^^^ 2 ^ e))) 0) n) (f_shM u n x s)
def f_edM (n : Nat) (x : Int64) : Nat → Nat
  | 0 => 0
  | s + 1 => cond (f_b x s) (f_smF (f_edM n x s) (fun e => Bool.toNat (!f_b x (s ^^^ 2 ^ e))) n) (f_edM n x s)
theorem r_shadow0 (hn : M.1 0 ≤ 6) (hn0 : 0 < M.1 0) : g_Run G mX12_shadow 3 0 0 [.ref (g_ad G 38), .long x, .int 0] (g_hp G C (g_hm G M ++ ob)) (some (.long (f_shM false (M.1 0) x (2 ^ M.1 0)))) (g_hp G C (g_hm G M ++ ob)) := by
  have hp : 2 ^ M.1 0 ≤ 64 := Nat.pow_le_pow_right (by decide) hn
  refine g_Run.of (lv := [(0, .ref (g_ad G 38)), (1, .long x), (3, .int 0)]) (by decide) (Nat.le_of_ble_eq_true rfl) rfl ?_
  refine a_lconst (x := 0) 1 rfl dX12_shadow_0 (by decide) ?_
  refine a_lstore (lv' := [(4, .long 0), (0, .ref (g_ad G 38)), (1, .long x), (3, .int 0)]) 3 rfl dX12_shadow_1 (by decide) rfl ?_
  refine a_iconst (x := 0) 4 rfl dX12_shadow_3 (by decide) ?_
  refine a_istore (lv' := [(6, .int 0), (4, .long 0), (0, .ref (g_ad G 38)), (1, .long x), (3, .int 0)]) 6 rfl dX12_shadow_4 (by decide) rfl ?_
  refine a_sub (lv' := [(6, .int (nI 0)), (4, .long (f_shM false (M.1 0) x 0)), (0, .ref (g_ad G 38)), (1, .long x), (3, .int 0)]) [0, 1, 2, 3, 4] rfl ?_
  refine g_for (P := fun s9 => True) (2 ^ M.1 0) (fun s9 => [(6, .int (nI s9)), (4, .long (f_shM false (M.1 0) x s9)), (0, .ref (g_ad G 38)), (1, .long x), (3, .int 0)]) (fun s9 => (g_hp G C (g_hm G M ++ ob))) (trivial) (fun s9 h_s9 p_s9 k_s9 => ?_) (fun p_s9 => ?_)
  · skip
    refine a_iload 0 8 rfl dX12_shadow_6 rfl ?_
    refine a_aload_n 2 9 rfl dX12_shadow_8 rfl rfl ?_
    refine a_callV (as := []) (rest := [.int (nI s9)]) (st2 := [.int (nI (2 ^ M.1 0)), .int (nI s9)]) (u1 := 0) (v1 := 0) (u2 := 0) (v2 := 0) (r_allM hn) (⟨_, _, _, _, rfl, rfl⟩) oX12_all q_1253 q_1255 q_85 rfl (by omega) (by decide) rfl (Nat.le_of_ble_eq_true rfl) 12 rfl dX12_shadow_9 rfl ?_
    refine a_icmp_ge 86 15 rfl dX12_shadow_12 (by decide) (fun hc => absurd hc (nI_ge (by omega) (by omega))) (fun _ => ?_)
    refine a_iconst (x := 0) 16 rfl dX12_shadow_15 (by decide) ?_
    refine a_istore (lv' := [(7, .int 0), (6, .int (nI s9)), (4, .long (f_shM false (M.1 0) x s9)), (0, .ref (g_ad G 38)), (1, .long x), (3, .int 0)]) 18 rfl dX12_shadow_16 (by decide) rfl ?_
    rcases Bool.eq_false_or_eq_true (f_b x s9) with e1 | e1
    · skip
      refine a_sub (lv' := [(7, .int (nI 0)), (4, .long (f_orF (f_shM false (M.1 0) x s9) (fun e => cond (false ^^ Nat.testBit s9 e) (f_sl 1 (nI (s9 ^^^ 2 ^ e))) 0) 0)), (6, .int (nI s9)), (0, .ref (g_ad G 38)), (1, .long x), (3, .int 0)]) [0, 2, 1, 3, 4, 5] rfl ?_
      refine g_for (P := fun e9 => True) (M.1 0) (fun e9 => [(7, .int (nI e9)), (4, .long (f_orF (f_shM false (M.1 0) x s9) (fun e => cond (false ^^ Nat.testBit s9 e) (f_sl 1 (nI (s9 ^^^ 2 ^ e))) 0) e9)), (6, .int (nI s9)), (0, .ref (g_ad G 38)), (1, .long x), (3, .int 0)]) (fun e9 => (g_hp G C (g_hm G M ++ ob))) (trivial) (fun e9 h_e9 p_e9 k_e9 => ?_) (fun p_e9 => ?_)
      · skip
        refine a_iload 0 20 rfl dX12_shadow_18 rfl ?_
        refine a_aload_n 3 21 rfl dX12_shadow_20 rfl rfl ?_
        refine a_get 0 cl_11 f_RX12_9_11 (by decide) (rfl) rfl 24 rfl dX12_shadow_21 ?_
        refine a_icmp_ge 80 27 rfl dX12_shadow_24 (by decide) (fun hc => absurd hc (nI_ge (by omega) (by omega))) (fun _ => ?_)
        refine a_lload_n 4 28 rfl dX12_shadow_27 rfl rfl ?_
        refine a_iload 2 30 rfl dX12_shadow_28 rfl ?_
        refine a_callS (as := [.long x, .int (nI s9)]) (rest := []) (st2 := [.int (f_i (f_b x s9))]) (u1 := 0) (v1 := 0) (u2 := 0) (v2 := 0) (r_hasB (s := s9) (by omega)) oX12_has q_1304 q_1305 rfl (by omega) (by decide) rfl (Nat.le_of_ble_eq_true rfl) 33 rfl dX12_shadow_30 rfl ?_
        refine a_if_eq 80 36 rfl dX12_shadow_33 (by decide) (fun hc => absurd hc (f_i_T e1)) (fun _ => ?_)
        refine a_lload 1 38 rfl dX12_shadow_36 rfl ?_
        refine a_iload 2 40 rfl dX12_shadow_38 rfl ?_
        refine a_iload 0 42 rfl dX12_shadow_40 rfl ?_
        refine a_ishr 43 rfl dX12_shadow_42 ?_
        refine a_iconst (x := 1) 44 rfl dX12_shadow_43 (by decide) ?_
        refine a_iand 45 rfl dX12_shadow_44 ?_
        refine a_eq (st2 := [.int (f_i (Nat.testBit s9 e9)), .long (f_orF (f_shM false (M.1 0) x s9) (fun e => cond (false ^^ Nat.testBit s9 e) (f_sl 1 (nI (s9 ^^^ 2 ^ e))) 0) e9)]) rfl rfl (congrArg (fun z9 => Value.int z9 :: [.long (f_orF (f_shM false (M.1 0) x s9) (fun e => cond (false ^^ Nat.testBit s9 e) (f_sl 1 (nI (s9 ^^^ 2 ^ e))) 0) e9)]) (f_tbI (s := s9) (e := e9) (by omega) (by omega))) rfl ?_
        refine a_iconst (x := 1) 46 rfl dX12_shadow_45 (by decide) ?_
        refine g_sfx (pc := 54) (lv := [(7, .int (nI e9)), (4, .long (f_orF (f_shM false (M.1 0) x s9) (fun e => cond (false ^^ Nat.testBit s9 e) (f_sl 1 (nI (s9 ^^^ 2 ^ e))) 0) e9)), (6, .int (nI s9)), (0, .ref (g_ad G 38)), (1, .long x), (3, .int 0)]) (st := [.int (f_i (Nat.testBit s9 e9)), .long (f_orF (f_shM false (M.1 0) x s9) (fun e => cond (false ^^ Nat.testBit s9 e) (f_sl 1 (nI (s9 ^^^ 2 ^ e))) 0) e9)]) (h := (g_hp G C (g_hm G M ++ ob))) (fun key => ?_) ?_
        · skip
          rcases Bool.eq_false_or_eq_true ((Nat.testBit s9 e9)) with c46_1 | c46_1
          · skip
            refine a_icmp_ne 53 49 rfl dX12_shadow_46 (by decide) (fun hc => absurd (f_i_T1 c46_1) hc) (fun _ => ?_)
            refine a_iconst (x := 1) 50 rfl dX12_shadow_49 (by decide) ?_
            refine a_goto 54 dX12_shadow_50 (by decide) ?_
            exact a_eq rfl (rfl) (by rw [c46_1]; rfl) rfl key
          · skip
            refine a_icmp_ne 53 49 rfl dX12_shadow_46 (by decide) (fun _ => ?_) (fun hc => absurd hc (f_i_F1 c46_1))
            refine a_iconst (x := 0) 54 rfl dX12_shadow_53 (by decide) ?_
            exact a_eq rfl (rfl) (by rw [c46_1]; rfl) rfl key
        refine g_sfx (pc := 71) (lv := [(7, .int (nI e9)), (4, .long (f_orF (f_shM false (M.1 0) x s9) (fun e => cond (false ^^ Nat.testBit s9 e) (f_sl 1 (nI (s9 ^^^ 2 ^ e))) 0) e9)), (6, .int (nI s9)), (0, .ref (g_ad G 38)), (1, .long x), (3, .int 0)]) (st := [.long (cond (Nat.testBit s9 e9) (f_sl (1 : Int64) (nI (s9 ^^^ (2 ^ e9)))) 0), .long (f_orF (f_shM false (M.1 0) x s9) (fun e => cond (false ^^ Nat.testBit s9 e) (f_sl 1 (nI (s9 ^^^ 2 ^ e))) 0) e9)]) (h := (g_hp G C (g_hm G M ++ ob))) (fun key => ?_) ?_
        · skip
          refine a_iload_n 5 55 rfl dX12_shadow_54 rfl rfl ?_
          rcases Bool.eq_false_or_eq_true ((Nat.testBit s9 e9)) with c55_1 | c55_1
          · skip
            refine a_icmp_eq 70 58 rfl dX12_shadow_55 (by decide) (fun hc => absurd hc (f_i_T c55_1)) (fun _ => ?_)
            refine a_lconst (x := 1) 59 rfl dX12_shadow_58 (by decide) ?_
            refine a_iload 2 61 rfl dX12_shadow_59 rfl ?_
            refine a_iconst (x := 1) 62 rfl dX12_shadow_61 (by decide) ?_
            refine a_iload 0 64 rfl dX12_shadow_62 rfl ?_
            refine a_ishl 65 rfl dX12_shadow_64 ?_
            refine a_eq (st2 := [.int (nI (2 ^ e9)), .int (nI s9), .long 1, .long (f_orF (f_shM false (M.1 0) x s9) (fun e => cond (false ^^ Nat.testBit s9 e) (f_sl 1 (nI (s9 ^^^ 2 ^ e))) 0) e9)]) rfl rfl (congrArg (fun z9 => Value.int z9 :: [.int (nI s9), .long 1, .long (f_orF (f_shM false (M.1 0) x s9) (fun e => cond (false ^^ Nat.testBit s9 e) (f_sl 1 (nI (s9 ^^^ 2 ^ e))) 0) e9)]) (f_shlI e9 (by omega))) rfl ?_
            refine a_ixor 66 rfl dX12_shadow_65 ?_
            refine a_eq (st2 := [.int (nI (s9 ^^^ (2 ^ e9))), .long 1, .long (f_orF (f_shM false (M.1 0) x s9) (fun e => cond (false ^^ Nat.testBit s9 e) (f_sl 1 (nI (s9 ^^^ 2 ^ e))) 0) e9)]) rfl rfl (congrArg (fun z9 => Value.int z9 :: [.long 1, .long (f_orF (f_shM false (M.1 0) x s9) (fun e => cond (false ^^ Nat.testBit s9 e) (f_sl 1 (nI (s9 ^^^ 2 ^ e))) 0) e9)]) (nI_xor s9 (2 ^ e9))) rfl ?_
            refine a_lshl 67 rfl dX12_shadow_66 ?_
            refine a_goto 71 dX12_shadow_67 (by decide) ?_
            exact a_eq rfl (rfl) (by rw [c55_1]; rfl) rfl key
          · skip
            refine a_icmp_eq 70 58 rfl dX12_shadow_55 (by decide) (fun _ => ?_) (fun hc => absurd (f_i_F c55_1) hc)
            refine a_lconst (x := 0) 71 rfl dX12_shadow_70 (by decide) ?_
            exact a_eq rfl (rfl) (by rw [c55_1]; rfl) rfl key
        refine a_eq (st2 := [.long (cond (false ^^ Nat.testBit s9 e9) (f_sl 1 (nI (s9 ^^^ (2 ^ e9)))) 0), .long (f_orF (f_shM false (M.1 0) x s9) (fun e => cond (false ^^ Nat.testBit s9 e) (f_sl 1 (nI (s9 ^^^ 2 ^ e))) 0) e9)]) rfl rfl (congrArg (fun z9 => Value.long z9 :: [.long (f_orF (f_shM false (M.1 0) x s9) (fun e => cond (false ^^ Nat.testBit s9 e) (f_sl 1 (nI (s9 ^^^ 2 ^ e))) 0) e9)]) (by cases Nat.testBit s9 e9 <;> rfl)) rfl ?_
        refine a_lor 72 rfl dX12_shadow_71 ?_
        refine a_lstore (lv' := [(4, .long ((f_orF (f_shM false (M.1 0) x s9) (fun e => cond (false ^^ Nat.testBit s9 e) (f_sl 1 (nI (s9 ^^^ 2 ^ e))) 0) e9) ||| (cond (false ^^ Nat.testBit s9 e9) (f_sl 1 (nI (s9 ^^^ (2 ^ e9)))) 0))), (7, .int (nI e9)), (6, .int (nI s9)), (0, .ref (g_ad G 38)), (1, .long x), (3, .int 0)]) 74 rfl dX12_shadow_72 (by decide) rfl ?_
        refine a_iinc (y := nI (e9 + 1)) (lv' := [(7, .int (nI (e9 + 1))), (4, .long ((f_orF (f_shM false (M.1 0) x s9) (fun e => cond (false ^^ Nat.testBit s9 e) (f_sl 1 (nI (s9 ^^^ 2 ^ e))) 0) e9) ||| (cond (false ^^ Nat.testBit s9 e9) (f_sl 1 (nI (s9 ^^^ (2 ^ e9)))) 0))), (6, .int (nI s9)), (0, .ref (g_ad G 38)), (1, .long x), (3, .int 0)]) 1 77 rfl dX12_shadow_74 rfl (nI_1 e9) (by decide) rfl ?_
        refine a_goto 18 dX12_shadow_77 (by decide) ?_
        refine a_sub (lv' := [(7, .int (nI (e9 + 1))), (4, .long (f_orF (f_shM false (M.1 0) x s9) (fun e => cond (false ^^ Nat.testBit s9 e) (f_sl 1 (nI (s9 ^^^ 2 ^ e))) 0) (e9 + 1))), (6, .int (nI s9)), (0, .ref (g_ad G 38)), (1, .long x), (3, .int 0)]) [0, 1, 2, 3, 4, 5] rfl ?_
        exact k_e9 trivial
      · skip
        refine a_iload 0 20 rfl dX12_shadow_18 rfl ?_
        refine a_aload_n 3 21 rfl dX12_shadow_20 rfl rfl ?_
        refine a_get 0 cl_11 f_RX12_9_11 (by decide) (rfl) rfl 24 rfl dX12_shadow_21 ?_
        refine a_icmp_ge 80 27 rfl dX12_shadow_24 (by decide) (fun _ => ?_) (fun hc => absurd (nI_le (by omega) (by omega)) hc)
        refine a_eq (lv2 := [(7, .int (nI (M.1 0))), (4, .long (f_shM false (M.1 0) x (s9 + 1))), (6, .int (nI s9)), (0, .ref (g_ad G 38)), (1, .long x), (3, .int 0)]) rfl (congrArg (fun z9 => ([(7, .int (nI (M.1 0))), (4, .long z9), (6, .int (nI s9)), (0, .ref (g_ad G 38)), (1, .long x), (3, .int 0)] : List (Nat × Value))) (by rw [f_shM, e1]; rfl)) rfl rfl ?_
        refine a_iinc (y := nI (s9 + 1)) (lv' := [(6, .int (nI (s9 + 1))), (7, .int (nI (M.1 0))), (4, .long (f_shM false (M.1 0) x (s9 + 1))), (0, .ref (g_ad G 38)), (1, .long x), (3, .int 0)]) 2 83 rfl dX12_shadow_80 rfl (nI_1 s9) (by decide) rfl ?_
        refine a_goto 6 dX12_shadow_83 (by decide) ?_
        refine a_sub (lv' := [(6, .int (nI (s9 + 1))), (4, .long (f_shM false (M.1 0) x (s9 + 1))), (0, .ref (g_ad G 38)), (1, .long x), (3, .int 0)]) [0, 2, 3, 4, 5] rfl ?_
        exact k_s9 trivial
    · skip
      refine a_iload 0 20 rfl dX12_shadow_18 rfl ?_
      refine a_aload_n 3 21 rfl dX12_shadow_20 rfl rfl ?_
      refine a_get 0 cl_11 f_RX12_9_11 (by decide) (rfl) rfl 24 rfl dX12_shadow_21 ?_
      refine a_icmp_ge 80 27 rfl dX12_shadow_24 (by decide) (fun hc => absurd hc (nI_ge (a := 0) (b := M.1 0) (by omega) (by omega))) (fun _ => ?_)
      refine a_lload_n 4 28 rfl dX12_shadow_27 rfl rfl ?_
      refine a_iload 1 30 rfl dX12_shadow_28 rfl ?_
      refine a_callS (as := [.long x, .int (nI s9)]) (rest := []) (st2 := [.int (f_i (f_b x s9))]) (u1 := 0) (v1 := 0) (u2 := 0) (v2 := 0) (r_hasB (s := s9) (by omega)) oX12_has q_1304 q_1305 rfl (by omega) (by decide) rfl (Nat.le_of_ble_eq_true rfl) 33 rfl dX12_shadow_30 rfl ?_
      refine a_if_eq 80 36 rfl dX12_shadow_33 (by decide) (fun _ => ?_) (fun hc => absurd (f_i_F e1) hc)
      refine a_eq (lv2 := [(7, .int 0), (6, .int (nI s9)), (4, .long (f_shM false (M.1 0) x (s9 + 1))), (0, .ref (g_ad G 38)), (1, .long x), (3, .int 0)]) rfl (congrArg (fun z9 => ([(7, .int 0), (6, .int (nI s9)), (4, .long z9), (0, .ref (g_ad G 38)), (1, .long x), (3, .int 0)] : List (Nat × Value))) (by rw [f_shM, e1]; rfl)) rfl rfl ?_
      refine a_iinc (y := nI (s9 + 1)) (lv' := [(6, .int (nI (s9 + 1))), (7, .int 0), (4, .long (f_shM false (M.1 0) x (s9 + 1))), (0, .ref (g_ad G 38)), (1, .long x), (3, .int 0)]) 1 83 rfl dX12_shadow_80 rfl (nI_1 s9) (by decide) rfl ?_
      refine a_goto 6 dX12_shadow_83 (by decide) ?_
      refine a_sub (lv' := [(6, .int (nI (s9 + 1))), (4, .long (f_shM false (M.1 0) x (s9 + 1))), (0, .ref (g_ad G 38)), (1, .long x), (3, .int 0)]) [0, 2, 3, 4, 5] rfl ?_
      exact k_s9 trivial
  · skip
    refine a_iload 0 8 rfl dX12_shadow_6 rfl ?_
    refine a_aload_n 2 9 rfl dX12_shadow_8 rfl rfl ?_
    refine a_callV (as := []) (rest := [.int (nI (2 ^ M.1 0))]) (st2 := [.int (nI (2 ^ M.1 0)), .int (nI (2 ^ M.1 0))]) (u1 := 0) (v1 := 0) (u2 := 0) (v2 := 0) (r_allM hn) (⟨_, _, _, _, rfl, rfl⟩) oX12_all q_1253 q_1255 q_85 rfl (by omega) (by decide) rfl (Nat.le_of_ble_eq_true rfl) 12 rfl dX12_shadow_9 rfl ?_
    refine a_icmp_ge 86 15 rfl dX12_shadow_12 (by decide) (fun _ => ?_) (fun hc => absurd (nI_le (by omega) (by omega)) hc)
    refine a_lload 1 88 rfl dX12_shadow_86 rfl ?_
    exact a_lreturn rfl (rfl) (rfl) dX12_shadow_88

theorem r_shadow1 (hn : M.1 0 ≤ 6) (hn0 : 0 < M.1 0) : g_Run G mX12_shadow 3 0 0 [.ref (g_ad G 38), .long x, .int 1] (g_hp G C (g_hm G M ++ ob)) (some (.long (f_shM true (M.1 0) x (2 ^ M.1 0)))) (g_hp G C (g_hm G M ++ ob)) := by
  have hp : 2 ^ M.1 0 ≤ 64 := Nat.pow_le_pow_right (by decide) hn
  refine g_Run.of (lv := [(0, .ref (g_ad G 38)), (1, .long x), (3, .int 1)]) (by decide) (Nat.le_of_ble_eq_true rfl) rfl ?_
  refine a_lconst (x := 0) 1 rfl dX12_shadow_0 (by decide) ?_
  refine a_lstore (lv' := [(4, .long 0), (0, .ref (g_ad G 38)), (1, .long x), (3, .int 1)]) 3 rfl dX12_shadow_1 (by decide) rfl ?_
  refine a_iconst (x := 0) 4 rfl dX12_shadow_3 (by decide) ?_
  refine a_istore (lv' := [(6, .int 0), (4, .long 0), (0, .ref (g_ad G 38)), (1, .long x), (3, .int 1)]) 6 rfl dX12_shadow_4 (by decide) rfl ?_
  refine a_sub (lv' := [(6, .int (nI 0)), (4, .long (f_shM true (M.1 0) x 0)), (0, .ref (g_ad G 38)), (1, .long x), (3, .int 1)]) [0, 1, 2, 3, 4] rfl ?_
  refine g_for (P := fun s9 => True) (2 ^ M.1 0) (fun s9 => [(6, .int (nI s9)), (4, .long (f_shM true (M.1 0) x s9)), (0, .ref (g_ad G 38)), (1, .long x), (3, .int 1)]) (fun s9 => (g_hp G C (g_hm G M ++ ob))) (trivial) (fun s9 h_s9 p_s9 k_s9 => ?_) (fun p_s9 => ?_)
  · skip
    refine a_iload 0 8 rfl dX12_shadow_6 rfl ?_
    refine a_aload_n 2 9 rfl dX12_shadow_8 rfl rfl ?_
    refine a_callV (as := []) (rest := [.int (nI s9)]) (st2 := [.int (nI (2 ^ M.1 0)), .int (nI s9)]) (u1 := 0) (v1 := 0) (u2 := 0) (v2 := 0) (r_allM hn) (⟨_, _, _, _, rfl, rfl⟩) oX12_all q_1253 q_1255 q_85 rfl (by omega) (by decide) rfl (Nat.le_of_ble_eq_true rfl) 12 rfl dX12_shadow_9 rfl ?_
    refine a_icmp_ge 86 15 rfl dX12_shadow_12 (by decide) (fun hc => absurd hc (nI_ge (by omega) (by omega))) (fun _ => ?_)
    refine a_iconst (x := 0) 16 rfl dX12_shadow_15 (by decide) ?_
    refine a_istore (lv' := [(7, .int 0), (6, .int (nI s9)), (4, .long (f_shM true (M.1 0) x s9)), (0, .ref (g_ad G 38)), (1, .long x), (3, .int 1)]) 18 rfl dX12_shadow_16 (by decide) rfl ?_
    rcases Bool.eq_false_or_eq_true (f_b x s9) with e1 | e1
    · skip
      refine a_sub (lv' := [(7, .int (nI 0)), (4, .long (f_orF (f_shM true (M.1 0) x s9) (fun e => cond (true ^^ Nat.testBit s9 e) (f_sl 1 (nI (s9 ^^^ 2 ^ e))) 0) 0)), (6, .int (nI s9)), (0, .ref (g_ad G 38)), (1, .long x), (3, .int 1)]) [0, 2, 1, 3, 4, 5] rfl ?_
      refine g_for (P := fun e9 => True) (M.1 0) (fun e9 => [(7, .int (nI e9)), (4, .long (f_orF (f_shM true (M.1 0) x s9) (fun e => cond (true ^^ Nat.testBit s9 e) (f_sl 1 (nI (s9 ^^^ 2 ^ e))) 0) e9)), (6, .int (nI s9)), (0, .ref (g_ad G 38)), (1, .long x), (3, .int 1)]) (fun e9 => (g_hp G C (g_hm G M ++ ob))) (trivial) (fun e9 h_e9 p_e9 k_e9 => ?_) (fun p_e9 => ?_)
      · skip
        refine a_iload 0 20 rfl dX12_shadow_18 rfl ?_
        refine a_aload_n 3 21 rfl dX12_shadow_20 rfl rfl ?_
        refine a_get 0 cl_11 f_RX12_9_11 (by decide) (rfl) rfl 24 rfl dX12_shadow_21 ?_
        refine a_icmp_ge 80 27 rfl dX12_shadow_24 (by decide) (fun hc => absurd hc (nI_ge (by omega) (by omega))) (fun _ => ?_)
        refine a_lload_n 4 28 rfl dX12_shadow_27 rfl rfl ?_
        refine a_iload 2 30 rfl dX12_shadow_28 rfl ?_
        refine a_callS (as := [.long x, .int (nI s9)]) (rest := []) (st2 := [.int (f_i (f_b x s9))]) (u1 := 0) (v1 := 0) (u2 := 0) (v2 := 0) (r_hasB (s := s9) (by omega)) oX12_has q_1304 q_1305 rfl (by omega) (by decide) rfl (Nat.le_of_ble_eq_true rfl) 33 rfl dX12_shadow_30 rfl ?_
        refine a_if_eq 80 36 rfl dX12_shadow_33 (by decide) (fun hc => absurd hc (f_i_T e1)) (fun _ => ?_)
        refine a_lload 1 38 rfl dX12_shadow_36 rfl ?_
        refine a_iload 2 40 rfl dX12_shadow_38 rfl ?_
        refine a_iload 0 42 rfl dX12_shadow_40 rfl ?_
        refine a_ishr 43 rfl dX12_shadow_42 ?_
        refine a_iconst (x := 1) 44 rfl dX12_shadow_43 (by decide) ?_
        refine a_iand 45 rfl dX12_shadow_44 ?_
        refine a_eq (st2 := [.int (f_i (Nat.testBit s9 e9)), .long (f_orF (f_shM true (M.1 0) x s9) (fun e => cond (true ^^ Nat.testBit s9 e) (f_sl 1 (nI (s9 ^^^ 2 ^ e))) 0) e9)]) rfl rfl (congrArg (fun z9 => Value.int z9 :: [.long (f_orF (f_shM true (M.1 0) x s9) (fun e => cond (true ^^ Nat.testBit s9 e) (f_sl 1 (nI (s9 ^^^ 2 ^ e))) 0) e9)]) (f_tbI (s := s9) (e := e9) (by omega) (by omega))) rfl ?_
        refine a_iconst (x := 1) 46 rfl dX12_shadow_45 (by decide) ?_
        refine g_sfx (pc := 54) (lv := [(7, .int (nI e9)), (4, .long (f_orF (f_shM true (M.1 0) x s9) (fun e => cond (true ^^ Nat.testBit s9 e) (f_sl 1 (nI (s9 ^^^ 2 ^ e))) 0) e9)), (6, .int (nI s9)), (0, .ref (g_ad G 38)), (1, .long x), (3, .int 1)]) (st := [.int (f_i (Nat.testBit s9 e9)), .long (f_orF (f_shM true (M.1 0) x s9) (fun e => cond (true ^^ Nat.testBit s9 e) (f_sl 1 (nI (s9 ^^^ 2 ^ e))) 0) e9)]) (h := (g_hp G C (g_hm G M ++ ob))) (fun key => ?_) ?_
        · skip
          rcases Bool.eq_false_or_eq_true ((Nat.testBit s9 e9)) with c46_1 | c46_1
          · skip
            refine a_icmp_ne 53 49 rfl dX12_shadow_46 (by decide) (fun hc => absurd (f_i_T1 c46_1) hc) (fun _ => ?_)
            refine a_iconst (x := 1) 50 rfl dX12_shadow_49 (by decide) ?_
            refine a_goto 54 dX12_shadow_50 (by decide) ?_
            exact a_eq rfl (rfl) (by rw [c46_1]; rfl) rfl key
          · skip
            refine a_icmp_ne 53 49 rfl dX12_shadow_46 (by decide) (fun _ => ?_) (fun hc => absurd hc (f_i_F1 c46_1))
            refine a_iconst (x := 0) 54 rfl dX12_shadow_53 (by decide) ?_
            exact a_eq rfl (rfl) (by rw [c46_1]; rfl) rfl key
        refine g_sfx (pc := 71) (lv := [(7, .int (nI e9)), (4, .long (f_orF (f_shM true (M.1 0) x s9) (fun e => cond (true ^^ Nat.testBit s9 e) (f_sl 1 (nI (s9 ^^^ 2 ^ e))) 0) e9)), (6, .int (nI s9)), (0, .ref (g_ad G 38)), (1, .long x), (3, .int 1)]) (st := [.long (cond (Nat.testBit s9 e9) 0 (f_sl (1 : Int64) (nI (s9 ^^^ (2 ^ e9))))), .long (f_orF (f_shM true (M.1 0) x s9) (fun e => cond (true ^^ Nat.testBit s9 e) (f_sl 1 (nI (s9 ^^^ 2 ^ e))) 0) e9)]) (h := (g_hp G C (g_hm G M ++ ob))) (fun key => ?_) ?_
        · skip
          refine a_iload_n 5 55 rfl dX12_shadow_54 rfl rfl ?_
          rcases Bool.eq_false_or_eq_true ((Nat.testBit s9 e9)) with c55_1 | c55_1
          · skip
            refine a_icmp_eq 70 58 rfl dX12_shadow_55 (by decide) (fun _ => ?_) (fun hc => absurd (f_i_T1 c55_1) hc)
            refine a_lconst (x := 0) 71 rfl dX12_shadow_70 (by decide) ?_
            exact a_eq rfl (rfl) (by rw [c55_1]; rfl) rfl key
          · skip
            refine a_icmp_eq 70 58 rfl dX12_shadow_55 (by decide) (fun hc => absurd hc (f_i_F1 c55_1)) (fun _ => ?_)
            refine a_lconst (x := 1) 59 rfl dX12_shadow_58 (by decide) ?_
            refine a_iload 2 61 rfl dX12_shadow_59 rfl ?_
            refine a_iconst (x := 1) 62 rfl dX12_shadow_61 (by decide) ?_
            refine a_iload 0 64 rfl dX12_shadow_62 rfl ?_
            refine a_ishl 65 rfl dX12_shadow_64 ?_
            refine a_eq (st2 := [.int (nI (2 ^ e9)), .int (nI s9), .long 1, .long (f_orF (f_shM true (M.1 0) x s9) (fun e => cond (true ^^ Nat.testBit s9 e) (f_sl 1 (nI (s9 ^^^ 2 ^ e))) 0) e9)]) rfl rfl (congrArg (fun z9 => Value.int z9 :: [.int (nI s9), .long 1, .long (f_orF (f_shM true (M.1 0) x s9) (fun e => cond (true ^^ Nat.testBit s9 e) (f_sl 1 (nI (s9 ^^^ 2 ^ e))) 0) e9)]) (f_shlI e9 (by omega))) rfl ?_
            refine a_ixor 66 rfl dX12_shadow_65 ?_
            refine a_eq (st2 := [.int (nI (s9 ^^^ (2 ^ e9))), .long 1, .long (f_orF (f_shM true (M.1 0) x s9) (fun e => cond (true ^^ Nat.testBit s9 e) (f_sl 1 (nI (s9 ^^^ 2 ^ e))) 0) e9)]) rfl rfl (congrArg (fun z9 => Value.int z9 :: [.long 1, .long (f_orF (f_shM true (M.1 0) x s9) (fun e => cond (true ^^ Nat.testBit s9 e) (f_sl 1 (nI (s9 ^^^ 2 ^ e))) 0) e9)]) (nI_xor s9 (2 ^ e9))) rfl ?_
            refine a_lshl 67 rfl dX12_shadow_66 ?_
            refine a_goto 71 dX12_shadow_67 (by decide) ?_
            exact a_eq rfl (rfl) (by rw [c55_1]; rfl) rfl key
        refine a_eq (st2 := [.long (cond (true ^^ Nat.testBit s9 e9) (f_sl 1 (nI (s9 ^^^ (2 ^ e9)))) 0), .long (f_orF (f_shM true (M.1 0) x s9) (fun e => cond (true ^^ Nat.testBit s9 e) (f_sl 1 (nI (s9 ^^^ 2 ^ e))) 0) e9)]) rfl rfl (congrArg (fun z9 => Value.long z9 :: [.long (f_orF (f_shM true (M.1 0) x s9) (fun e => cond (true ^^ Nat.testBit s9 e) (f_sl 1 (nI (s9 ^^^ 2 ^ e))) 0) e9)]) (by cases Nat.testBit s9 e9 <;> rfl)) rfl ?_
        refine a_lor 72 rfl dX12_shadow_71 ?_
        refine a_lstore (lv' := [(4, .long ((f_orF (f_shM true (M.1 0) x s9) (fun e => cond (true ^^ Nat.testBit s9 e) (f_sl 1 (nI (s9 ^^^ 2 ^ e))) 0) e9) ||| (cond (true ^^ Nat.testBit s9 e9) (f_sl 1 (nI (s9 ^^^ (2 ^ e9)))) 0))), (7, .int (nI e9)), (6, .int (nI s9)), (0, .ref (g_ad G 38)), (1, .long x), (3, .int 1)]) 74 rfl dX12_shadow_72 (by decide) rfl ?_
        refine a_iinc (y := nI (e9 + 1)) (lv' := [(7, .int (nI (e9 + 1))), (4, .long ((f_orF (f_shM true (M.1 0) x s9) (fun e => cond (true ^^ Nat.testBit s9 e) (f_sl 1 (nI (s9 ^^^ 2 ^ e))) 0) e9) ||| (cond (true ^^ Nat.testBit s9 e9) (f_sl 1 (nI (s9 ^^^ (2 ^ e9)))) 0))), (6, .int (nI s9)), (0, .ref (g_ad G 38)), (1, .long x), (3, .int 1)]) 1 77 rfl dX12_shadow_74 rfl (nI_1 e9) (by decide) rfl ?_
        refine a_goto 18 dX12_shadow_77 (by decide) ?_
        refine a_sub (lv' := [(7, .int (nI (e9 + 1))), (4, .long (f_orF (f_shM true (M.1 0) x s9) (fun e => cond (true ^^ Nat.testBit s9 e) (f_sl 1 (nI (s9 ^^^ 2 ^ e))) 0) (e9 + 1))), (6, .int (nI s9)), (0, .ref (g_ad G 38)), (1, .long x), (3, .int 1)]) [0, 1, 2, 3, 4, 5] rfl ?_
        exact k_e9 trivial
      · skip
        refine a_iload 0 20 rfl dX12_shadow_18 rfl ?_
        refine a_aload_n 3 21 rfl dX12_shadow_20 rfl rfl ?_
        refine a_get 0 cl_11 f_RX12_9_11 (by decide) (rfl) rfl 24 rfl dX12_shadow_21 ?_
        refine a_icmp_ge 80 27 rfl dX12_shadow_24 (by decide) (fun _ => ?_) (fun hc => absurd (nI_le (by omega) (by omega)) hc)
        refine a_eq (lv2 := [(7, .int (nI (M.1 0))), (4, .long (f_shM true (M.1 0) x (s9 + 1))), (6, .int (nI s9)), (0, .ref (g_ad G 38)), (1, .long x), (3, .int 1)]) rfl (congrArg (fun z9 => ([(7, .int (nI (M.1 0))), (4, .long z9), (6, .int (nI s9)), (0, .ref (g_ad G 38)), (1, .long x), (3, .int 1)] : List (Nat × Value))) (by rw [f_shM, e1]; rfl)) rfl rfl ?_
        refine a_iinc (y := nI (s9 + 1)) (lv' := [(6, .int (nI (s9 + 1))), (7, .int (nI (M.1 0))), (4, .long (f_shM true (M.1 0) x (s9 + 1))), (0, .ref (g_ad G 38)), (1, .long x), (3, .int 1)]) 2 83 rfl dX12_shadow_80 rfl (nI_1 s9) (by decide) rfl ?_
        refine a_goto 6 dX12_shadow_83 (by decide) ?_
        refine a_sub (lv' := [(6, .int (nI (s9 + 1))), (4, .long (f_shM true (M.1 0) x (s9 + 1))), (0, .ref (g_ad G 38)), (1, .long x), (3, .int 1)]) [0, 2, 3, 4, 5] rfl ?_
        exact k_s9 trivial
    · skip
      refine a_iload 0 20 rfl dX12_shadow_18 rfl ?_
      refine a_aload_n 3 21 rfl dX12_shadow_20 rfl rfl ?_
      refine a_get 0 cl_11 f_RX12_9_11 (by decide) (rfl) rfl 24 rfl dX12_shadow_21 ?_
      refine a_icmp_ge 80 27 rfl dX12_shadow_24 (by decide) (fun hc => absurd hc (nI_ge (a := 0) (b := M.1 0) (by omega) (by omega))) (fun _ => ?_)
      refine a_lload_n 4 28 rfl dX12_shadow_27 rfl rfl ?_
      refine a_iload 1 30 rfl dX12_shadow_28 rfl ?_
      refine a_callS (as := [.long x, .int (nI s9)]) (rest := []) (st2 := [.int (f_i (f_b x s9))]) (u1 := 0) (v1 := 0) (u2 := 0) (v2 := 0) (r_hasB (s := s9) (by omega)) oX12_has q_1304 q_1305 rfl (by omega) (by decide) rfl (Nat.le_of_ble_eq_true rfl) 33 rfl dX12_shadow_30 rfl ?_
      refine a_if_eq 80 36 rfl dX12_shadow_33 (by decide) (fun _ => ?_) (fun hc => absurd (f_i_F e1) hc)
      refine a_eq (lv2 := [(7, .int 0), (6, .int (nI s9)), (4, .long (f_shM true (M.1 0) x (s9 + 1))), (0, .ref (g_ad G 38)), (1, .long x), (3, .int 1)]) rfl (congrArg (fun z9 => ([(7, .int 0), (6, .int (nI s9)), (4, .long z9), (0, .ref (g_ad G 38)), (1, .long x), (3, .int 1)] : List (Nat × Value))) (by rw [f_shM, e1]; rfl)) rfl rfl ?_
      refine a_iinc (y := nI (s9 + 1)) (lv' := [(6, .int (nI (s9 + 1))), (7, .int 0), (4, .long (f_shM true (M.1 0) x (s9 + 1))), (0, .ref (g_ad G 38)), (1, .long x), (3, .int 1)]) 1 83 rfl dX12_shadow_80 rfl (nI_1 s9) (by decide) rfl ?_
      refine a_goto 6 dX12_shadow_83 (by decide) ?_
      refine a_sub (lv' := [(6, .int (nI (s9 + 1))), (4, .long (f_shM true (M.1 0) x (s9 + 1))), (0, .ref (g_ad G 38)), (1, .long x), (3, .int 1)]) [0, 2, 3, 4, 5] rfl ?_
      exact k_s9 trivial
  · skip
    refine a_iload 0 8 rfl dX12_shadow_6 rfl ?_
    refine a_aload_n 2 9 rfl dX12_shadow_8 rfl rfl ?_
    refine a_callV (as := []) (rest := [.int (nI (2 ^ M.1 0))]) (st2 := [.int (nI (2 ^ M.1 0)), .int (nI (2 ^ M.1 0))]) (u1 := 0) (v1 := 0) (u2 := 0) (v2 := 0) (r_allM hn) (⟨_, _, _, _, rfl, rfl⟩) oX12_all q_1253 q_1255 q_85 rfl (by omega) (by decide) rfl (Nat.le_of_ble_eq_true rfl) 12 rfl dX12_shadow_9 rfl ?_
    refine a_icmp_ge 86 15 rfl dX12_shadow_12 (by decide) (fun _ => ?_) (fun hc => absurd (nI_le (by omega) (by omega)) hc)
    refine a_lload 1 88 rfl dX12_shadow_86 rfl ?_
    exact a_lreturn rfl (rfl) (rfl) dX12_shadow_88

theorem r_borderM (hn : M.1 0 ≤ 6) (hn0 : 0 < M.1 0) : g_Run G mX12_borderOf 4 0 0 [.ref (g_ad G 38), .long x] (g_hp G C (g_hm G M ++ ob)) (some (.long ((f_shM false (M.1 0) x (2 ^ M.1 0) ||| f_shM true (M.1 0) x (2 ^ M.1 0)) &&& (x ^^^ (-1))))) (g_hp G C (g_hm G M ++ ob)) := by
  refine g_Run.of (lv := [(0, .ref (g_ad G 38)), (1, .long x)]) (by decide) (Nat.le_of_ble_eq_true rfl) rfl ?_
  refine a_aload_n 0 1 rfl dX12_borderOf_0 rfl rfl ?_
  refine a_lload_n 1 2 rfl dX12_borderOf_1 rfl rfl ?_
  refine a_iconst (x := 0) 3 rfl dX12_borderOf_2 (by decide) ?_
  refine a_callV (as := [.long x, .int 0]) (rest := []) (st2 := [.long (f_shM false (M.1 0) x (2 ^ M.1 0))]) (u1 := 0) (v1 := 0) (u2 := 0) (v2 := 0) (r_shadow0 hn hn0) (⟨_, _, _, _, rfl, rfl⟩) oX12_shadow q_1318 q_1320 q_93 rfl (by omega) (by decide) rfl (Nat.le_of_ble_eq_true rfl) 6 rfl dX12_borderOf_3 rfl ?_
  refine a_aload_n 0 7 rfl dX12_borderOf_6 rfl rfl ?_
  refine a_lload_n 1 8 rfl dX12_borderOf_7 rfl rfl ?_
  refine a_iconst (x := 1) 9 rfl dX12_borderOf_8 (by decide) ?_
  refine a_callV (as := [.long x, .int 1]) (rest := [.long (f_shM false (M.1 0) x (2 ^ M.1 0))]) (st2 := [.long (f_shM true (M.1 0) x (2 ^ M.1 0)), .long (f_shM false (M.1 0) x (2 ^ M.1 0))]) (u1 := 0) (v1 := 0) (u2 := 0) (v2 := 0) (r_shadow1 hn hn0) (⟨_, _, _, _, rfl, rfl⟩) oX12_shadow q_1318 q_1320 q_93 rfl (by omega) (by decide) rfl (Nat.le_of_ble_eq_true rfl) 12 rfl dX12_borderOf_9 rfl ?_
  refine a_lor 13 rfl dX12_borderOf_12 ?_
  refine a_lload_n 1 14 rfl dX12_borderOf_13 rfl rfl ?_
  refine a_ldc2 q_1260 17 rfl dX12_borderOf_14 ?_
  refine a_lxor 18 rfl dX12_borderOf_17 ?_
  refine a_land 19 rfl dX12_borderOf_18 ?_
  exact a_lreturn rfl (rfl) (rfl) dX12_borderOf_19
theorem r_edgesM (hn : M.1 0 ≤ 6) (hn0 : 0 < M.1 0) : g_Run G mX12_edges 3 0 0 [.ref (g_ad G 38), .long x] (g_hp G C (g_hm G M ++ ob)) (some (.int (nI (f_edM (M.1 0) x (2 ^ M.1 0))))) (g_hp G C (g_hm G M ++ ob)) := by
  have hp : 2 ^ M.1 0 ≤ 64 := Nat.pow_le_pow_right (by decide) hn
  refine g_Run.of (lv := [(0, .ref (g_ad G 38)), (1, .long x)]) (by decide) (Nat.le_of_ble_eq_true rfl) rfl ?_
  refine a_iconst (x := 0) 1 rfl dX12_edges_0 (by decide) ?_
  refine a_istore_n (lv' := [(3, .int 0), (0, .ref (g_ad G 38)), (1, .long x)]) 2 rfl dX12_edges_1 rfl (by decide) rfl ?_
  refine a_iconst (x := 0) 3 rfl dX12_edges_2 (by decide) ?_
  refine a_istore (lv' := [(4, .int 0), (3, .int 0), (0, .ref (g_ad G 38)), (1, .long x)]) 5 rfl dX12_edges_3 (by decide) rfl ?_
  refine a_sub (lv' := [(4, .int (nI 0)), (3, .int (nI (f_edM (M.1 0) x 0))), (0, .ref (g_ad G 38)), (1, .long x)]) [0, 1, 2, 3] rfl ?_
  refine g_for (P := fun s9 => True) (2 ^ M.1 0) (fun s9 => [(4, .int (nI s9)), (3, .int (nI (f_edM (M.1 0) x s9))), (0, .ref (g_ad G 38)), (1, .long x)]) (fun s9 => (g_hp G C (g_hm G M ++ ob))) (trivial) (fun s9 h_s9 p_s9 k_s9 => ?_) (fun p_s9 => ?_)
  · skip
    refine a_iload 0 7 rfl dX12_edges_5 rfl ?_
    refine a_aload_n 2 8 rfl dX12_edges_7 rfl rfl ?_
    refine a_callV (as := []) (rest := [.int (nI s9)]) (st2 := [.int (nI (2 ^ M.1 0)), .int (nI s9)]) (u1 := 0) (v1 := 0) (u2 := 0) (v2 := 0) (r_allM hn) (⟨_, _, _, _, rfl, rfl⟩) oX12_all q_1253 q_1255 q_85 rfl (by omega) (by decide) rfl (Nat.le_of_ble_eq_true rfl) 11 rfl dX12_edges_8 rfl ?_
    refine a_icmp_ge 69 14 rfl dX12_edges_11 (by decide) (fun hc => absurd hc (nI_ge (by omega) (by omega))) (fun _ => ?_)
    refine a_iconst (x := 0) 15 rfl dX12_edges_14 (by decide) ?_
    refine a_istore (lv' := [(5, .int 0), (4, .int (nI s9)), (3, .int (nI (f_edM (M.1 0) x s9))), (0, .ref (g_ad G 38)), (1, .long x)]) 17 rfl dX12_edges_15 (by decide) rfl ?_
    rcases Bool.eq_false_or_eq_true (f_b x s9) with e1 | e1
    · skip
      refine a_sub (lv' := [(5, .int (nI 0)), (3, .int (nI (f_smF (f_edM (M.1 0) x s9) (fun e => Bool.toNat (!f_b x (s9 ^^^ 2 ^ e))) 0))), (4, .int (nI s9)), (0, .ref (g_ad G 38)), (1, .long x)]) [0, 2, 1, 3, 4] rfl ?_
      refine g_for (P := fun e9 => True) (M.1 0) (fun e9 => [(5, .int (nI e9)), (3, .int (nI (f_smF (f_edM (M.1 0) x s9) (fun e => Bool.toNat (!f_b x (s9 ^^^ 2 ^ e))) e9))), (4, .int (nI s9)), (0, .ref (g_ad G 38)), (1, .long x)]) (fun e9 => (g_hp G C (g_hm G M ++ ob))) (trivial) (fun e9 h_e9 p_e9 k_e9 => ?_) (fun p_e9 => ?_)
      · skip
        have hx := f_x64 (s := s9) (e := e9) (by omega) (by omega)
        refine a_iload 0 19 rfl dX12_edges_17 rfl ?_
        refine a_aload_n 3 20 rfl dX12_edges_19 rfl rfl ?_
        refine a_get 0 cl_11 f_RX12_9_11 (by decide) (rfl) rfl 23 rfl dX12_edges_20 ?_
        refine a_icmp_ge 63 26 rfl dX12_edges_23 (by decide) (fun hc => absurd hc (nI_ge (by omega) (by omega))) (fun _ => ?_)
        refine a_lload_n 4 27 rfl dX12_edges_26 rfl rfl ?_
        refine a_iload 2 29 rfl dX12_edges_27 rfl ?_
        refine a_callS (as := [.long x, .int (nI s9)]) (rest := []) (st2 := [.int (f_i (f_b x s9))]) (u1 := 0) (v1 := 0) (u2 := 0) (v2 := 0) (r_hasB (s := s9) (by omega)) oX12_has q_1304 q_1305 rfl (by omega) (by decide) rfl (Nat.le_of_ble_eq_true rfl) 32 rfl dX12_edges_29 rfl ?_
        refine a_if_eq 63 35 rfl dX12_edges_32 (by decide) (fun hc => absurd hc (f_i_T e1)) (fun _ => ?_)
        refine a_iload_n 1 36 rfl dX12_edges_35 rfl rfl ?_
        refine a_lload_n 4 37 rfl dX12_edges_36 rfl rfl ?_
        refine a_iload 2 39 rfl dX12_edges_37 rfl ?_
        refine a_iconst (x := 1) 40 rfl dX12_edges_39 (by decide) ?_
        refine a_iload 0 42 rfl dX12_edges_40 rfl ?_
        refine a_ishl 43 rfl dX12_edges_42 ?_
        refine a_eq (st2 := [.int (nI (2 ^ e9)), .int (nI s9), .long x, .int (nI (f_smF (f_edM (M.1 0) x s9) (fun e => Bool.toNat (!f_b x (s9 ^^^ 2 ^ e))) e9))]) rfl rfl (congrArg (fun z9 => Value.int z9 :: [.int (nI s9), .long x, .int (nI (f_smF (f_edM (M.1 0) x s9) (fun e => Bool.toNat (!f_b x (s9 ^^^ 2 ^ e))) e9))]) (f_shlI e9 (by omega))) rfl ?_
        refine a_ixor 44 rfl dX12_edges_43 ?_
        refine a_eq (st2 := [.int (nI (s9 ^^^ (2 ^ e9))), .long x, .int (nI (f_smF (f_edM (M.1 0) x s9) (fun e => Bool.toNat (!f_b x (s9 ^^^ 2 ^ e))) e9))]) rfl rfl (congrArg (fun z9 => Value.int z9 :: [.long x, .int (nI (f_smF (f_edM (M.1 0) x s9) (fun e => Bool.toNat (!f_b x (s9 ^^^ 2 ^ e))) e9))]) (nI_xor s9 (2 ^ e9))) rfl ?_
        refine a_callS (as := [.long x, .int (nI (s9 ^^^ (2 ^ e9)))]) (rest := [.int (nI (f_smF (f_edM (M.1 0) x s9) (fun e => Bool.toNat (!f_b x (s9 ^^^ 2 ^ e))) e9))]) (st2 := [.int (f_i (f_b x (s9 ^^^ (2 ^ e9)))), .int (nI (f_smF (f_edM (M.1 0) x s9) (fun e => Bool.toNat (!f_b x (s9 ^^^ 2 ^ e))) e9))]) (u1 := 0) (v1 := 0) (u2 := 0) (v2 := 0) (r_hasB (s := (s9 ^^^ (2 ^ e9))) (by omega)) oX12_has q_1304 q_1305 rfl (by omega) (by decide) rfl (Nat.le_of_ble_eq_true rfl) 47 rfl dX12_edges_44 rfl ?_
        refine g_sfx (pc := 55) (lv := [(5, .int (nI e9)), (3, .int (nI (f_smF (f_edM (M.1 0) x s9) (fun e => Bool.toNat (!f_b x (s9 ^^^ 2 ^ e))) e9))), (4, .int (nI s9)), (0, .ref (g_ad G 38)), (1, .long x)]) (st := [.int (f_i (!(f_b x (s9 ^^^ (2 ^ e9))))), .int (nI (f_smF (f_edM (M.1 0) x s9) (fun e => Bool.toNat (!f_b x (s9 ^^^ 2 ^ e))) e9))]) (h := (g_hp G C (g_hm G M ++ ob))) (fun key => ?_) ?_
        · skip
          rcases Bool.eq_false_or_eq_true ((f_b x (s9 ^^^ (2 ^ e9)))) with c47_1 | c47_1
          · skip
            refine a_if_eq 54 50 rfl dX12_edges_47 (by decide) (fun hc => absurd hc (f_i_T c47_1)) (fun _ => ?_)
            refine a_iconst (x := 0) 51 rfl dX12_edges_50 (by decide) ?_
            refine a_goto 55 dX12_edges_51 (by decide) ?_
            exact a_eq rfl (rfl) (by rw [c47_1]; rfl) rfl key
          · skip
            refine a_if_eq 54 50 rfl dX12_edges_47 (by decide) (fun _ => ?_) (fun hc => absurd (f_i_F c47_1) hc)
            refine a_iconst (x := 1) 55 rfl dX12_edges_54 (by decide) ?_
            exact a_eq rfl (rfl) (by rw [c47_1]; rfl) rfl key
        refine a_iadd 56 rfl dX12_edges_55 ?_
        refine a_eq (st2 := [.int (nI ((f_smF (f_edM (M.1 0) x s9) (fun e => Bool.toNat (!f_b x (s9 ^^^ 2 ^ e))) e9) + Bool.toNat (!(f_b x (s9 ^^^ (2 ^ e9))))))]) rfl rfl (congrArg (fun z9 => Value.int z9 :: []) (f_i_add (f_smF (f_edM (M.1 0) x s9) (fun e => Bool.toNat (!f_b x (s9 ^^^ 2 ^ e))) e9) (!(f_b x (s9 ^^^ (2 ^ e9)))))) rfl ?_
        refine a_istore_n (lv' := [(3, .int (nI ((f_smF (f_edM (M.1 0) x s9) (fun e => Bool.toNat (!f_b x (s9 ^^^ 2 ^ e))) e9) + Bool.toNat (!(f_b x (s9 ^^^ (2 ^ e9))))))), (5, .int (nI e9)), (4, .int (nI s9)), (0, .ref (g_ad G 38)), (1, .long x)]) 57 rfl dX12_edges_56 rfl (by decide) rfl ?_
        refine a_iinc (y := nI (e9 + 1)) (lv' := [(5, .int (nI (e9 + 1))), (3, .int (nI ((f_smF (f_edM (M.1 0) x s9) (fun e => Bool.toNat (!f_b x (s9 ^^^ 2 ^ e))) e9) + Bool.toNat (!(f_b x (s9 ^^^ (2 ^ e9))))))), (4, .int (nI s9)), (0, .ref (g_ad G 38)), (1, .long x)]) 1 60 rfl dX12_edges_57 rfl (nI_1 e9) (by decide) rfl ?_
        refine a_goto 17 dX12_edges_60 (by decide) ?_
        refine a_sub (lv' := [(5, .int (nI (e9 + 1))), (3, .int (nI (f_smF (f_edM (M.1 0) x s9) (fun e => Bool.toNat (!f_b x (s9 ^^^ 2 ^ e))) (e9 + 1)))), (4, .int (nI s9)), (0, .ref (g_ad G 38)), (1, .long x)]) [0, 1, 2, 3, 4] rfl ?_
        exact k_e9 trivial
      · skip
        refine a_iload 0 19 rfl dX12_edges_17 rfl ?_
        refine a_aload_n 3 20 rfl dX12_edges_19 rfl rfl ?_
        refine a_get 0 cl_11 f_RX12_9_11 (by decide) (rfl) rfl 23 rfl dX12_edges_20 ?_
        refine a_icmp_ge 63 26 rfl dX12_edges_23 (by decide) (fun _ => ?_) (fun hc => absurd (nI_le (by omega) (by omega)) hc)
        refine a_eq (lv2 := [(5, .int (nI (M.1 0))), (3, .int (nI (f_edM (M.1 0) x (s9 + 1)))), (4, .int (nI s9)), (0, .ref (g_ad G 38)), (1, .long x)]) rfl (congrArg (fun z9 => ([(5, .int (nI (M.1 0))), (3, .int z9), (4, .int (nI s9)), (0, .ref (g_ad G 38)), (1, .long x)] : List (Nat × Value))) (by rw [f_edM, e1]; rfl)) rfl rfl ?_
        refine a_iinc (y := nI (s9 + 1)) (lv' := [(4, .int (nI (s9 + 1))), (5, .int (nI (M.1 0))), (3, .int (nI (f_edM (M.1 0) x (s9 + 1)))), (0, .ref (g_ad G 38)), (1, .long x)]) 2 66 rfl dX12_edges_63 rfl (nI_1 s9) (by decide) rfl ?_
        refine a_goto 5 dX12_edges_66 (by decide) ?_
        refine a_sub (lv' := [(4, .int (nI (s9 + 1))), (3, .int (nI (f_edM (M.1 0) x (s9 + 1)))), (0, .ref (g_ad G 38)), (1, .long x)]) [0, 2, 3, 4] rfl ?_
        exact k_s9 trivial
    · skip
      refine a_iload 0 19 rfl dX12_edges_17 rfl ?_
      refine a_aload_n 3 20 rfl dX12_edges_19 rfl rfl ?_
      refine a_get 0 cl_11 f_RX12_9_11 (by decide) (rfl) rfl 23 rfl dX12_edges_20 ?_
      refine a_icmp_ge 63 26 rfl dX12_edges_23 (by decide) (fun hc => absurd hc (nI_ge (a := 0) (b := M.1 0) (by omega) (by omega))) (fun _ => ?_)
      refine a_lload_n 4 27 rfl dX12_edges_26 rfl rfl ?_
      refine a_iload 1 29 rfl dX12_edges_27 rfl ?_
      refine a_callS (as := [.long x, .int (nI s9)]) (rest := []) (st2 := [.int (f_i (f_b x s9))]) (u1 := 0) (v1 := 0) (u2 := 0) (v2 := 0) (r_hasB (s := s9) (by omega)) oX12_has q_1304 q_1305 rfl (by omega) (by decide) rfl (Nat.le_of_ble_eq_true rfl) 32 rfl dX12_edges_29 rfl ?_
      refine a_if_eq 63 35 rfl dX12_edges_32 (by decide) (fun _ => ?_) (fun hc => absurd (f_i_F e1) hc)
      refine a_eq (lv2 := [(5, .int 0), (4, .int (nI s9)), (3, .int (nI (f_edM (M.1 0) x (s9 + 1)))), (0, .ref (g_ad G 38)), (1, .long x)]) rfl (congrArg (fun z9 => ([(5, .int 0), (4, .int (nI s9)), (3, .int z9), (0, .ref (g_ad G 38)), (1, .long x)] : List (Nat × Value))) (by rw [f_edM, e1]; rfl)) rfl rfl ?_
      refine a_iinc (y := nI (s9 + 1)) (lv' := [(4, .int (nI (s9 + 1))), (5, .int 0), (3, .int (nI (f_edM (M.1 0) x (s9 + 1)))), (0, .ref (g_ad G 38)), (1, .long x)]) 1 66 rfl dX12_edges_63 rfl (nI_1 s9) (by decide) rfl ?_
      refine a_goto 5 dX12_edges_66 (by decide) ?_
      refine a_sub (lv' := [(4, .int (nI (s9 + 1))), (3, .int (nI (f_edM (M.1 0) x (s9 + 1)))), (0, .ref (g_ad G 38)), (1, .long x)]) [0, 2, 3, 4] rfl ?_
      exact k_s9 trivial
  · skip
    refine a_iload 0 7 rfl dX12_edges_5 rfl ?_
    refine a_aload_n 2 8 rfl dX12_edges_7 rfl rfl ?_
    refine a_callV (as := []) (rest := [.int (nI (2 ^ M.1 0))]) (st2 := [.int (nI (2 ^ M.1 0)), .int (nI (2 ^ M.1 0))]) (u1 := 0) (v1 := 0) (u2 := 0) (v2 := 0) (r_allM hn) (⟨_, _, _, _, rfl, rfl⟩) oX12_all q_1253 q_1255 q_85 rfl (by omega) (by decide) rfl (Nat.le_of_ble_eq_true rfl) 11 rfl dX12_edges_8 rfl ?_
    refine a_icmp_ge 69 14 rfl dX12_edges_11 (by decide) (fun _ => ?_) (fun hc => absurd (nI_le (by omega) (by omega)) hc)
    refine a_iload_n 1 70 rfl dX12_edges_69 rfl rfl ?_
    exact a_ireturn .int rfl rfl (rfl) (rfl) dX12_edges_70
end MS1
