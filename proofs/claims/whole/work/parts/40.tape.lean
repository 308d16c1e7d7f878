/-! The class's calls: lots, write, read -/
section TA1
variable {G : g_G} {C : f_C} {tl : List va_E} {x z9 : Int64} {y y2 y3 y4 : Int32} {j o : Nat} {T : f_T}
-- lots
def f_draw (p : Int32) : Nat → Nat → Int32 → Int64 → Int32 × Int64
  | 0, _, z, d => (z, d)
  | t + 1, s, z, d => if p ≤ ((z * 1103515245 + 12345) &&& 2147483647) / 65536 - ((z * 1103515245 + 12345) &&& 2147483647) / 65536 / 100 * 100 then f_draw p t (s + 1) (z * 1103515245 + 12345) d else f_draw p t (s + 1) (z * 1103515245 + 12345) (d ||| f_sl (1 : Int64) (nI s))
def f_lots (p : Int32) (g : Int64 → Int32) (k : Nat) : Nat → Int32 → Int32 → Int32
  | 0, _, m => m
  | t + 1, z, m => f_lots p g k t (f_draw p k 0 z 0).1 (m + g (f_draw p k 0 z 0).2)
theorem r_X11_lots_out (hy : y < 1 ∨ 20 < y ∨ y2 < 0 ∨ 100 < y2 ∨ y4 < 0 ∨ ¬ y4 ≤ 1) : g_Run G mX11_lots 5 0 0 [.ref (g_ad G 0), .int y, .int y2, .int y3, .int y4] (g_hp G C tl) (some (.int (-1))) (g_hp G C tl) := by
  refine g_Run.of (lv := [(0, .ref (g_ad G 0)), (1, .int y), (2, .int y2), (3, .int y3), (4, .int y4)]) (by decide) (Nat.le_of_ble_eq_true rfl) rfl ?_
  refine a_iload_n 1 1 rfl dX11_lots_0 rfl rfl ?_
  refine a_iconst (x := 1) 2 rfl dX11_lots_1 (by decide) ?_
  refine a_icmp_lt 32 5 rfl dX11_lots_2 (by decide) (fun c2 => ?_) (fun c2 => ?_)
  refine a_iconst (x := (-1)) 33 rfl dX11_lots_32 (by decide) ?_
  exact a_ireturn .int rfl rfl (rfl) (rfl) dX11_lots_33
  refine a_iload_n 1 6 rfl dX11_lots_5 rfl rfl ?_
  refine a_bipush (x := 20) 8 rfl dX11_lots_6 (by decide) ?_
  refine a_icmp_gt 32 11 rfl dX11_lots_8 (by decide) (fun c8 => ?_) (fun c8 => ?_)
  refine a_iconst (x := (-1)) 33 rfl dX11_lots_32 (by decide) ?_
  exact a_ireturn .int rfl rfl (rfl) (rfl) dX11_lots_33
  refine a_iload_n 2 12 rfl dX11_lots_11 rfl rfl ?_
  refine a_if_lt 32 15 rfl dX11_lots_12 (by decide) (fun c12 => ?_) (fun c12 => ?_)
  refine a_iconst (x := (-1)) 33 rfl dX11_lots_32 (by decide) ?_
  exact a_ireturn .int rfl rfl (rfl) (rfl) dX11_lots_33
  refine a_iload_n 2 16 rfl dX11_lots_15 rfl rfl ?_
  refine a_bipush (x := 100) 18 rfl dX11_lots_16 (by decide) ?_
  refine a_icmp_gt 32 21 rfl dX11_lots_18 (by decide) (fun c18 => ?_) (fun c18 => ?_)
  refine a_iconst (x := (-1)) 33 rfl dX11_lots_32 (by decide) ?_
  exact a_ireturn .int rfl rfl (rfl) (rfl) dX11_lots_33
  refine a_iload 4 23 rfl dX11_lots_21 rfl ?_
  refine a_if_lt 32 26 rfl dX11_lots_23 (by decide) (fun c23 => ?_) (fun c23 => ?_)
  refine a_iconst (x := (-1)) 33 rfl dX11_lots_32 (by decide) ?_
  exact a_ireturn .int rfl rfl (rfl) (rfl) dX11_lots_33
  refine a_iload 4 28 rfl dX11_lots_26 rfl ?_
  refine a_iconst (x := 1) 29 rfl dX11_lots_28 (by decide) ?_
  refine a_icmp_le 34 32 rfl dX11_lots_29 (by decide) (fun hc => absurd hc ((((((hy.resolve_left c2).resolve_left c8).resolve_left c12).resolve_left c18).resolve_left c23))) (fun _ => ?_)
  refine a_iconst (x := (-1)) 33 rfl dX11_lots_32 (by decide) ?_
  exact a_ireturn .int rfl rfl (rfl) (rfl) dX11_lots_33
theorem r_X11_lots0 {t9 : Nat} (hn : C.1 0 ≤ 6) (h1 : 1 ≤ t9) (h2 : t9 ≤ 20) (h3 : ¬ y2 < 0) (h4 : ¬ 100 < y2) : g_Run G mX11_lots 5 0 0 [.ref (g_ad G 0), .int (nI t9), .int y2, .int y3, .int 0] (g_hp G C tl) (some (.int (f_lots y2 (fun x => f_bcL (f_border x (C.1 0))) (2 ^ C.1 0) t9 y3 0))) (g_hp G C tl) := by
  have hp : 2 ^ C.1 0 ≤ 64 := Nat.pow_le_pow_right (by decide) hn
  have inner : ∀ (r : Option Value) (l9 : Nat) (sm : Int32) (jj ii : Nat), ii + jj = 2 ^ C.1 0 → ∀ (z : Int32) (dd : Int64), g_A G mX11_lots 5 0 0 111 [(5, .int (f_draw y2 jj ii z dd).1), (8, .long (f_draw y2 jj ii z dd).2), (6, .int sm), (7, .int (nI l9)), (0, .ref (g_ad G 0)), (1, .int (nI t9)), (2, .int y2), (4, .int 0)] [] (g_hp G C tl) r (g_hp G C tl) → g_A G mX11_lots 5 0 0 55 [(10, .int (nI ii)), (8, .long dd), (5, .int z), (6, .int sm), (7, .int (nI l9)), (0, .ref (g_ad G 0)), (1, .int (nI t9)), (2, .int y2), (4, .int 0)] [] (g_hp G C tl) r (g_hp G C tl) := by
    intro r l9 sm jj
    induction jj with
    | zero =>
      intro ii hii z dd hc
      refine a_iload 0 57 rfl dX11_lots_55 rfl ?_
      refine a_aload_n 5 58 rfl dX11_lots_57 rfl rfl ?_
      refine a_get 0 cl_10 f_RX11_12_10 (by decide) (rfl) rfl 61 rfl dX11_lots_58 ?_
      refine a_callV (as := []) (rest := [.int (nI ii)]) (st2 := [.int (nI (2 ^ C.1 0)), .int (nI ii)]) (u1 := 0) (v1 := 0) (u2 := 0) (v2 := 0) (r_X3_places (n := C.1 0) rfl hn) (⟨_, _, _, _, rfl, rfl⟩) oX3_places q_623 q_388 q_1663 rfl (by omega) (by decide) rfl (Nat.le_of_ble_eq_true rfl) 64 rfl dX11_lots_61 rfl ?_
      refine a_icmp_ge 111 67 rfl dX11_lots_64 (by decide) (fun _ => ?_) (fun hc => absurd (nI_le (by omega) (by omega)) hc)
      refine a_sub (lv' := [(5, .int z), (8, .long dd), (6, .int sm), (7, .int (nI l9)), (0, .ref (g_ad G 0)), (1, .int (nI t9)), (2, .int y2), (4, .int 0)]) [2, 1, 3, 4, 5, 6, 7, 8] rfl ?_
      exact hc
    | succ jj ih =>
      intro ii hii z dd hc
      refine a_iload 0 57 rfl dX11_lots_55 rfl ?_
      refine a_aload_n 5 58 rfl dX11_lots_57 rfl rfl ?_
      refine a_get 0 cl_10 f_RX11_12_10 (by decide) (rfl) rfl 61 rfl dX11_lots_58 ?_
      refine a_callV (as := []) (rest := [.int (nI ii)]) (st2 := [.int (nI (2 ^ C.1 0)), .int (nI ii)]) (u1 := 0) (v1 := 0) (u2 := 0) (v2 := 0) (r_X3_places (n := C.1 0) rfl hn) (⟨_, _, _, _, rfl, rfl⟩) oX3_places q_623 q_388 q_1663 rfl (by omega) (by decide) rfl (Nat.le_of_ble_eq_true rfl) 64 rfl dX11_lots_61 rfl ?_
      refine a_icmp_ge 111 67 rfl dX11_lots_64 (by decide) (fun hc => absurd hc (nI_ge (by omega) (by omega))) (fun _ => ?_)
      refine a_iload 2 69 rfl dX11_lots_67 rfl ?_
      refine a_ldcw q_853 72 rfl dX11_lots_69 ?_
      refine a_imul 73 rfl dX11_lots_72 ?_
      refine a_sipush (x := 12345) 76 rfl dX11_lots_73 (by decide) ?_
      refine a_iadd 77 rfl dX11_lots_76 ?_
      refine a_istore (lv' := [(5, .int ((z * 1103515245) + 12345)), (10, .int (nI ii)), (8, .long dd), (6, .int sm), (7, .int (nI l9)), (0, .ref (g_ad G 0)), (1, .int (nI t9)), (2, .int y2), (4, .int 0)]) 79 rfl dX11_lots_77 (by decide) rfl ?_
      refine a_iload 0 81 rfl dX11_lots_79 rfl ?_
      refine a_ldcw q_854 84 rfl dX11_lots_81 ?_
      refine a_iand 85 rfl dX11_lots_84 ?_
      refine a_ldcw q_855 88 rfl dX11_lots_85 ?_
      refine a_idiv 89 rfl dX11_lots_88 ((by decide)) ?_
      refine a_bipush (x := 100) 91 rfl dX11_lots_89 (by decide) ?_
      refine a_irem 92 rfl dX11_lots_91 ((by decide)) ?_
      refine a_iload_n 7 93 rfl dX11_lots_92 rfl rfl ?_
      by_cases e9 : y2 ≤ ((z * 1103515245 + 12345) &&& 2147483647) / 65536 - ((z * 1103515245 + 12345) &&& 2147483647) / 65536 / 100 * 100
      · rw [f_draw, if_pos e9] at hc
        refine a_icmp_ge 105 96 rfl dX11_lots_93 (by decide) (fun _ => ?_) (fun hc => absurd (e9) hc)
        refine a_iinc (y := nI (ii + 1)) (lv' := [(10, .int (nI (ii + 1))), (5, .int ((z * 1103515245) + 12345)), (8, .long dd), (6, .int sm), (7, .int (nI l9)), (0, .ref (g_ad G 0)), (1, .int (nI t9)), (2, .int y2), (4, .int 0)]) 1 108 rfl dX11_lots_105 rfl (nI_1 ii) (by decide) rfl ?_
        refine a_goto 55 dX11_lots_108 (by decide) ?_
        refine a_sub (lv' := [(10, .int (nI (ii + 1))), (8, .long dd), (5, .int ((z * 1103515245) + 12345)), (6, .int sm), (7, .int (nI l9)), (0, .ref (g_ad G 0)), (1, .int (nI t9)), (2, .int y2), (4, .int 0)]) [0, 2, 1, 3, 4, 5, 6, 7, 8] rfl ?_
        exact ih (ii + 1) (by omega) _ _ hc
      · rw [f_draw, if_neg e9] at hc
        refine a_icmp_ge 105 96 rfl dX11_lots_93 (by decide) (fun hc => absurd hc (e9)) (fun _ => ?_)
        refine a_lload 2 98 rfl dX11_lots_96 rfl ?_
        refine a_lconst (x := 1) 99 rfl dX11_lots_98 (by decide) ?_
        refine a_iload 1 101 rfl dX11_lots_99 rfl ?_
        refine a_lshl 102 rfl dX11_lots_101 ?_
        refine a_lor 103 rfl dX11_lots_102 ?_
        refine a_lstore (lv' := [(8, .long (dd ||| (f_sl (1 : Int64) (nI ii)))), (5, .int ((z * 1103515245) + 12345)), (10, .int (nI ii)), (6, .int sm), (7, .int (nI l9)), (0, .ref (g_ad G 0)), (1, .int (nI t9)), (2, .int y2), (4, .int 0)]) 105 rfl dX11_lots_103 (by decide) rfl ?_
        refine a_iinc (y := nI (ii + 1)) (lv' := [(10, .int (nI (ii + 1))), (8, .long (dd ||| (f_sl (1 : Int64) (nI ii)))), (5, .int ((z * 1103515245) + 12345)), (6, .int sm), (7, .int (nI l9)), (0, .ref (g_ad G 0)), (1, .int (nI t9)), (2, .int y2), (4, .int 0)]) 2 108 rfl dX11_lots_105 rfl (nI_1 ii) (by decide) rfl ?_
        refine a_goto 55 dX11_lots_108 (by decide) ?_
        refine a_sub (lv' := [(10, .int (nI (ii + 1))), (8, .long (dd ||| (f_sl (1 : Int64) (nI ii)))), (5, .int ((z * 1103515245) + 12345)), (6, .int sm), (7, .int (nI l9)), (0, .ref (g_ad G 0)), (1, .int (nI t9)), (2, .int y2), (4, .int 0)]) [0, 1, 2, 3, 4, 5, 6, 7, 8] rfl ?_
        exact ih (ii + 1) (by omega) _ _ hc
  have key : ∀ jj ii : Nat, ii + jj = t9 → ∀ z sm : Int32, g_A G mX11_lots 5 0 0 43 [(7, .int (nI ii)), (6, .int sm), (5, .int z), (0, .ref (g_ad G 0)), (1, .int (nI t9)), (2, .int y2), (4, .int 0)] [] (g_hp G C tl) (some (.int (f_lots y2 (fun x => f_bcL (f_border x (C.1 0))) (2 ^ C.1 0) jj z sm))) (g_hp G C tl) := by
    intro jj
    induction jj with
    | zero =>
      intro ii hii z sm
      refine a_iload 0 45 rfl dX11_lots_43 rfl ?_
      refine a_iload_n 4 46 rfl dX11_lots_45 rfl rfl ?_
      refine a_icmp_ge 133 49 rfl dX11_lots_46 (by decide) (fun _ => ?_) (fun hc => absurd (nI_le (by omega) (by omega)) hc)
      refine a_iload 1 135 rfl dX11_lots_133 rfl ?_
      exact a_ireturn .int rfl rfl (rfl) (rfl) dX11_lots_135
    | succ jj ih =>
      intro ii hii z sm
      refine a_iload 0 45 rfl dX11_lots_43 rfl ?_
      refine a_iload_n 4 46 rfl dX11_lots_45 rfl rfl ?_
      refine a_icmp_ge 133 49 rfl dX11_lots_46 (by decide) (fun hc => absurd hc (nI_ge (by omega) (by omega))) (fun _ => ?_)
      refine a_lconst (x := 0) 50 rfl dX11_lots_49 (by decide) ?_
      refine a_lstore (lv' := [(8, .long 0), (7, .int (nI ii)), (6, .int sm), (5, .int z), (0, .ref (g_ad G 0)), (1, .int (nI t9)), (2, .int y2), (4, .int 0)]) 52 rfl dX11_lots_50 (by decide) rfl ?_
      refine a_iconst (x := 0) 53 rfl dX11_lots_52 (by decide) ?_
      refine a_istore (lv' := [(10, .int 0), (8, .long 0), (7, .int (nI ii)), (6, .int sm), (5, .int z), (0, .ref (g_ad G 0)), (1, .int (nI t9)), (2, .int y2), (4, .int 0)]) 55 rfl dX11_lots_53 (by decide) rfl ?_
      refine a_sub (lv' := [(10, .int (nI 0)), (8, .long 0), (5, .int z), (6, .int sm), (7, .int (nI ii)), (0, .ref (g_ad G 0)), (1, .int (nI t9)), (2, .int y2), (4, .int 0)]) [0, 1, 4, 3, 2, 5, 6, 7, 8] rfl ?_
      refine inner _ ii sm (2 ^ C.1 0) 0 (by omega) z 0 ?_
      refine a_iload 2 113 rfl dX11_lots_111 rfl ?_
      refine a_aload_n 4 114 rfl dX11_lots_113 rfl rfl ?_
      refine a_get 0 cl_10 f_RX11_12_10 (by decide) (rfl) rfl 117 rfl dX11_lots_114 ?_
      refine a_iload 7 119 rfl dX11_lots_117 rfl ?_
      refine a_lload 1 121 rfl dX11_lots_119 rfl ?_
      refine a_callV (as := [.int 0, .long ((f_draw y2 (2 ^ C.1 0) 0 z 0).2)]) (rest := [.int sm]) (st2 := [.int ((fun x => f_bcL (f_border x (C.1 0))) (f_draw y2 (2 ^ C.1 0) 0 z 0).2), .int sm]) (u1 := 0) (v1 := 0) (u2 := 0) (v2 := 0) (r_X3_measure0 (n := C.1 0) rfl hn) (⟨_, _, _, _, rfl, rfl⟩) oX3_measure q_689 q_662 q_1664 rfl (by omega) (by decide) rfl (Nat.le_of_ble_eq_true rfl) 124 rfl dX11_lots_121 rfl ?_
      refine a_iadd 125 rfl dX11_lots_124 ?_
      refine a_istore (lv' := [(6, .int (sm + ((fun x => f_bcL (f_border x (C.1 0))) (f_draw y2 (2 ^ C.1 0) 0 z 0).2))), (5, .int ((f_draw y2 (2 ^ C.1 0) 0 z 0).1)), (8, .long ((f_draw y2 (2 ^ C.1 0) 0 z 0).2)), (7, .int (nI ii)), (0, .ref (g_ad G 0)), (1, .int (nI t9)), (2, .int y2), (4, .int 0)]) 127 rfl dX11_lots_125 (by decide) rfl ?_
      refine a_iinc (y := nI (ii + 1)) (lv' := [(7, .int (nI (ii + 1))), (6, .int (sm + ((fun x => f_bcL (f_border x (C.1 0))) (f_draw y2 (2 ^ C.1 0) 0 z 0).2))), (5, .int ((f_draw y2 (2 ^ C.1 0) 0 z 0).1)), (8, .long ((f_draw y2 (2 ^ C.1 0) 0 z 0).2)), (0, .ref (g_ad G 0)), (1, .int (nI t9)), (2, .int y2), (4, .int 0)]) 3 130 rfl dX11_lots_127 rfl (nI_1 ii) (by decide) rfl ?_
      refine a_goto 43 dX11_lots_130 (by decide) ?_
      refine a_sub (lv' := [(7, .int (nI (ii + 1))), (6, .int (sm + ((fun x => f_bcL (f_border x (C.1 0))) (f_draw y2 (2 ^ C.1 0) 0 z 0).2))), (5, .int ((f_draw y2 (2 ^ C.1 0) 0 z 0).1)), (0, .ref (g_ad G 0)), (1, .int (nI t9)), (2, .int y2), (4, .int 0)]) [0, 1, 2, 4, 5, 6, 7] rfl ?_
      exact ih (ii + 1) (by omega) _ _
  refine g_Run.of (lv := [(0, .ref (g_ad G 0)), (1, .int (nI t9)), (2, .int y2), (3, .int y3), (4, .int 0)]) (by decide) (Nat.le_of_ble_eq_true rfl) rfl ?_
  refine a_iload_n 1 1 rfl dX11_lots_0 rfl rfl ?_
  refine a_iconst (x := 1) 2 rfl dX11_lots_1 (by decide) ?_
  refine a_icmp_lt 32 5 rfl dX11_lots_2 (by decide) (fun hc => absurd hc (nI_nlt (b := 1) h1 (by omega))) (fun _ => ?_)
  refine a_iload_n 1 6 rfl dX11_lots_5 rfl rfl ?_
  refine a_bipush (x := 20) 8 rfl dX11_lots_6 (by decide) ?_
  refine a_icmp_gt 32 11 rfl dX11_lots_8 (by decide) (fun hc => absurd hc (nI_nlt (a := 20) h2 (by omega))) (fun _ => ?_)
  refine a_iload_n 2 12 rfl dX11_lots_11 rfl rfl ?_
  refine a_if_lt 32 15 rfl dX11_lots_12 (by decide) (fun hc => absurd hc (h3)) (fun _ => ?_)
  refine a_iload_n 2 16 rfl dX11_lots_15 rfl rfl ?_
  refine a_bipush (x := 100) 18 rfl dX11_lots_16 (by decide) ?_
  refine a_icmp_gt 32 21 rfl dX11_lots_18 (by decide) (fun hc => absurd hc (h4)) (fun _ => ?_)
  refine a_iload 4 23 rfl dX11_lots_21 rfl ?_
  refine a_if_lt 32 26 rfl dX11_lots_23 (by decide) (fun hc => absurd hc ((by decide))) (fun _ => ?_)
  refine a_iload 4 28 rfl dX11_lots_26 rfl ?_
  refine a_iconst (x := 1) 29 rfl dX11_lots_28 (by decide) ?_
  refine a_icmp_le 34 32 rfl dX11_lots_29 (by decide) (fun _ => ?_) (fun hc => absurd ((by decide)) hc)
  refine a_iload_n 3 35 rfl dX11_lots_34 rfl rfl ?_
  refine a_istore (lv' := [(5, .int y3), (0, .ref (g_ad G 0)), (1, .int (nI t9)), (2, .int y2), (3, .int y3), (4, .int 0)]) 37 rfl dX11_lots_35 (by decide) rfl ?_
  refine a_iconst (x := 0) 38 rfl dX11_lots_37 (by decide) ?_
  refine a_istore (lv' := [(6, .int 0), (5, .int y3), (0, .ref (g_ad G 0)), (1, .int (nI t9)), (2, .int y2), (3, .int y3), (4, .int 0)]) 40 rfl dX11_lots_38 (by decide) rfl ?_
  refine a_iconst (x := 0) 41 rfl dX11_lots_40 (by decide) ?_
  refine a_istore (lv' := [(7, .int 0), (6, .int 0), (5, .int y3), (0, .ref (g_ad G 0)), (1, .int (nI t9)), (2, .int y2), (3, .int y3), (4, .int 0)]) 43 rfl dX11_lots_41 (by decide) rfl ?_
  refine a_sub (lv' := [(7, .int (nI 0)), (6, .int 0), (5, .int y3), (0, .ref (g_ad G 0)), (1, .int (nI t9)), (2, .int y2), (4, .int 0)]) [0, 1, 2, 3, 4, 5, 7] rfl ?_
  exact key t9 0 (by omega) _ _

theorem r_X11_lots1 {t9 : Nat} (hn : C.1 0 ≤ 6) (h1 : 1 ≤ t9) (h2 : t9 ≤ 20) (h3 : ¬ y2 < 0) (h4 : ¬ 100 < y2) : g_Run G mX11_lots 5 0 0 [.ref (g_ad G 0), .int (nI t9), .int y2, .int y3, .int 1] (g_hp G C tl) (some (.int (f_lots y2 (fun x => f_edges x (C.1 0) (C.1 0)) (2 ^ C.1 0) t9 y3 0))) (g_hp G C tl) := by
  have hp : 2 ^ C.1 0 ≤ 64 := Nat.pow_le_pow_right (by decide) hn
  have inner : ∀ (r : Option Value) (l9 : Nat) (sm : Int32) (jj ii : Nat), ii + jj = 2 ^ C.1 0 → ∀ (z : Int32) (dd : Int64), g_A G mX11_lots 5 0 0 111 [(5, .int (f_draw y2 jj ii z dd).1), (8, .long (f_draw y2 jj ii z dd).2), (6, .int sm), (7, .int (nI l9)), (0, .ref (g_ad G 0)), (1, .int (nI t9)), (2, .int y2), (4, .int 1)] [] (g_hp G C tl) r (g_hp G C tl) → g_A G mX11_lots 5 0 0 55 [(10, .int (nI ii)), (8, .long dd), (5, .int z), (6, .int sm), (7, .int (nI l9)), (0, .ref (g_ad G 0)), (1, .int (nI t9)), (2, .int y2), (4, .int 1)] [] (g_hp G C tl) r (g_hp G C tl) := by
    intro r l9 sm jj
    induction jj with
    | zero =>
      intro ii hii z dd hc
      refine a_iload 0 57 rfl dX11_lots_55 rfl ?_
      refine a_aload_n 5 58 rfl dX11_lots_57 rfl rfl ?_
      refine a_get 0 cl_10 f_RX11_12_10 (by decide) (rfl) rfl 61 rfl dX11_lots_58 ?_
      refine a_callV (as := []) (rest := [.int (nI ii)]) (st2 := [.int (nI (2 ^ C.1 0)), .int (nI ii)]) (u1 := 0) (v1 := 0) (u2 := 0) (v2 := 0) (r_X3_places (n := C.1 0) rfl hn) (⟨_, _, _, _, rfl, rfl⟩) oX3_places q_623 q_388 q_1663 rfl (by omega) (by decide) rfl (Nat.le_of_ble_eq_true rfl) 64 rfl dX11_lots_61 rfl ?_
      refine a_icmp_ge 111 67 rfl dX11_lots_64 (by decide) (fun _ => ?_) (fun hc => absurd (nI_le (by omega) (by omega)) hc)
      refine a_sub (lv' := [(5, .int z), (8, .long dd), (6, .int sm), (7, .int (nI l9)), (0, .ref (g_ad G 0)), (1, .int (nI t9)), (2, .int y2), (4, .int 1)]) [2, 1, 3, 4, 5, 6, 7, 8] rfl ?_
      exact hc
    | succ jj ih =>
      intro ii hii z dd hc
      refine a_iload 0 57 rfl dX11_lots_55 rfl ?_
      refine a_aload_n 5 58 rfl dX11_lots_57 rfl rfl ?_
      refine a_get 0 cl_10 f_RX11_12_10 (by decide) (rfl) rfl 61 rfl dX11_lots_58 ?_
      refine a_callV (as := []) (rest := [.int (nI ii)]) (st2 := [.int (nI (2 ^ C.1 0)), .int (nI ii)]) (u1 := 0) (v1 := 0) (u2 := 0) (v2 := 0) (r_X3_places (n := C.1 0) rfl hn) (⟨_, _, _, _, rfl, rfl⟩) oX3_places q_623 q_388 q_1663 rfl (by omega) (by decide) rfl (Nat.le_of_ble_eq_true rfl) 64 rfl dX11_lots_61 rfl ?_
      refine a_icmp_ge 111 67 rfl dX11_lots_64 (by decide) (fun hc => absurd hc (nI_ge (by omega) (by omega))) (fun _ => ?_)
      refine a_iload 2 69 rfl dX11_lots_67 rfl ?_
      refine a_ldcw q_853 72 rfl dX11_lots_69 ?_
      refine a_imul 73 rfl dX11_lots_72 ?_
      refine a_sipush (x := 12345) 76 rfl dX11_lots_73 (by decide) ?_
      refine a_iadd 77 rfl dX11_lots_76 ?_
      refine a_istore (lv' := [(5, .int ((z * 1103515245) + 12345)), (10, .int (nI ii)), (8, .long dd), (6, .int sm), (7, .int (nI l9)), (0, .ref (g_ad G 0)), (1, .int (nI t9)), (2, .int y2), (4, .int 1)]) 79 rfl dX11_lots_77 (by decide) rfl ?_
      refine a_iload 0 81 rfl dX11_lots_79 rfl ?_
      refine a_ldcw q_854 84 rfl dX11_lots_81 ?_
      refine a_iand 85 rfl dX11_lots_84 ?_
      refine a_ldcw q_855 88 rfl dX11_lots_85 ?_
      refine a_idiv 89 rfl dX11_lots_88 ((by decide)) ?_
      refine a_bipush (x := 100) 91 rfl dX11_lots_89 (by decide) ?_
      refine a_irem 92 rfl dX11_lots_91 ((by decide)) ?_
      refine a_iload_n 7 93 rfl dX11_lots_92 rfl rfl ?_
      by_cases e9 : y2 ≤ ((z * 1103515245 + 12345) &&& 2147483647) / 65536 - ((z * 1103515245 + 12345) &&& 2147483647) / 65536 / 100 * 100
      · rw [f_draw, if_pos e9] at hc
        refine a_icmp_ge 105 96 rfl dX11_lots_93 (by decide) (fun _ => ?_) (fun hc => absurd (e9) hc)
        refine a_iinc (y := nI (ii + 1)) (lv' := [(10, .int (nI (ii + 1))), (5, .int ((z * 1103515245) + 12345)), (8, .long dd), (6, .int sm), (7, .int (nI l9)), (0, .ref (g_ad G 0)), (1, .int (nI t9)), (2, .int y2), (4, .int 1)]) 1 108 rfl dX11_lots_105 rfl (nI_1 ii) (by decide) rfl ?_
        refine a_goto 55 dX11_lots_108 (by decide) ?_
        refine a_sub (lv' := [(10, .int (nI (ii + 1))), (8, .long dd), (5, .int ((z * 1103515245) + 12345)), (6, .int sm), (7, .int (nI l9)), (0, .ref (g_ad G 0)), (1, .int (nI t9)), (2, .int y2), (4, .int 1)]) [0, 2, 1, 3, 4, 5, 6, 7, 8] rfl ?_
        exact ih (ii + 1) (by omega) _ _ hc
      · rw [f_draw, if_neg e9] at hc
        refine a_icmp_ge 105 96 rfl dX11_lots_93 (by decide) (fun hc => absurd hc (e9)) (fun _ => ?_)
        refine a_lload 2 98 rfl dX11_lots_96 rfl ?_
        refine a_lconst (x := 1) 99 rfl dX11_lots_98 (by decide) ?_
        refine a_iload 1 101 rfl dX11_lots_99 rfl ?_
        refine a_lshl 102 rfl dX11_lots_101 ?_
        refine a_lor 103 rfl dX11_lots_102 ?_
        refine a_lstore (lv' := [(8, .long (dd ||| (f_sl (1 : Int64) (nI ii)))), (5, .int ((z * 1103515245) + 12345)), (10, .int (nI ii)), (6, .int sm), (7, .int (nI l9)), (0, .ref (g_ad G 0)), (1, .int (nI t9)), (2, .int y2), (4, .int 1)]) 105 rfl dX11_lots_103 (by decide) rfl ?_
        refine a_iinc (y := nI (ii + 1)) (lv' := [(10, .int (nI (ii + 1))), (8, .long (dd ||| (f_sl (1 : Int64) (nI ii)))), (5, .int ((z * 1103515245) + 12345)), (6, .int sm), (7, .int (nI l9)), (0, .ref (g_ad G 0)), (1, .int (nI t9)), (2, .int y2), (4, .int 1)]) 2 108 rfl dX11_lots_105 rfl (nI_1 ii) (by decide) rfl ?_
        refine a_goto 55 dX11_lots_108 (by decide) ?_
        refine a_sub (lv' := [(10, .int (nI (ii + 1))), (8, .long (dd ||| (f_sl (1 : Int64) (nI ii)))), (5, .int ((z * 1103515245) + 12345)), (6, .int sm), (7, .int (nI l9)), (0, .ref (g_ad G 0)), (1, .int (nI t9)), (2, .int y2), (4, .int 1)]) [0, 1, 2, 3, 4, 5, 6, 7, 8] rfl ?_
        exact ih (ii + 1) (by omega) _ _ hc
  have key : ∀ jj ii : Nat, ii + jj = t9 → ∀ z sm : Int32, g_A G mX11_lots 5 0 0 43 [(7, .int (nI ii)), (6, .int sm), (5, .int z), (0, .ref (g_ad G 0)), (1, .int (nI t9)), (2, .int y2), (4, .int 1)] [] (g_hp G C tl) (some (.int (f_lots y2 (fun x => f_edges x (C.1 0) (C.1 0)) (2 ^ C.1 0) jj z sm))) (g_hp G C tl) := by
    intro jj
    induction jj with
    | zero =>
      intro ii hii z sm
      refine a_iload 0 45 rfl dX11_lots_43 rfl ?_
      refine a_iload_n 4 46 rfl dX11_lots_45 rfl rfl ?_
      refine a_icmp_ge 133 49 rfl dX11_lots_46 (by decide) (fun _ => ?_) (fun hc => absurd (nI_le (by omega) (by omega)) hc)
      refine a_iload 1 135 rfl dX11_lots_133 rfl ?_
      exact a_ireturn .int rfl rfl (rfl) (rfl) dX11_lots_135
    | succ jj ih =>
      intro ii hii z sm
      refine a_iload 0 45 rfl dX11_lots_43 rfl ?_
      refine a_iload_n 4 46 rfl dX11_lots_45 rfl rfl ?_
      refine a_icmp_ge 133 49 rfl dX11_lots_46 (by decide) (fun hc => absurd hc (nI_ge (by omega) (by omega))) (fun _ => ?_)
      refine a_lconst (x := 0) 50 rfl dX11_lots_49 (by decide) ?_
      refine a_lstore (lv' := [(8, .long 0), (7, .int (nI ii)), (6, .int sm), (5, .int z), (0, .ref (g_ad G 0)), (1, .int (nI t9)), (2, .int y2), (4, .int 1)]) 52 rfl dX11_lots_50 (by decide) rfl ?_
      refine a_iconst (x := 0) 53 rfl dX11_lots_52 (by decide) ?_
      refine a_istore (lv' := [(10, .int 0), (8, .long 0), (7, .int (nI ii)), (6, .int sm), (5, .int z), (0, .ref (g_ad G 0)), (1, .int (nI t9)), (2, .int y2), (4, .int 1)]) 55 rfl dX11_lots_53 (by decide) rfl ?_
      refine a_sub (lv' := [(10, .int (nI 0)), (8, .long 0), (5, .int z), (6, .int sm), (7, .int (nI ii)), (0, .ref (g_ad G 0)), (1, .int (nI t9)), (2, .int y2), (4, .int 1)]) [0, 1, 4, 3, 2, 5, 6, 7, 8] rfl ?_
      refine inner _ ii sm (2 ^ C.1 0) 0 (by omega) z 0 ?_
      refine a_iload 2 113 rfl dX11_lots_111 rfl ?_
      refine a_aload_n 4 114 rfl dX11_lots_113 rfl rfl ?_
      refine a_get 0 cl_10 f_RX11_12_10 (by decide) (rfl) rfl 117 rfl dX11_lots_114 ?_
      refine a_iload 7 119 rfl dX11_lots_117 rfl ?_
      refine a_lload 1 121 rfl dX11_lots_119 rfl ?_
      refine a_callV (as := [.int 1, .long ((f_draw y2 (2 ^ C.1 0) 0 z 0).2)]) (rest := [.int sm]) (st2 := [.int ((fun x => f_edges x (C.1 0) (C.1 0)) (f_draw y2 (2 ^ C.1 0) 0 z 0).2), .int sm]) (u1 := 0) (v1 := 0) (u2 := 0) (v2 := 0) (r_X3_measure1 (n := C.1 0) rfl hn) (⟨_, _, _, _, rfl, rfl⟩) oX3_measure q_689 q_662 q_1664 rfl (by omega) (by decide) rfl (Nat.le_of_ble_eq_true rfl) 124 rfl dX11_lots_121 rfl ?_
      refine a_iadd 125 rfl dX11_lots_124 ?_
      refine a_istore (lv' := [(6, .int (sm + ((fun x => f_edges x (C.1 0) (C.1 0)) (f_draw y2 (2 ^ C.1 0) 0 z 0).2))), (5, .int ((f_draw y2 (2 ^ C.1 0) 0 z 0).1)), (8, .long ((f_draw y2 (2 ^ C.1 0) 0 z 0).2)), (7, .int (nI ii)), (0, .ref (g_ad G 0)), (1, .int (nI t9)), (2, .int y2), (4, .int 1)]) 127 rfl dX11_lots_125 (by decide) rfl ?_
      refine a_iinc (y := nI (ii + 1)) (lv' := [(7, .int (nI (ii + 1))), (6, .int (sm + ((fun x => f_edges x (C.1 0) (C.1 0)) (f_draw y2 (2 ^ C.1 0) 0 z 0).2))), (5, .int ((f_draw y2 (2 ^ C.1 0) 0 z 0).1)), (8, .long ((f_draw y2 (2 ^ C.1 0) 0 z 0).2)), (0, .ref (g_ad G 0)), (1, .int (nI t9)), (2, .int y2), (4, .int 1)]) 3 130 rfl dX11_lots_127 rfl (nI_1 ii) (by decide) rfl ?_
      refine a_goto 43 dX11_lots_130 (by decide) ?_
      refine a_sub (lv' := [(7, .int (nI (ii + 1))), (6, .int (sm + ((fun x => f_edges x (C.1 0) (C.1 0)) (f_draw y2 (2 ^ C.1 0) 0 z 0).2))), (5, .int ((f_draw y2 (2 ^ C.1 0) 0 z 0).1)), (0, .ref (g_ad G 0)), (1, .int (nI t9)), (2, .int y2), (4, .int 1)]) [0, 1, 2, 4, 5, 6, 7] rfl ?_
      exact ih (ii + 1) (by omega) _ _
  refine g_Run.of (lv := [(0, .ref (g_ad G 0)), (1, .int (nI t9)), (2, .int y2), (3, .int y3), (4, .int 1)]) (by decide) (Nat.le_of_ble_eq_true rfl) rfl ?_
  refine a_iload_n 1 1 rfl dX11_lots_0 rfl rfl ?_
  refine a_iconst (x := 1) 2 rfl dX11_lots_1 (by decide) ?_
  refine a_icmp_lt 32 5 rfl dX11_lots_2 (by decide) (fun hc => absurd hc (nI_nlt (b := 1) h1 (by omega))) (fun _ => ?_)
  refine a_iload_n 1 6 rfl dX11_lots_5 rfl rfl ?_
  refine a_bipush (x := 20) 8 rfl dX11_lots_6 (by decide) ?_
  refine a_icmp_gt 32 11 rfl dX11_lots_8 (by decide) (fun hc => absurd hc (nI_nlt (a := 20) h2 (by omega))) (fun _ => ?_)
  refine a_iload_n 2 12 rfl dX11_lots_11 rfl rfl ?_
  refine a_if_lt 32 15 rfl dX11_lots_12 (by decide) (fun hc => absurd hc (h3)) (fun _ => ?_)
  refine a_iload_n 2 16 rfl dX11_lots_15 rfl rfl ?_
  refine a_bipush (x := 100) 18 rfl dX11_lots_16 (by decide) ?_
  refine a_icmp_gt 32 21 rfl dX11_lots_18 (by decide) (fun hc => absurd hc (h4)) (fun _ => ?_)
  refine a_iload 4 23 rfl dX11_lots_21 rfl ?_
  refine a_if_lt 32 26 rfl dX11_lots_23 (by decide) (fun hc => absurd hc ((by decide))) (fun _ => ?_)
  refine a_iload 4 28 rfl dX11_lots_26 rfl ?_
  refine a_iconst (x := 1) 29 rfl dX11_lots_28 (by decide) ?_
  refine a_icmp_le 34 32 rfl dX11_lots_29 (by decide) (fun _ => ?_) (fun hc => absurd ((by decide)) hc)
  refine a_iload_n 3 35 rfl dX11_lots_34 rfl rfl ?_
  refine a_istore (lv' := [(5, .int y3), (0, .ref (g_ad G 0)), (1, .int (nI t9)), (2, .int y2), (3, .int y3), (4, .int 1)]) 37 rfl dX11_lots_35 (by decide) rfl ?_
  refine a_iconst (x := 0) 38 rfl dX11_lots_37 (by decide) ?_
  refine a_istore (lv' := [(6, .int 0), (5, .int y3), (0, .ref (g_ad G 0)), (1, .int (nI t9)), (2, .int y2), (3, .int y3), (4, .int 1)]) 40 rfl dX11_lots_38 (by decide) rfl ?_
  refine a_iconst (x := 0) 41 rfl dX11_lots_40 (by decide) ?_
  refine a_istore (lv' := [(7, .int 0), (6, .int 0), (5, .int y3), (0, .ref (g_ad G 0)), (1, .int (nI t9)), (2, .int y2), (3, .int y3), (4, .int 1)]) 43 rfl dX11_lots_41 (by decide) rfl ?_
  refine a_sub (lv' := [(7, .int (nI 0)), (6, .int 0), (5, .int y3), (0, .ref (g_ad G 0)), (1, .int (nI t9)), (2, .int y2), (4, .int 1)]) [0, 1, 2, 3, 4, 5, 7] rfl ?_
  exact key t9 0 (by omega) _ _

-- write
theorem f_byte {c : Nat} (hc : c < 128) : vp_nar .byte (nI c).toInt8.toInt32 = nI c := by
  have e9 : ∀ c : Fin 128, vp_nar .byte (nI c.val).toInt8.toInt32 = nI c.val := by decide +kernel
  exact e9 ⟨c, hc⟩
theorem f_lay_app : ∀ (a b : List Nat) (f : Nat → Int32) (m : Nat), f_lay f m (a ++ b) = f_lay (f_lay f m a) (m + a.length) b := by
  intro a
  induction a with
  | nil => intro b f m; rfl
  | cons c a ih => intro b f m; rw [List.cons_append, f_lay, ih, f_lay, List.length_cons, show m + 1 + a.length = m + (a.length + 1) by omega]
/-- the cells when l is written on -/
def f_wr (C : f_C) (l : List Nat) : f_C := f_un (f_uI C 6 (f_lay (C.2.2.2.1 6) (C.1 11) l)) 11 (C.1 11 + l.length)
theorem f_wr_app (C : f_C) (a b : List Nat) : f_wr (f_wr C a) b = f_wr C (a ++ b) := by
  unfold f_wr f_un f_uI
  refine Prod.ext (funext fun k => ?_) (Prod.ext rfl (Prod.ext rfl (Prod.ext (funext fun k => ?_) rfl)))
  · by_cases hk : k = 11
    · simp only [hk, if_true, List.length_append]; omega
    · simp only [hk, if_false]
  · by_cases hk : k = 6
    · simp only [hk, if_true]; exact (f_lay_app a b _ _).symm
    · simp only [hk, if_false]
theorem f_wr_nil (C : f_C) : f_wr C [] = C := by
  unfold f_wr f_un f_uI
  refine Prod.ext (funext fun k => ?_) (Prod.ext rfl (Prod.ext rfl (Prod.ext (funext fun k => ?_) rfl)))
  · by_cases hk : k = 11
    · simp only [hk, if_true]; rfl
    · simp only [hk, if_false]
  · by_cases hk : k = 6
    · simp only [hk, if_true]; rfl
    · simp only [hk, if_false]
theorem r_app {c : Nat} (hc : c < 128) (hn : C.1 11 < 256) : g_Run G mX10_append 1 0 0 [.ref (g_ad G 19), .int (nI c)] (g_hp G C tl) (some (.int 1)) (g_hp G (f_wr C [c]) tl) := by
  have w := r_X10_append (G := G) (h := g_hp G C tl) (a := 19) (kb := 20) (n := C.1 11) (i := nI c) (m := 256) (f := C.2.2.2.1 6) rfl rfl (by decide) (by decide) hn
  rw [f_byte hc] at w
  exact w
/-- whether e is no element of the set y -/
def f_ub (y : Int32) (e : Nat) : Int32 := (y.toUInt32 >>> ((nI e).toUInt32 &&& Int32.toUInt32 31)).toInt32 &&& 1
def f_letters (y : Int32) : Nat → Nat → List Nat
  | 0, _ => []
  | t + 1, e => if f_ub y e = 0 then f_letters y t (e + 1) else (97 + e) :: f_letters y t (e + 1)
def f_ws (n s : Nat) (l : Nat) : List Nat := (if l = 0 then [] else [44]) ++ ((if s = 0 then [48] else []) ++ f_letters (nI s) n 0)
theorem r_letters {y : Int32} : ∀ jj ii (C : f_C), C.1 0 ≤ 6 → ii + jj = C.1 0 → C.1 11 + (f_letters y jj ii).length ≤ 256 → g_A G mX11_writeSet 2 0 0 36 [(2, .int (nI ii)), (0, .ref (g_ad G 0)), (1, .int y)] [] (g_hp G C tl) none (g_hp G (f_wr C (f_letters y jj ii)) tl) := by
  intro jj
  induction jj with
  | zero =>
    intro ii C hn hii hl
    refine a_iload_n 0 37 rfl dX11_writeSet_36 rfl rfl ?_
    refine a_aload_n 1 38 rfl dX11_writeSet_37 rfl rfl ?_
    refine a_get 0 cl_10 f_RX11_12_10 (by decide) (rfl) rfl 41 rfl dX11_writeSet_38 ?_
    refine a_callVN (as := []) (rest := [.int (nI ii)]) (st2 := [.int (nI (C.1 0)), .int (nI ii)]) (u1 := 0) (v1 := 0) (u2 := 0) (v2 := 0) (r_X3_elements rfl) (⟨_, _, _, _, rfl, rfl⟩) oX3_elements q_352 q_354 q_0 rfl (by omega) (by decide) rfl (Nat.le_of_ble_eq_true rfl) 44 rfl dX11_writeSet_41 rfl ?_
    refine a_icmp_ge 73 47 rfl dX11_writeSet_44 (by decide) (fun _ => ?_) (fun hc => absurd (nI_le (by omega) (by omega)) hc)
    exact a_return rfl (rfl) ((by rw [f_letters, f_wr_nil])) dX11_writeSet_73
  | succ jj ih =>
    intro ii C hn hii hl
    refine a_iload_n 0 37 rfl dX11_writeSet_36 rfl rfl ?_
    refine a_aload_n 1 38 rfl dX11_writeSet_37 rfl rfl ?_
    refine a_get 0 cl_10 f_RX11_12_10 (by decide) (rfl) rfl 41 rfl dX11_writeSet_38 ?_
    refine a_callVN (as := []) (rest := [.int (nI ii)]) (st2 := [.int (nI (C.1 0)), .int (nI ii)]) (u1 := 0) (v1 := 0) (u2 := 0) (v2 := 0) (r_X3_elements rfl) (⟨_, _, _, _, rfl, rfl⟩) oX3_elements q_352 q_354 q_0 rfl (by omega) (by decide) rfl (Nat.le_of_ble_eq_true rfl) 44 rfl dX11_writeSet_41 rfl ?_
    refine a_icmp_ge 73 47 rfl dX11_writeSet_44 (by decide) (fun hc => absurd hc (nI_ge (by omega) (by omega))) (fun _ => ?_)
    refine a_iload_n 2 48 rfl dX11_writeSet_47 rfl rfl ?_
    refine a_iload_n 0 49 rfl dX11_writeSet_48 rfl rfl ?_
    refine a_iushr 50 rfl dX11_writeSet_49 ?_
    refine a_iconst (x := 1) 51 rfl dX11_writeSet_50 (by decide) ?_
    refine a_iand 52 rfl dX11_writeSet_51 ?_
    by_cases e9 : f_ub y ii = 0
    · rw [f_letters, if_pos e9] at hl ⊢
      refine a_if_eq 67 55 rfl dX11_writeSet_52 (by decide) (fun _ => ?_) (fun hc => absurd (e9) hc)
      refine a_iinc (y := nI (ii + 1)) (lv' := [(2, .int (nI (ii + 1))), (0, .ref (g_ad G 0)), (1, .int y)]) 0 70 rfl dX11_writeSet_67 rfl (nI_1 ii) (by decide) rfl ?_
      refine a_goto 36 dX11_writeSet_70 (by decide) ?_
      exact ih (ii + 1) C hn (by omega) hl
    · rw [f_letters, if_neg e9] at hl ⊢
      rw [List.length_cons] at hl
      have w := ih (ii + 1) (f_wr C [97 + ii]) hn (by show ii + 1 + jj = C.1 0; omega) (by show C.1 11 + 1 + _ ≤ 256; omega)
      rw [f_wr_app, List.singleton_append] at w
      refine a_if_eq 67 55 rfl dX11_writeSet_52 (by decide) (fun hc => absurd hc (e9)) (fun _ => ?_)
      refine a_aload_n 1 56 rfl dX11_writeSet_55 rfl rfl ?_
      refine a_get 9 cl_10 f_RX11_65_10 (by decide) (rfl) rfl 59 rfl dX11_writeSet_56 ?_
      refine a_bipush (x := 97) 61 rfl dX11_writeSet_59 (by decide) ?_
      refine a_iload_n 0 62 rfl dX11_writeSet_61 rfl rfl ?_
      refine a_iadd 63 rfl dX11_writeSet_62 ?_
      refine a_eq (st2 := [.int (nI (97 + ii)), .ref (g_ad G 19)]) rfl rfl (by rw [show (97 : Int32) = nI 97 from rfl, nI_add]) rfl ?_
      refine a_callVN (as := [.int (nI (97 + ii))]) (rest := []) (st2 := [.int 1]) (u1 := 0) (v1 := 0) (u2 := 0) (v2 := 0) (r_app (c := 97 + ii) (by omega) (by omega)) (⟨_, _, _, _, rfl, rfl⟩) oX10_append q_860 q_862 q_47 rfl (by omega) (by decide) rfl (Nat.le_of_ble_eq_true rfl) 66 rfl dX11_writeSet_63 rfl ?_
      refine a_pop 67 rfl dX11_writeSet_66 rfl ?_
      refine a_iinc (y := nI (ii + 1)) (lv' := [(2, .int (nI (ii + 1))), (0, .ref (g_ad G 0)), (1, .int y)]) 0 70 rfl dX11_writeSet_67 rfl (nI_1 ii) (by decide) rfl ?_
      refine a_goto 36 dX11_writeSet_70 (by decide) ?_
      exact w
theorem r_ws0 {s9 : Nat} (hn : C.1 0 ≤ 6) (hs : s9 < 64) (hl : C.1 11 + ((if s9 = 0 then [48] else []) ++ f_letters (nI s9) (C.1 0) 0).length ≤ 256) : g_A G mX11_writeSet 2 0 0 20 [(0, .ref (g_ad G 0)), (1, .int (nI s9))] [] (g_hp G C tl) none (g_hp G (f_wr C ((if s9 = 0 then [48] else []) ++ f_letters (nI s9) (C.1 0) 0)) tl) := by
  by_cases e9 : s9 = 0
  · rw [if_pos e9] at hl ⊢
    rw [List.length_append] at hl
    have w := r_letters (G := G) (tl := tl) (y := nI s9) (C.1 0) 0 (f_wr C [48]) hn (by show 0 + C.1 0 = C.1 0; omega) (by show C.1 11 + 1 + _ ≤ 256; have : [48].length = 1 := rfl; omega)
    rw [f_wr_app] at w
    refine a_iload_n 1 21 rfl dX11_writeSet_20 rfl rfl ?_
    refine a_if_ne 34 24 rfl dX11_writeSet_21 (by decide) (fun hc => absurd ((by rw [e9]; rfl)) hc) (fun _ => ?_)
    refine a_aload_n 0 25 rfl dX11_writeSet_24 rfl rfl ?_
    refine a_get 9 cl_10 f_RX11_65_10 (by decide) (rfl) rfl 28 rfl dX11_writeSet_25 ?_
    refine a_bipush (x := 48) 30 rfl dX11_writeSet_28 (by decide) ?_
    refine a_eq (st2 := [.int (nI 48), .ref (g_ad G 19)]) rfl rfl (rfl) rfl ?_
    have h48 : C.1 11 < 256 := by have e7 : [48].length = 1 := rfl; omega
    refine a_callVN (as := [.int (nI 48)]) (rest := []) (st2 := [.int 1]) (u1 := 0) (v1 := 0) (u2 := 0) (v2 := 0) (r_app (c := 48) (by omega) h48) (⟨_, _, _, _, rfl, rfl⟩) oX10_append q_860 q_862 q_47 rfl (by omega) (by decide) rfl (Nat.le_of_ble_eq_true rfl) 33 rfl dX11_writeSet_30 rfl ?_
    refine a_pop 34 rfl dX11_writeSet_33 rfl ?_
    refine a_iconst (x := 0) 35 rfl dX11_writeSet_34 (by decide) ?_
    refine a_istore_n (lv' := [(2, .int 0), (0, .ref (g_ad G 0)), (1, .int (nI s9))]) 36 rfl dX11_writeSet_35 rfl (by decide) rfl ?_
    exact w
  · rw [if_neg e9] at hl ⊢
    refine a_iload_n 1 21 rfl dX11_writeSet_20 rfl rfl ?_
    refine a_if_ne 34 24 rfl dX11_writeSet_21 (by decide) (fun _ => ?_) (fun hc => absurd hc ((fun z => e9 (nI_inj9 (b := 0) (by omega) (by omega) z))))
    refine a_iconst (x := 0) 35 rfl dX11_writeSet_34 (by decide) ?_
    refine a_istore_n (lv' := [(2, .int 0), (0, .ref (g_ad G 0)), (1, .int (nI s9))]) 36 rfl dX11_writeSet_35 rfl (by decide) rfl ?_
    exact r_letters (G := G) (tl := tl) (y := nI s9) (C.1 0) 0 C hn (by omega) hl
theorem r_writeSet {s9 : Nat} (hn : C.1 0 ≤ 6) (hs : s9 < 64) (hl : C.1 11 + (f_ws (C.1 0) s9 (C.1 11)).length ≤ 256) : g_Run G mX11_writeSet 2 0 0 [.ref (g_ad G 0), .int (nI s9)] (g_hp G C tl) none (g_hp G (f_wr C (f_ws (C.1 0) s9 (C.1 11))) tl) := by
  unfold f_ws at hl ⊢
  by_cases e9 : C.1 11 = 0
  · rw [if_pos e9] at hl ⊢
    rw [List.nil_append] at hl ⊢
    refine g_Run.of (lv := [(0, .ref (g_ad G 0)), (1, .int (nI s9))]) (by decide) (Nat.le_of_ble_eq_true rfl) rfl ?_
    refine a_aload_n 0 1 rfl dX11_writeSet_0 rfl rfl ?_
    refine a_get 9 cl_10 f_RX11_65_10 (by decide) (rfl) rfl 4 rfl dX11_writeSet_1 ?_
    refine a_callVN (as := []) (rest := []) (st2 := [.int (nI (C.1 11))]) (u1 := 0) (v1 := 0) (u2 := 0) (v2 := 0) (r_X10_length rfl) (⟨_, _, _, _, rfl, rfl⟩) oX10_length q_864 q_866 q_48 rfl (by omega) (by decide) rfl (Nat.le_of_ble_eq_true rfl) 7 rfl dX11_writeSet_4 rfl ?_
    refine a_if_le 20 10 rfl dX11_writeSet_7 (by decide) (fun _ => ?_) (fun hc => absurd ((by rw [e9]; decide)) hc)
    exact r_ws0 hn hs hl
  · rw [if_neg e9] at hl ⊢
    rw [List.length_append] at hl
    have w := r_ws0 (G := G) (C := f_wr C [44]) (tl := tl) (s9 := s9) hn hs (by show C.1 11 + 1 + List.length (_ ++ f_letters (nI s9) (C.1 0) 0) ≤ 256; have : [44].length = 1 := rfl; omega)
    rw [f_wr_app] at w
    refine g_Run.of (lv := [(0, .ref (g_ad G 0)), (1, .int (nI s9))]) (by decide) (Nat.le_of_ble_eq_true rfl) rfl ?_
    refine a_aload_n 0 1 rfl dX11_writeSet_0 rfl rfl ?_
    refine a_get 9 cl_10 f_RX11_65_10 (by decide) (rfl) rfl 4 rfl dX11_writeSet_1 ?_
    refine a_callVN (as := []) (rest := []) (st2 := [.int (nI (C.1 11))]) (u1 := 0) (v1 := 0) (u2 := 0) (v2 := 0) (r_X10_length rfl) (⟨_, _, _, _, rfl, rfl⟩) oX10_length q_864 q_866 q_48 rfl (by omega) (by decide) rfl (Nat.le_of_ble_eq_true rfl) 7 rfl dX11_writeSet_4 rfl ?_
    refine a_if_le 20 10 rfl dX11_writeSet_7 (by decide) (fun hc => absurd hc (nI_nle (by omega) (by omega))) (fun _ => ?_)
    refine a_aload_n 0 11 rfl dX11_writeSet_10 rfl rfl ?_
    refine a_get 9 cl_10 f_RX11_65_10 (by decide) (rfl) rfl 14 rfl dX11_writeSet_11 ?_
    refine a_bipush (x := 44) 16 rfl dX11_writeSet_14 (by decide) ?_
    refine a_eq (st2 := [.int (nI 44), .ref (g_ad G 19)]) rfl rfl (rfl) rfl ?_
    have h44 : C.1 11 < 256 := by have e7 : [44].length = 1 := rfl; omega
    refine a_callVN (as := [.int (nI 44)]) (rest := []) (st2 := [.int 1]) (u1 := 0) (v1 := 0) (u2 := 0) (v2 := 0) (r_app (c := 44) (by omega) h44) (⟨_, _, _, _, rfl, rfl⟩) oX10_append q_860 q_862 q_47 rfl (by omega) (by decide) rfl (Nat.le_of_ble_eq_true rfl) 19 rfl dX11_writeSet_16 rfl ?_
    refine a_pop 20 rfl dX11_writeSet_19 rfl ?_
    exact w
/-- what write writes of x, set by set -/
def f_pg (n : Nat) (x : Int64) : Nat → Nat → List Nat → List Nat
  | 0, _, acc => acc
  | t + 1, s, acc => if f_sr x (nI s) &&& 1 = 0 then f_pg n x t (s + 1) acc else f_pg n x t (s + 1) (acc ++ f_ws n s acc.length)
theorem f_pg_le (n : Nat) (x : Int64) : ∀ t s acc, acc.length ≤ (f_pg n x t s acc).length := by
  intro t
  induction t with
  | zero => intro s acc; exact Nat.le_refl _
  | succ t ih =>
    intro s acc
    unfold f_pg
    split
    · exact ih _ _
    · have e9 := ih (s + 1) (acc ++ f_ws n s acc.length)
      rw [List.length_append] at e9
      omega
theorem r_X11_write_bad (hm : C.1 3 ≤ 8) (hi : ¬ vp_in y (C.1 3)) : g_Run G mX11_write 4 0 0 [.ref (g_ad G 0), .int y] (g_hp G C tl) (some (.int (-1))) (g_hp G C tl) := by
  refine g_Run.of (lv := [(0, .ref (g_ad G 0)), (1, .int y)]) (by decide) (Nat.le_of_ble_eq_true rfl) rfl ?_
  refine a_aload_n 0 1 rfl dX11_write_0 rfl rfl ?_
  refine a_get 2 cl_10 f_RX11_28_10 (by decide) (rfl) rfl 4 rfl dX11_write_1 ?_
  refine a_iload_n 1 5 rfl dX11_write_4 rfl rfl ?_
  refine a_callVN (as := [.int y]) (rest := []) (st2 := [.null]) (u1 := 0) (v1 := 0) (u2 := 0) (v2 := 0) (r_at_out hm hi) (⟨_, _, _, _, rfl, rfl⟩) oX4_at q_446 q_448 q_9 rfl (by omega) (by decide) rfl (Nat.le_of_ble_eq_true rfl) 8 rfl dX11_write_5 rfl ?_
  refine a_astore_nN (lv' := [(2, .null), (0, .ref (g_ad G 0)), (1, .int y)]) 9 rfl dX11_write_8 rfl (by decide) rfl ?_
  refine a_aload_nN 0 10 rfl dX11_write_9 rfl rfl ?_
  refine a_ifnonnullN 13 rfl dX11_write_10 ?_
  refine a_iconst (x := (-1)) 14 rfl dX11_write_13 (by decide) ?_
  exact a_ireturn .int rfl rfl (rfl) (rfl) dX11_write_14
theorem r_X11_write (hf : f_is G C tl j o T) (hn : C.1 0 ≤ 6) (hl : (f_pg (C.1 0) (f_so C T) (2 ^ C.1 0) 0 []).length ≤ 256) : g_Run G mX11_write 4 0 0 [.ref (g_ad G 0), .int (nI j)] (g_hp G C tl) (some (.int (nI (f_pg (C.1 0) (f_so C T) (2 ^ C.1 0) 0 []).length))) (g_hp G (f_wr (f_un C 11 0) (f_pg (C.1 0) (f_so C T) (2 ^ C.1 0) 0 [])) tl) := by
  have hp : 2 ^ C.1 0 ≤ 64 := Nat.pow_le_pow_right (by decide) hn
  obtain ⟨x9, ex⟩ : ∃ x9, x9 = f_so C T := ⟨_, rfl⟩
  rw [← ex] at hl ⊢
  obtain ⟨n9, en⟩ : ∃ n9, n9 = C.1 0 := ⟨_, rfl⟩
  rw [← en] at hl hp ⊢
  have key : ∀ (jj ii : Nat) (acc : List Nat), ii + jj = 2 ^ n9 → (f_pg n9 x9 jj ii acc).length ≤ 256 → g_A G mX11_write 4 0 0 34 [(5, .int (nI ii)), (3, .long x9), (0, .ref (g_ad G 0))] [] (g_hp G (f_wr (f_un C 11 0) acc) tl) (some (.int (nI (f_pg n9 x9 jj ii acc).length))) (g_hp G (f_wr (f_un C 11 0) (f_pg n9 x9 jj ii acc)) tl) := by
    intro jj
    have hpl : ∀ acc : List Nat, g_Run G mX3_places 1 0 0 [.ref (g_ad G 1)] (g_hp G (f_wr (f_un C 11 0) acc) tl) (some (.int (nI (2 ^ n9)))) (g_hp G (f_wr (f_un C 11 0) acc) tl) := fun acc => by
      rw [en]; exact r_X3_places (n := C.1 0) rfl hn
    induction jj with
    | zero =>
      intro ii acc hii hl
      have e11 : (f_wr (f_un C 11 0) acc).1 11 = acc.length := Nat.zero_add _
      have w : g_Run G mX10_length 1 0 0 [.ref (g_ad G 19)] (g_hp G (f_wr (f_un C 11 0) acc) tl) (some (.int (nI acc.length))) (g_hp G (f_wr (f_un C 11 0) acc) tl) := by rw [← e11]; exact r_X10_length rfl
      refine a_iload 0 36 rfl dX11_write_34 rfl ?_
      refine a_aload_n 2 37 rfl dX11_write_36 rfl rfl ?_
      refine a_get 0 cl_10 f_RX11_12_10 (by decide) (rfl) rfl 40 rfl dX11_write_37 ?_
      refine a_callV (as := []) (rest := [.int (nI ii)]) (st2 := [.int (nI (2 ^ n9)), .int (nI ii)]) (u1 := 0) (v1 := 0) (u2 := 0) (v2 := 0) (hpl acc) (⟨_, _, _, _, rfl, rfl⟩) oX3_places q_623 q_388 q_1663 rfl (by omega) (by decide) rfl (Nat.le_of_ble_eq_true rfl) 43 rfl dX11_write_40 rfl ?_
      refine a_icmp_ge 69 46 rfl dX11_write_43 (by decide) (fun _ => ?_) (fun hc => absurd (nI_le (by omega) (by omega)) hc)
      refine a_aload_n 2 70 rfl dX11_write_69 rfl rfl ?_
      refine a_get 9 cl_10 f_RX11_65_10 (by decide) (rfl) rfl 73 rfl dX11_write_70 ?_
      refine a_callVN (as := []) (rest := []) (st2 := [.int (nI acc.length)]) (u1 := 0) (v1 := 0) (u2 := 0) (v2 := 0) (w) (⟨_, _, _, _, rfl, rfl⟩) oX10_length q_864 q_866 q_48 rfl (by omega) (by decide) rfl (Nat.le_of_ble_eq_true rfl) 76 rfl dX11_write_73 rfl ?_
      exact a_ireturn .int rfl rfl (rfl) (rfl) dX11_write_76
    | succ jj ih =>
      intro ii acc hii hl
      refine a_iload 0 36 rfl dX11_write_34 rfl ?_
      refine a_aload_n 2 37 rfl dX11_write_36 rfl rfl ?_
      refine a_get 0 cl_10 f_RX11_12_10 (by decide) (rfl) rfl 40 rfl dX11_write_37 ?_
      refine a_callV (as := []) (rest := [.int (nI ii)]) (st2 := [.int (nI (2 ^ n9)), .int (nI ii)]) (u1 := 0) (v1 := 0) (u2 := 0) (v2 := 0) (hpl acc) (⟨_, _, _, _, rfl, rfl⟩) oX3_places q_623 q_388 q_1663 rfl (by omega) (by decide) rfl (Nat.le_of_ble_eq_true rfl) 43 rfl dX11_write_40 rfl ?_
      refine a_icmp_ge 69 46 rfl dX11_write_43 (by decide) (fun hc => absurd hc (nI_ge (by omega) (by omega))) (fun _ => ?_)
      refine a_lload_n 1 47 rfl dX11_write_46 rfl rfl ?_
      refine a_iload 0 49 rfl dX11_write_47 rfl ?_
      refine a_lushr 50 rfl dX11_write_49 ?_
      refine a_lconst (x := 1) 51 rfl dX11_write_50 (by decide) ?_
      refine a_land 52 rfl dX11_write_51 ?_
      refine a_lconst (x := 0) 53 rfl dX11_write_52 (by decide) ?_
      refine a_lcmp 54 rfl dX11_write_53 ?_
      by_cases e9 : f_sr x9 (nI ii) &&& 1 = 0
      · rw [f_pg, if_pos e9] at hl ⊢
        refine a_if_eq 63 57 rfl dX11_write_54 (by decide) (fun _ => ?_) (fun hc => absurd ((g_cmp_eq.mpr e9)) hc)
        refine a_iinc (y := nI (ii + 1)) (lv' := [(5, .int (nI (ii + 1))), (3, .long x9), (0, .ref (g_ad G 0))]) 0 66 rfl dX11_write_63 rfl (nI_1 ii) (by decide) rfl ?_
        refine a_goto 34 dX11_write_66 (by decide) ?_
        exact ih (ii + 1) acc (by omega) hl
      · rw [f_pg, if_neg e9] at hl ⊢
        have e11 : (f_wr (f_un C 11 0) acc).1 11 = acc.length := Nat.zero_add _
        have hlen := f_pg_le n9 x9 jj (ii + 1) (acc ++ f_ws n9 ii acc.length)
        rw [List.length_append] at hlen
        have w := r_writeSet (G := G) (C := f_wr (f_un C 11 0) acc) (tl := tl) (s9 := ii) hn (by omega) (by rw [e11]; show acc.length + (f_ws (C.1 0) ii acc.length).length ≤ 256; rw [← en]; omega)
        rw [e11, f_wr_app] at w
        have w : g_Run G mX11_writeSet 2 0 0 [.ref (g_ad G 0), .int (nI ii)] (g_hp G (f_wr (f_un C 11 0) acc) tl) none (g_hp G (f_wr (f_un C 11 0) (acc ++ f_ws (C.1 0) ii acc.length)) tl) := w
        rw [← en] at w
        refine a_if_eq 63 57 rfl dX11_write_54 (by decide) (fun hc => absurd hc ((g_cmp_ne.mpr e9))) (fun _ => ?_)
        refine a_aload_n 2 58 rfl dX11_write_57 rfl rfl ?_
        refine a_iload 0 60 rfl dX11_write_58 rfl ?_
        refine a_callV (as := [.int (nI ii)]) (rest := []) (st2 := []) (u1 := 0) (v1 := 0) (u2 := 0) (v2 := 0) (w) (⟨_, _, _, _, rfl, rfl⟩) oX11_writeSet q_896 q_898 q_53 rfl (by omega) (by decide) rfl (Nat.le_of_ble_eq_true rfl) 63 rfl dX11_write_60 rfl ?_
        refine a_iinc (y := nI (ii + 1)) (lv' := [(5, .int (nI (ii + 1))), (3, .long x9), (0, .ref (g_ad G 0))]) 0 66 rfl dX11_write_63 rfl (nI_1 ii) (by decide) rfl ?_
        refine a_goto 34 dX11_write_66 (by decide) ?_
        exact ih (ii + 1) _ (by omega) hl
  have w2 := r_so hf hn
  rw [← ex] at w2
  have w3 := key (2 ^ n9) 0 [] (by omega) hl
  rw [f_wr_nil] at w3
  refine g_Run.of (lv := [(0, .ref (g_ad G 0)), (1, .int (nI j))]) (by decide) (Nat.le_of_ble_eq_true rfl) rfl ?_
  refine a_aload_n 0 1 rfl dX11_write_0 rfl rfl ?_
  refine a_get 2 cl_10 f_RX11_28_10 (by decide) (rfl) rfl 4 rfl dX11_write_1 ?_
  refine a_iload_n 1 5 rfl dX11_write_4 rfl rfl ?_
  refine a_callVN (as := [.int (nI j)]) (rest := []) (st2 := [.ref (g_ad G (38 + o))]) (u1 := 0) (v1 := 0) (u2 := 0) (v2 := 0) (r_at_in hf) (⟨_, _, _, _, rfl, rfl⟩) oX4_at q_446 q_448 q_9 rfl (by omega) (by decide) rfl (Nat.le_of_ble_eq_true rfl) 8 rfl dX11_write_5 rfl ?_
  refine a_astore_n (lv' := [(2, .ref (g_ad G (38 + o))), (0, .ref (g_ad G 0)), (1, .int (nI j))]) 9 rfl dX11_write_8 rfl (by decide) rfl ?_
  refine a_aload_n 0 10 rfl dX11_write_9 rfl rfl ?_
  refine a_ifnonnull 15 dX11_write_10 (by decide) ?_
  refine a_aload_n 1 16 rfl dX11_write_15 rfl rfl ?_
  refine a_get 0 cl_10 f_RX11_12_10 (by decide) (rfl) rfl 19 rfl dX11_write_16 ?_
  refine a_aload_n 0 20 rfl dX11_write_19 rfl rfl ?_
  refine a_callVN (as := [.ref (g_ad G (38 + o))]) (rest := []) (st2 := [.long x9]) (u1 := 0) (v1 := 0) (u2 := 0) (v2 := 0) (w2) (⟨_, _, _, _, rfl, rfl⟩) oX3_setsOf q_467 q_469 q_13 rfl (by omega) (by decide) rfl (Nat.le_of_ble_eq_true rfl) 23 rfl dX11_write_20 rfl ?_
  refine a_lstore_n (lv' := [(3, .long x9), (2, .ref (g_ad G (38 + o))), (0, .ref (g_ad G 0)), (1, .int (nI j))]) 24 rfl dX11_write_23 rfl (by decide) rfl ?_
  refine a_aload_n 2 25 rfl dX11_write_24 rfl rfl ?_
  refine a_get 9 cl_10 f_RX11_65_10 (by decide) (rfl) rfl 28 rfl dX11_write_25 ?_
  refine a_callVN (as := []) (rest := []) (st2 := []) (u1 := 0) (v1 := 0) (u2 := 0) (v2 := 0) (r_X10_clear rfl) (⟨_, _, _, _, rfl, rfl⟩) oX10_clear q_872 q_874 q_49 rfl (by omega) (by decide) rfl (Nat.le_of_ble_eq_true rfl) 31 rfl dX11_write_28 rfl ?_
  refine a_eq (h2 := g_hp G (f_un C 11 0) tl) rfl rfl rfl (rfl) ?_
  refine a_iconst (x := 0) 32 rfl dX11_write_31 (by decide) ?_
  refine a_istore (lv' := [(5, .int 0), (3, .long x9), (2, .ref (g_ad G (38 + o))), (0, .ref (g_ad G 0)), (1, .int (nI j))]) 34 rfl dX11_write_32 (by decide) rfl ?_
  refine a_sub (lv' := [(5, .int (nI 0)), (3, .long x9), (0, .ref (g_ad G 0))]) [0, 1, 3] rfl ?_
  exact w3
-- read
/-- where the tape's fault is, or -1 -/
def f_fa (n : Nat) (f : Nat → Int32) : Nat → Nat → Int32 → Int32
  | 0, s, l => if l = -1 then nI s else -1
  | t + 1, s, l => if f s = 44 ∧ ¬ l = -1 then f_fa n f t (s + 1) (-1) else if f s = 48 ∧ l = -1 then f_fa n f t (s + 1) 6 else if ¬ f s - 97 ≤ l ∧ f s - 97 < nI n then f_fa n f t (s + 1) (f s - 97) else nI s
/-- the sets that the tape tells -/
def f_st (f : Nat → Int32) : Nat → Nat → Int64 → Int32 → Int64
  | 0, _, d, c => d ||| f_sl (1 : Int64) c
  | t + 1, s, d, c => if f s = 44 then f_st f t (s + 1) (d ||| f_sl (1 : Int64) c) 0 else if f s = 48 then f_st f t (s + 1) d c else f_st f t (s + 1) d (c ||| (1 : Int32) <<< ((f s - 97) &&& 31))
theorem r_setsOnTape (hn : C.1 10 ≤ 80) : g_Run G mX11_setsOnTape 2 0 0 [.ref (g_ad G 0)] (g_hp G C tl) (some (.long (f_st (C.2.2.2.1 5) (C.1 10) 0 0 0))) (g_hp G C tl) := by
  have key : ∀ jj ii : Nat, ii + jj = C.1 10 → ∀ (d : Int64) (c : Int32), g_A G mX11_setsOnTape 2 0 0 7 [(4, .int (nI ii)), (3, .int c), (1, .long d), (0, .ref (g_ad G 0))] [] (g_hp G C tl) (some (.long (f_st (C.2.2.2.1 5) jj ii d c))) (g_hp G C tl) := by
    intro jj
    induction jj with
    | zero =>
      intro ii hii d c
      refine a_iload 0 9 rfl dX11_setsOnTape_7 rfl ?_
      refine a_aload_n 3 10 rfl dX11_setsOnTape_9 rfl rfl ?_
      refine a_get 8 cl_10 f_RX11_61_10 (by decide) (rfl) rfl 13 rfl dX11_setsOnTape_10 ?_
      refine a_callVN (as := []) (rest := [.int (nI ii)]) (st2 := [.int (nI (C.1 10)), .int (nI ii)]) (u1 := 0) (v1 := 0) (u2 := 0) (v2 := 0) (r_X10_length rfl) (⟨_, _, _, _, rfl, rfl⟩) oX10_length q_864 q_866 q_48 rfl (by omega) (by decide) rfl (Nat.le_of_ble_eq_true rfl) 16 rfl dX11_setsOnTape_13 rfl ?_
      refine a_icmp_ge 71 19 rfl dX11_setsOnTape_16 (by decide) (fun _ => ?_) (fun hc => absurd (nI_le (by omega) (by omega)) hc)
      refine a_lload_n 2 72 rfl dX11_setsOnTape_71 rfl rfl ?_
      refine a_lconst (x := 1) 73 rfl dX11_setsOnTape_72 (by decide) ?_
      refine a_iload_n 1 74 rfl dX11_setsOnTape_73 rfl rfl ?_
      refine a_lshl 75 rfl dX11_setsOnTape_74 ?_
      refine a_lor 76 rfl dX11_setsOnTape_75 ?_
      exact a_lreturn rfl (rfl) (rfl) dX11_setsOnTape_76
    | succ jj ih =>
      intro ii hii d c
      refine a_iload 0 9 rfl dX11_setsOnTape_7 rfl ?_
      refine a_aload_n 3 10 rfl dX11_setsOnTape_9 rfl rfl ?_
      refine a_get 8 cl_10 f_RX11_61_10 (by decide) (rfl) rfl 13 rfl dX11_setsOnTape_10 ?_
      refine a_callVN (as := []) (rest := [.int (nI ii)]) (st2 := [.int (nI (C.1 10)), .int (nI ii)]) (u1 := 0) (v1 := 0) (u2 := 0) (v2 := 0) (r_X10_length rfl) (⟨_, _, _, _, rfl, rfl⟩) oX10_length q_864 q_866 q_48 rfl (by omega) (by decide) rfl (Nat.le_of_ble_eq_true rfl) 16 rfl dX11_setsOnTape_13 rfl ?_
      refine a_icmp_ge 71 19 rfl dX11_setsOnTape_16 (by decide) (fun hc => absurd hc (nI_ge (by omega) (by omega))) (fun _ => ?_)
      refine a_aload_n 3 20 rfl dX11_setsOnTape_19 rfl rfl ?_
      refine a_get 8 cl_10 f_RX11_61_10 (by decide) (rfl) rfl 23 rfl dX11_setsOnTape_20 ?_
      refine a_iload 0 25 rfl dX11_setsOnTape_23 rfl ?_
      refine a_callVN (as := [.int (nI ii)]) (rest := []) (st2 := [.int (C.2.2.2.1 5 ii)]) (u1 := 0) (v1 := 0) (u2 := 0) (v2 := 0) (r_X10_at_in (m := 80) rfl rfl (by decide) hn (by omega)) (⟨_, _, _, _, rfl, rfl⟩) oX10_at q_884 q_886 q_51 rfl (by omega) (by decide) rfl (Nat.le_of_ble_eq_true rfl) 28 rfl dX11_setsOnTape_25 rfl ?_
      refine a_istore (lv' := [(5, .int (C.2.2.2.1 5 ii)), (4, .int (nI ii)), (3, .int c), (1, .long d), (0, .ref (g_ad G 0))]) 30 rfl dX11_setsOnTape_28 (by decide) rfl ?_
      refine a_iload 0 32 rfl dX11_setsOnTape_30 rfl ?_
      refine a_bipush (x := 44) 34 rfl dX11_setsOnTape_32 (by decide) ?_
      by_cases e1 : C.2.2.2.1 5 ii = 44
      · rw [f_st, if_pos e1]
        refine a_icmp_ne 48 37 rfl dX11_setsOnTape_34 (by decide) (fun hc => absurd (e1) hc) (fun _ => ?_)
        refine a_lload_n 3 38 rfl dX11_setsOnTape_37 rfl rfl ?_
        refine a_lconst (x := 1) 39 rfl dX11_setsOnTape_38 (by decide) ?_
        refine a_iload_n 2 40 rfl dX11_setsOnTape_39 rfl rfl ?_
        refine a_lshl 41 rfl dX11_setsOnTape_40 ?_
        refine a_lor 42 rfl dX11_setsOnTape_41 ?_
        refine a_lstore_n (lv' := [(1, .long (d ||| (f_sl (1 : Int64) c))), (5, .int (C.2.2.2.1 5 ii)), (4, .int (nI ii)), (3, .int c), (0, .ref (g_ad G 0))]) 43 rfl dX11_setsOnTape_42 rfl (by decide) rfl ?_
        refine a_iconst (x := 0) 44 rfl dX11_setsOnTape_43 (by decide) ?_
        refine a_istore_n (lv' := [(3, .int 0), (1, .long (d ||| (f_sl (1 : Int64) c))), (5, .int (C.2.2.2.1 5 ii)), (4, .int (nI ii)), (0, .ref (g_ad G 0))]) 45 rfl dX11_setsOnTape_44 rfl (by decide) rfl ?_
        refine a_goto 65 dX11_setsOnTape_45 (by decide) ?_
        refine a_iinc (y := nI (ii + 1)) (lv' := [(4, .int (nI (ii + 1))), (3, .int 0), (1, .long (d ||| (f_sl (1 : Int64) c))), (5, .int (C.2.2.2.1 5 ii)), (0, .ref (g_ad G 0))]) 3 68 rfl dX11_setsOnTape_65 rfl (nI_1 ii) (by decide) rfl ?_
        refine a_goto 7 dX11_setsOnTape_68 (by decide) ?_
        refine a_sub (lv' := [(4, .int (nI (ii + 1))), (3, .int 0), (1, .long (d ||| (f_sl (1 : Int64) c))), (0, .ref (g_ad G 0))]) [0, 1, 2, 4] rfl ?_
        exact ih (ii + 1) (by omega) _ _
      · rw [f_st, if_neg e1]
        refine a_icmp_ne 48 37 rfl dX11_setsOnTape_34 (by decide) (fun _ => ?_) (fun hc => absurd hc (e1))
        refine a_iload 0 50 rfl dX11_setsOnTape_48 rfl ?_
        refine a_bipush (x := 48) 52 rfl dX11_setsOnTape_50 (by decide) ?_
        by_cases e2 : C.2.2.2.1 5 ii = 48
        · rw [if_pos e2]
          refine a_icmp_eq 65 55 rfl dX11_setsOnTape_52 (by decide) (fun _ => ?_) (fun hc => absurd (e2) hc)
          refine a_iinc (y := nI (ii + 1)) (lv' := [(4, .int (nI (ii + 1))), (5, .int (C.2.2.2.1 5 ii)), (3, .int c), (1, .long d), (0, .ref (g_ad G 0))]) 1 68 rfl dX11_setsOnTape_65 rfl (nI_1 ii) (by decide) rfl ?_
          refine a_goto 7 dX11_setsOnTape_68 (by decide) ?_
          refine a_sub (lv' := [(4, .int (nI (ii + 1))), (3, .int c), (1, .long d), (0, .ref (g_ad G 0))]) [0, 2, 3, 4] rfl ?_
          exact ih (ii + 1) (by omega) _ _
        · rw [if_neg e2]
          refine a_icmp_eq 65 55 rfl dX11_setsOnTape_52 (by decide) (fun hc => absurd hc (e2)) (fun _ => ?_)
          refine a_iload_n 2 56 rfl dX11_setsOnTape_55 rfl rfl ?_
          refine a_iconst (x := 1) 57 rfl dX11_setsOnTape_56 (by decide) ?_
          refine a_iload 0 59 rfl dX11_setsOnTape_57 rfl ?_
          refine a_bipush (x := 97) 61 rfl dX11_setsOnTape_59 (by decide) ?_
          refine a_isub 62 rfl dX11_setsOnTape_61 ?_
          refine a_ishl 63 rfl dX11_setsOnTape_62 ?_
          refine a_ior 64 rfl dX11_setsOnTape_63 ?_
          refine a_istore_n (lv' := [(3, .int (c ||| ((1 : Int32) <<< (((C.2.2.2.1 5 ii) - 97) &&& 31)))), (5, .int (C.2.2.2.1 5 ii)), (4, .int (nI ii)), (1, .long d), (0, .ref (g_ad G 0))]) 65 rfl dX11_setsOnTape_64 rfl (by decide) rfl ?_
          refine a_iinc (y := nI (ii + 1)) (lv' := [(4, .int (nI (ii + 1))), (3, .int (c ||| ((1 : Int32) <<< (((C.2.2.2.1 5 ii) - 97) &&& 31)))), (5, .int (C.2.2.2.1 5 ii)), (1, .long d), (0, .ref (g_ad G 0))]) 2 68 rfl dX11_setsOnTape_65 rfl (nI_1 ii) (by decide) rfl ?_
          refine a_goto 7 dX11_setsOnTape_68 (by decide) ?_
          refine a_sub (lv' := [(4, .int (nI (ii + 1))), (3, .int (c ||| ((1 : Int32) <<< (((C.2.2.2.1 5 ii) - 97) &&& 31)))), (1, .long d), (0, .ref (g_ad G 0))]) [0, 1, 3, 4] rfl ?_
          exact ih (ii + 1) (by omega) _ _
  refine g_Run.of (lv := [(0, .ref (g_ad G 0))]) (by decide) (Nat.le_of_ble_eq_true rfl) rfl ?_
  refine a_lconst (x := 0) 1 rfl dX11_setsOnTape_0 (by decide) ?_
  refine a_lstore_n (lv' := [(1, .long 0), (0, .ref (g_ad G 0))]) 2 rfl dX11_setsOnTape_1 rfl (by decide) rfl ?_
  refine a_iconst (x := 0) 3 rfl dX11_setsOnTape_2 (by decide) ?_
  refine a_istore_n (lv' := [(3, .int 0), (1, .long 0), (0, .ref (g_ad G 0))]) 4 rfl dX11_setsOnTape_3 rfl (by decide) rfl ?_
  refine a_iconst (x := 0) 5 rfl dX11_setsOnTape_4 (by decide) ?_
  refine a_istore (lv' := [(4, .int 0), (3, .int 0), (1, .long 0), (0, .ref (g_ad G 0))]) 7 rfl dX11_setsOnTape_5 (by decide) rfl ?_
  refine a_sub (lv' := [(4, .int (nI 0)), (3, .int 0), (1, .long 0), (0, .ref (g_ad G 0))]) [0, 1, 2, 3] rfl ?_
  exact key _ _ (by omega) _ _
theorem r_faultOnTape (hn : C.1 10 ≤ 80) : g_Run G mX11_faultOnTape 2 0 0 [.ref (g_ad G 0)] (g_hp G C tl) (some (.int (f_fa (C.1 0) (C.2.2.2.1 5) (C.1 10) 0 (-1)))) (g_hp G C tl) := by
  have key : ∀ jj ii : Nat, ii + jj = C.1 10 → ∀ (l : Int32), g_A G mX11_faultOnTape 2 0 0 10 [(4, .int (nI ii)), (3, .int l), (2, .int 6), (1, .int (-1)), (0, .ref (g_ad G 0))] [] (g_hp G C tl) (some (.int (f_fa (C.1 0) (C.2.2.2.1 5) jj ii l))) (g_hp G C tl) := by
    intro jj
    induction jj with
    | zero =>
      intro ii hii l
      refine a_iload 0 12 rfl dX11_faultOnTape_10 rfl ?_
      refine a_aload_n 4 13 rfl dX11_faultOnTape_12 rfl rfl ?_
      refine a_get 8 cl_10 f_RX11_61_10 (by decide) (rfl) rfl 16 rfl dX11_faultOnTape_13 ?_
      refine a_callVN (as := []) (rest := [.int (nI ii)]) (st2 := [.int (nI (C.1 10)), .int (nI ii)]) (u1 := 0) (v1 := 0) (u2 := 0) (v2 := 0) (r_X10_length rfl) (⟨_, _, _, _, rfl, rfl⟩) oX10_length q_864 q_866 q_48 rfl (by omega) (by decide) rfl (Nat.le_of_ble_eq_true rfl) 19 rfl dX11_faultOnTape_16 rfl ?_
      refine a_icmp_ge 109 22 rfl dX11_faultOnTape_19 (by decide) (fun _ => ?_) (fun hc => absurd (nI_le (by omega) (by omega)) hc)
      refine a_iload_n 1 110 rfl dX11_faultOnTape_109 rfl rfl ?_
      refine a_iload_n 3 111 rfl dX11_faultOnTape_110 rfl rfl ?_
      by_cases e1 : l = -1
      · rw [f_fa, if_pos e1]
        refine a_icmp_ne 124 114 rfl dX11_faultOnTape_111 (by decide) (fun hc => absurd (e1) hc) (fun _ => ?_)
        refine a_aload_n 4 115 rfl dX11_faultOnTape_114 rfl rfl ?_
        refine a_get 8 cl_10 f_RX11_61_10 (by decide) (rfl) rfl 118 rfl dX11_faultOnTape_115 ?_
        refine a_callVN (as := []) (rest := []) (st2 := [.int (nI (C.1 10))]) (u1 := 0) (v1 := 0) (u2 := 0) (v2 := 0) (r_X10_length rfl) (⟨_, _, _, _, rfl, rfl⟩) oX10_length q_864 q_866 q_48 rfl (by omega) (by decide) rfl (Nat.le_of_ble_eq_true rfl) 121 rfl dX11_faultOnTape_118 rfl ?_
        refine a_goto 125 dX11_faultOnTape_121 (by decide) ?_
        exact a_ireturn .int rfl rfl ((by rw [show ii = C.1 10 by omega])) (rfl) dX11_faultOnTape_125
      · rw [f_fa, if_neg e1]
        refine a_icmp_ne 124 114 rfl dX11_faultOnTape_111 (by decide) (fun _ => ?_) (fun hc => absurd hc (e1))
        refine a_iconst (x := (-1)) 125 rfl dX11_faultOnTape_124 (by decide) ?_
        exact a_ireturn .int rfl rfl (rfl) (rfl) dX11_faultOnTape_125
    | succ jj ih =>
      intro ii hii l
      have s67 : ¬ (C.2.2.2.1 5 ii = 44 ∧ ¬ l = -1) → ¬ (C.2.2.2.1 5 ii = 48 ∧ l = -1) → g_A G mX11_faultOnTape 2 0 0 67 [(5, .int (C.2.2.2.1 5 ii)), (4, .int (nI ii)), (3, .int l), (2, .int 6), (1, .int (-1)), (0, .ref (g_ad G 0))] [] (g_hp G C tl) (some (.int (f_fa (C.1 0) (C.2.2.2.1 5) (jj + 1) ii l))) (g_hp G C tl) := by
        intro n1 n2
        rw [f_fa, if_neg n1, if_neg n2]
        refine a_iload 0 69 rfl dX11_faultOnTape_67 rfl ?_
        refine a_bipush (x := 97) 71 rfl dX11_faultOnTape_69 (by decide) ?_
        refine a_isub 72 rfl dX11_faultOnTape_71 ?_
        refine a_iload_n 2 73 rfl dX11_faultOnTape_72 rfl rfl ?_
        by_cases e3 : C.2.2.2.1 5 ii - 97 ≤ l
        · rw [if_neg (fun z => z.1 e3)]
          refine a_icmp_le 100 76 rfl dX11_faultOnTape_73 (by decide) (fun _ => ?_) (fun hc => absurd (e3) hc)
          refine a_iload 1 102 rfl dX11_faultOnTape_100 rfl ?_
          exact a_ireturn .int rfl rfl (rfl) (rfl) dX11_faultOnTape_102
        · skip
          refine a_icmp_le 100 76 rfl dX11_faultOnTape_73 (by decide) (fun hc => absurd hc (e3)) (fun _ => ?_)
          refine a_iload 0 78 rfl dX11_faultOnTape_76 rfl ?_
          refine a_bipush (x := 97) 80 rfl dX11_faultOnTape_78 (by decide) ?_
          refine a_isub 81 rfl dX11_faultOnTape_80 ?_
          refine a_aload_n 5 82 rfl dX11_faultOnTape_81 rfl rfl ?_
          refine a_get 0 cl_10 f_RX11_12_10 (by decide) (rfl) rfl 85 rfl dX11_faultOnTape_82 ?_
          refine a_callVN (as := []) (rest := [.int ((C.2.2.2.1 5 ii) - 97)]) (st2 := [.int (nI (C.1 0)), .int ((C.2.2.2.1 5 ii) - 97)]) (u1 := 0) (v1 := 0) (u2 := 0) (v2 := 0) (r_X3_elements rfl) (⟨_, _, _, _, rfl, rfl⟩) oX3_elements q_352 q_354 q_0 rfl (by omega) (by decide) rfl (Nat.le_of_ble_eq_true rfl) 88 rfl dX11_faultOnTape_85 rfl ?_
          by_cases e4 : C.2.2.2.1 5 ii - 97 < nI (C.1 0)
          · rw [if_pos ⟨e3, e4⟩]
            refine a_icmp_ge 100 91 rfl dX11_faultOnTape_88 (by decide) (fun hc => absurd hc ((Int32.not_le.mpr e4))) (fun _ => ?_)
            refine a_iload 0 93 rfl dX11_faultOnTape_91 rfl ?_
            refine a_bipush (x := 97) 95 rfl dX11_faultOnTape_93 (by decide) ?_
            refine a_isub 96 rfl dX11_faultOnTape_95 ?_
            refine a_istore_n (lv' := [(3, .int ((C.2.2.2.1 5 ii) - 97)), (5, .int (C.2.2.2.1 5 ii)), (4, .int (nI ii)), (2, .int 6), (1, .int ((-1))), (0, .ref (g_ad G 0))]) 97 rfl dX11_faultOnTape_96 rfl (by decide) rfl ?_
            refine a_goto 103 dX11_faultOnTape_97 (by decide) ?_
            refine a_iinc (y := nI (ii + 1)) (lv' := [(4, .int (nI (ii + 1))), (3, .int ((C.2.2.2.1 5 ii) - 97)), (5, .int (C.2.2.2.1 5 ii)), (2, .int 6), (1, .int ((-1))), (0, .ref (g_ad G 0))]) 2 106 rfl dX11_faultOnTape_103 rfl (nI_1 ii) (by decide) rfl ?_
            refine a_goto 10 dX11_faultOnTape_106 (by decide) ?_
            refine a_sub (lv' := [(4, .int (nI (ii + 1))), (3, .int ((C.2.2.2.1 5 ii) - 97)), (2, .int 6), (1, .int ((-1))), (0, .ref (g_ad G 0))]) [0, 1, 3, 4, 5] rfl ?_
            exact ih (ii + 1) (by omega) _
          · rw [if_neg (fun z => e4 z.2)]
            refine a_icmp_ge 100 91 rfl dX11_faultOnTape_88 (by decide) (fun _ => ?_) (fun hc => absurd ((Int32.not_lt.mp e4)) hc)
            refine a_iload 1 102 rfl dX11_faultOnTape_100 rfl ?_
            exact a_ireturn .int rfl rfl (rfl) (rfl) dX11_faultOnTape_102
      have s50 : ¬ (C.2.2.2.1 5 ii = 44 ∧ ¬ l = -1) → g_A G mX11_faultOnTape 2 0 0 50 [(5, .int (C.2.2.2.1 5 ii)), (4, .int (nI ii)), (3, .int l), (2, .int 6), (1, .int (-1)), (0, .ref (g_ad G 0))] [] (g_hp G C tl) (some (.int (f_fa (C.1 0) (C.2.2.2.1 5) (jj + 1) ii l))) (g_hp G C tl) := by
        intro n1
        refine a_iload 0 52 rfl dX11_faultOnTape_50 rfl ?_
        refine a_bipush (x := 48) 54 rfl dX11_faultOnTape_52 (by decide) ?_
        by_cases e3 : C.2.2.2.1 5 ii = 48
        · skip
          refine a_icmp_ne 67 57 rfl dX11_faultOnTape_54 (by decide) (fun hc => absurd (e3) hc) (fun _ => ?_)
          refine a_iload_n 2 58 rfl dX11_faultOnTape_57 rfl rfl ?_
          refine a_iload_n 4 59 rfl dX11_faultOnTape_58 rfl rfl ?_
          by_cases e4 : l = -1
          · skip
            refine a_icmp_ne 67 62 rfl dX11_faultOnTape_59 (by decide) (fun hc => absurd (e4) hc) (fun _ => ?_)
            refine a_iload_n 3 63 rfl dX11_faultOnTape_62 rfl rfl ?_
            refine a_istore_n (lv' := [(3, .int 6), (5, .int (C.2.2.2.1 5 ii)), (4, .int (nI ii)), (2, .int 6), (1, .int ((-1))), (0, .ref (g_ad G 0))]) 64 rfl dX11_faultOnTape_63 rfl (by decide) rfl ?_
            refine a_goto 103 dX11_faultOnTape_64 (by decide) ?_
            refine a_iinc (y := nI (ii + 1)) (lv' := [(4, .int (nI (ii + 1))), (3, .int 6), (5, .int (C.2.2.2.1 5 ii)), (2, .int 6), (1, .int ((-1))), (0, .ref (g_ad G 0))]) 2 106 rfl dX11_faultOnTape_103 rfl (nI_1 ii) (by decide) rfl ?_
            refine a_goto 10 dX11_faultOnTape_106 (by decide) ?_
            refine a_sub (lv' := [(4, .int (nI (ii + 1))), (3, .int 6), (2, .int 6), (1, .int ((-1))), (0, .ref (g_ad G 0))]) [0, 1, 3, 4, 5] rfl ?_
            rw [f_fa, if_neg n1, if_pos ⟨e3, e4⟩]
            exact ih (ii + 1) (by omega) _
          · skip
            refine a_icmp_ne 67 62 rfl dX11_faultOnTape_59 (by decide) (fun _ => ?_) (fun hc => absurd hc (e4))
            exact s67 n1 (fun z => e4 z.2)
        · skip
          refine a_icmp_ne 67 57 rfl dX11_faultOnTape_54 (by decide) (fun _ => ?_) (fun hc => absurd hc (e3))
          exact s67 n1 (fun z => e3 z.1)
      refine a_iload 0 12 rfl dX11_faultOnTape_10 rfl ?_
      refine a_aload_n 4 13 rfl dX11_faultOnTape_12 rfl rfl ?_
      refine a_get 8 cl_10 f_RX11_61_10 (by decide) (rfl) rfl 16 rfl dX11_faultOnTape_13 ?_
      refine a_callVN (as := []) (rest := [.int (nI ii)]) (st2 := [.int (nI (C.1 10)), .int (nI ii)]) (u1 := 0) (v1 := 0) (u2 := 0) (v2 := 0) (r_X10_length rfl) (⟨_, _, _, _, rfl, rfl⟩) oX10_length q_864 q_866 q_48 rfl (by omega) (by decide) rfl (Nat.le_of_ble_eq_true rfl) 19 rfl dX11_faultOnTape_16 rfl ?_
      refine a_icmp_ge 109 22 rfl dX11_faultOnTape_19 (by decide) (fun hc => absurd hc (nI_ge (by omega) (by omega))) (fun _ => ?_)
      refine a_aload_n 4 23 rfl dX11_faultOnTape_22 rfl rfl ?_
      refine a_get 8 cl_10 f_RX11_61_10 (by decide) (rfl) rfl 26 rfl dX11_faultOnTape_23 ?_
      refine a_iload 0 28 rfl dX11_faultOnTape_26 rfl ?_
      refine a_callVN (as := [.int (nI ii)]) (rest := []) (st2 := [.int (C.2.2.2.1 5 ii)]) (u1 := 0) (v1 := 0) (u2 := 0) (v2 := 0) (r_X10_at_in (m := 80) rfl rfl (by decide) hn (by omega)) (⟨_, _, _, _, rfl, rfl⟩) oX10_at q_884 q_886 q_51 rfl (by omega) (by decide) rfl (Nat.le_of_ble_eq_true rfl) 31 rfl dX11_faultOnTape_28 rfl ?_
      refine a_istore (lv' := [(5, .int (C.2.2.2.1 5 ii)), (4, .int (nI ii)), (3, .int l), (2, .int 6), (1, .int ((-1))), (0, .ref (g_ad G 0))]) 33 rfl dX11_faultOnTape_31 (by decide) rfl ?_
      refine a_iload 0 35 rfl dX11_faultOnTape_33 rfl ?_
      refine a_bipush (x := 44) 37 rfl dX11_faultOnTape_35 (by decide) ?_
      by_cases e1 : C.2.2.2.1 5 ii = 44
      · skip
        refine a_icmp_ne 50 40 rfl dX11_faultOnTape_37 (by decide) (fun hc => absurd (e1) hc) (fun _ => ?_)
        refine a_iload_n 2 41 rfl dX11_faultOnTape_40 rfl rfl ?_
        refine a_iload_n 4 42 rfl dX11_faultOnTape_41 rfl rfl ?_
        by_cases e2 : l = -1
        · skip
          refine a_icmp_eq 50 45 rfl dX11_faultOnTape_42 (by decide) (fun _ => ?_) (fun hc => absurd (e2) hc)
          exact s50 (fun z => z.2 e2)
        · skip
          refine a_icmp_eq 50 45 rfl dX11_faultOnTape_42 (by decide) (fun hc => absurd hc (e2)) (fun _ => ?_)
          refine a_iload_n 4 46 rfl dX11_faultOnTape_45 rfl rfl ?_
          refine a_istore_n (lv' := [(3, .int ((-1))), (5, .int (C.2.2.2.1 5 ii)), (4, .int (nI ii)), (2, .int 6), (1, .int ((-1))), (0, .ref (g_ad G 0))]) 47 rfl dX11_faultOnTape_46 rfl (by decide) rfl ?_
          refine a_goto 103 dX11_faultOnTape_47 (by decide) ?_
          refine a_iinc (y := nI (ii + 1)) (lv' := [(4, .int (nI (ii + 1))), (3, .int ((-1))), (5, .int (C.2.2.2.1 5 ii)), (2, .int 6), (1, .int ((-1))), (0, .ref (g_ad G 0))]) 2 106 rfl dX11_faultOnTape_103 rfl (nI_1 ii) (by decide) rfl ?_
          refine a_goto 10 dX11_faultOnTape_106 (by decide) ?_
          refine a_sub (lv' := [(4, .int (nI (ii + 1))), (3, .int ((-1))), (2, .int 6), (1, .int ((-1))), (0, .ref (g_ad G 0))]) [0, 1, 3, 4, 5] rfl ?_
          rw [f_fa, if_pos ⟨e1, e2⟩]
          exact ih (ii + 1) (by omega) _
      · skip
        refine a_icmp_ne 50 40 rfl dX11_faultOnTape_37 (by decide) (fun _ => ?_) (fun hc => absurd hc (e1))
        exact s50 (fun z => e1 z.1)
  refine g_Run.of (lv := [(0, .ref (g_ad G 0))]) (by decide) (Nat.le_of_ble_eq_true rfl) rfl ?_
  refine a_iconst (x := (-1)) 1 rfl dX11_faultOnTape_0 (by decide) ?_
  refine a_istore_n (lv' := [(1, .int ((-1))), (0, .ref (g_ad G 0))]) 2 rfl dX11_faultOnTape_1 rfl (by decide) rfl ?_
  refine a_bipush (x := 6) 4 rfl dX11_faultOnTape_2 (by decide) ?_
  refine a_istore_n (lv' := [(2, .int 6), (1, .int ((-1))), (0, .ref (g_ad G 0))]) 5 rfl dX11_faultOnTape_4 rfl (by decide) rfl ?_
  refine a_iload_n 1 6 rfl dX11_faultOnTape_5 rfl rfl ?_
  refine a_istore_n (lv' := [(3, .int ((-1))), (2, .int 6), (1, .int ((-1))), (0, .ref (g_ad G 0))]) 7 rfl dX11_faultOnTape_6 rfl (by decide) rfl ?_
  refine a_iconst (x := 0) 8 rfl dX11_faultOnTape_7 (by decide) ?_
  refine a_istore (lv' := [(4, .int 0), (3, .int ((-1))), (2, .int 6), (1, .int ((-1))), (0, .ref (g_ad G 0))]) 10 rfl dX11_faultOnTape_8 (by decide) rfl ?_
  refine a_sub (lv' := [(4, .int (nI 0)), (3, .int (-1)), (2, .int 6), (1, .int (-1)), (0, .ref (g_ad G 0))]) [0, 1, 2, 3, 4] rfl ?_
  exact key _ _ (by omega) _
theorem r_X11_read_fault (hn : C.1 10 ≤ 80) (h0 : 0 ≤ f_fa (C.1 0) (C.2.2.2.1 5) (C.1 10) 0 (-1)) : g_Run G mX11_read 3 1 3 [.ref (g_ad G 0)] (g_hp G C tl) (some (.int (-100 - f_fa (C.1 0) (C.2.2.2.1 5) (C.1 10) 0 (-1)))) (g_hp G (f_un C 10 0) tl) := by
  refine g_Run.of (lv := [(0, .ref (g_ad G 0))]) (by decide) (Nat.le_of_ble_eq_true rfl) rfl ?_
  refine a_aload_n 0 1 rfl dX11_read_0 rfl rfl ?_
  refine a_callV (as := []) (rest := []) (st2 := [.int (f_fa (C.1 0) (C.2.2.2.1 5) (C.1 10) 0 (-1))]) (u1 := 0) (v1 := 0) (u2 := 1) (v2 := 3) (r_faultOnTape hn) (⟨_, _, _, _, rfl, rfl⟩) oX11_faultOnTape q_880 q_882 q_50 rfl (by omega) (by decide) rfl (Nat.le_of_ble_eq_true rfl) 4 rfl dX11_read_1 rfl ?_
  refine a_istore_n (lv' := [(1, .int (f_fa (C.1 0) (C.2.2.2.1 5) (C.1 10) 0 (-1))), (0, .ref (g_ad G 0))]) 5 rfl dX11_read_4 rfl (by decide) rfl ?_
  refine a_iload_n 0 6 rfl dX11_read_5 rfl rfl ?_
  refine a_if_ge 16 9 rfl dX11_read_6 (by decide) (fun _ => ?_) (fun hc => absurd (h0) hc)
  refine a_lconst (x := 0) 17 rfl dX11_read_16 (by decide) ?_
  refine a_lstore_n (lv' := [(2, .long 0), (1, .int (f_fa (C.1 0) (C.2.2.2.1 5) (C.1 10) 0 (-1))), (0, .ref (g_ad G 0))]) 18 rfl dX11_read_17 rfl (by decide) rfl ?_
  refine a_aload_n 2 19 rfl dX11_read_18 rfl rfl ?_
  refine a_get 8 cl_10 f_RX11_61_10 (by decide) (rfl) rfl 22 rfl dX11_read_19 ?_
  refine a_callVN (as := []) (rest := []) (st2 := []) (u1 := 0) (v1 := 0) (u2 := 1) (v2 := 3) (r_X10_clear rfl) (⟨_, _, _, _, rfl, rfl⟩) oX10_clear q_872 q_874 q_49 rfl (by omega) (by decide) rfl (Nat.le_of_ble_eq_true rfl) 25 rfl dX11_read_22 rfl ?_
  refine a_eq (h2 := g_hp G (f_un C 10 0) tl) rfl rfl rfl (rfl) ?_
  refine a_iload_n 1 26 rfl dX11_read_25 rfl rfl ?_
  refine a_if_ge 37 29 rfl dX11_read_26 (by decide) (fun _ => ?_) (fun hc => absurd (h0) hc)
  refine a_bipush (x := (-100)) 39 rfl dX11_read_37 (by decide) ?_
  refine a_iload_n 1 40 rfl dX11_read_39 rfl rfl ?_
  refine a_isub 41 rfl dX11_read_40 ?_
  exact a_ireturn .int rfl rfl (rfl) (rfl) dX11_read_41
theorem r_X11_read (hn : C.1 10 ≤ 80) (hm : C.1 3 ≤ 8) (h0 : ¬ 0 ≤ f_fa (C.1 0) (C.2.2.2.1 5) (C.1 10) 0 (-1)) : g_Run G mX11_read 3 1 3 [.ref (g_ad G 0)] (g_hp G C tl) (some (.int (f_brA C))) (g_hp G (f_brC G (f_un C 10 0) tl) (f_brT C tl (f_st (C.2.2.2.1 5) (C.1 10) 0 0 0))) := by
  refine g_Run.of (lv := [(0, .ref (g_ad G 0))]) (by decide) (Nat.le_of_ble_eq_true rfl) rfl ?_
  refine a_aload_n 0 1 rfl dX11_read_0 rfl rfl ?_
  refine a_callV (as := []) (rest := []) (st2 := [.int (f_fa (C.1 0) (C.2.2.2.1 5) (C.1 10) 0 (-1))]) (u1 := 0) (v1 := 0) (u2 := 1) (v2 := 3) (r_faultOnTape hn) (⟨_, _, _, _, rfl, rfl⟩) oX11_faultOnTape q_880 q_882 q_50 rfl (by omega) (by decide) rfl (Nat.le_of_ble_eq_true rfl) 4 rfl dX11_read_1 rfl ?_
  refine a_istore_n (lv' := [(1, .int (f_fa (C.1 0) (C.2.2.2.1 5) (C.1 10) 0 (-1))), (0, .ref (g_ad G 0))]) 5 rfl dX11_read_4 rfl (by decide) rfl ?_
  refine a_iload_n 0 6 rfl dX11_read_5 rfl rfl ?_
  refine a_if_ge 16 9 rfl dX11_read_6 (by decide) (fun hc => absurd hc (h0)) (fun _ => ?_)
  refine a_aload_n 1 10 rfl dX11_read_9 rfl rfl ?_
  refine a_callV (as := []) (rest := []) (st2 := [.long (f_st (C.2.2.2.1 5) (C.1 10) 0 0 0)]) (u1 := 0) (v1 := 0) (u2 := 1) (v2 := 3) (r_setsOnTape hn) (⟨_, _, _, _, rfl, rfl⟩) oX11_setsOnTape q_888 q_890 q_52 rfl (by omega) (by decide) rfl (Nat.le_of_ble_eq_true rfl) 13 rfl dX11_read_10 rfl ?_
  refine a_goto 17 dX11_read_13 (by decide) ?_
  refine a_lstore_n (lv' := [(2, .long (f_st (C.2.2.2.1 5) (C.1 10) 0 0 0)), (1, .int (f_fa (C.1 0) (C.2.2.2.1 5) (C.1 10) 0 (-1))), (0, .ref (g_ad G 0))]) 18 rfl dX11_read_17 rfl (by decide) rfl ?_
  refine a_aload_n 2 19 rfl dX11_read_18 rfl rfl ?_
  refine a_get 8 cl_10 f_RX11_61_10 (by decide) (rfl) rfl 22 rfl dX11_read_19 ?_
  refine a_callVN (as := []) (rest := []) (st2 := []) (u1 := 0) (v1 := 0) (u2 := 1) (v2 := 3) (r_X10_clear rfl) (⟨_, _, _, _, rfl, rfl⟩) oX10_clear q_872 q_874 q_49 rfl (by omega) (by decide) rfl (Nat.le_of_ble_eq_true rfl) 25 rfl dX11_read_22 rfl ?_
  refine a_eq (h2 := g_hp G (f_un C 10 0) tl) rfl rfl rfl (rfl) ?_
  refine a_iload_n 1 26 rfl dX11_read_25 rfl rfl ?_
  refine a_if_ge 37 29 rfl dX11_read_26 (by decide) (fun hc => absurd hc (h0)) (fun _ => ?_)
  refine a_aload_n 2 30 rfl dX11_read_29 rfl rfl ?_
  refine a_lload_n 0 31 rfl dX11_read_30 rfl rfl ?_
  refine a_callV (as := [.long (f_st (C.2.2.2.1 5) (C.1 10) 0 0 0)]) (rest := []) (st2 := [.int (f_brA C)]) (u1 := 1) (v1 := 3) (u2 := 0) (v2 := 0) (r_X11_bring (C := f_un C 10 0) hm) (⟨_, _, _, _, rfl, rfl⟩) oX11_bring q_394 q_396 q_4 rfl (by omega) (by decide) rfl (Nat.le_of_ble_eq_true rfl) 34 rfl dX11_read_31 rfl ?_
  refine a_goto 41 dX11_read_34 (by decide) ?_
  exact a_ireturn .int rfl rfl (rfl) (rfl) dX11_read_41
end TA1
