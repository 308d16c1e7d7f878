/-! The model's shift, judge, lots, read, write -/
theorem f_tkI_at {A B : Nat → Int32} {o : Nat} : ∀ m t, t < m → f_tkI A B o m t = B (o + t) := by
  intro m
  induction m with
  | zero => intro t h; exact absurd h (Nat.not_lt_zero t)
  | succ m ih =>
    intro t h
    rw [f_tkI]
    by_cases e : t = m
    · subst e; exact pk_us
    · rw [pk_un e]; exact ih t (by omega)
def f_jdM (mm p : Nat) (L : Nat → Int64) (x : Int64) : Nat → Nat → Int32
  | 0, _ => -2
  | t + 1, s => if mm ≤ s then nI (100 + s) else if L s = (nI (f_pfM x s p)).toInt64 then f_jdM mm p L x t (s + 1) else nI s
theorem f_pfM_le (x : Int64) (z : Nat) : ∀ t, f_pfM x z t ≤ t := by
  intro t
  induction t with
  | zero => exact Nat.le_refl _
  | succ t ih => rw [f_pfM]; have := Bool.toNat_le (f_b x t && decide (f_pop (nI t).toInt64 = z)); omega
def f_drM (p : Int32) : Nat → Int32 → Int32 × Int64
  | 0, z => (z, 0)
  | s + 1, z => ((f_drM p s z).1 * 1103515245 + 12345, (f_drM p s z).2 ||| cond (decide (p ≤ (((f_drM p s z).1 * 1103515245 + 12345) &&& 2147483647) / 65536 - (((f_drM p s z).1 * 1103515245 + 12345) &&& 2147483647) / 65536 / 100 * 100)) 0 (f_sl 1 (nI s)))
def f_ltM (p : Int32) (g : Int64 → Int32) (k : Nat) : Nat → Int32 → Int32 × Int32
  | 0, z => (z, 0)
  | t + 1, z => ((f_drM p k (f_ltM p g k t z).1).1, (f_ltM p g k t z).2 + g (f_drM p k (f_ltM p g k t z).1).2)
def f_rdM (n fed : Nat) (tp : Nat → Nat) : Nat → Nat → Nat → Nat → Nat × Nat
  | 0, set, _, a => (set, a)
  | t + 1, set, l, a => cond (decide (a < fed) && (decide (97 + l ≤ tp a) && decide (tp a ≤ 96 + n))) (f_rdM n fed tp t (set ||| 2 ^ (tp a - 97)) (tp a - 96) (a + 1)) (set, a)
def f_rsS (n fed : Nat) (tp : Nat → Nat) (a : Nat) (rs : Int64) : Bool × Int64 × Nat := cond (decide (a < fed) && decide (tp a = 48)) (true, rs ||| 1, a + 1) (!decide ((f_rdM n fed tp (fed - a) 0 0 a).1 = 0), rs ||| cond (decide ((f_rdM n fed tp (fed - a) 0 0 a).1 = 0)) 0 (f_sl 1 (nI (f_rdM n fed tp (fed - a) 0 0 a).1)), (f_rdM n fed tp (fed - a) 0 0 a).2)
def f_rdA (n fed : Nat) (tp : Nat → Nat) : Nat → Bool × Int64 × Nat → Bool × Int64 × Nat
  | 0, st => st
  | t + 1, st => cond (st.1 && (decide (st.2.2 < fed) && decide (tp st.2.2 = 44))) (f_rdA n fed tp t (f_rsS n fed tp (st.2.2 + 1) st.2.1)) st
theorem f_rdM_a (n fed : Nat) (tp : Nat → Nat) : ∀ t set l a, a ≤ fed → a ≤ (f_rdM n fed tp t set l a).2 ∧ (f_rdM n fed tp t set l a).2 ≤ fed := by
  intro t
  induction t with
  | zero => intro set l a h; exact ⟨Nat.le_refl _, h⟩
  | succ t ih =>
    intro set l a h
    rw [f_rdM]
    cases e : (decide (a < fed) && (decide (97 + l ≤ tp a) && decide (tp a ≤ 96 + n)))
    · exact ⟨Nat.le_refl _, h⟩
    · rw [cond_true]
      rw [Bool.and_eq_true] at e
      have h1 := of_decide_eq_true e.1
      have := ih (set ||| 2 ^ (tp a - 97)) (tp a - 96) (a + 1) (by omega)
      omega
theorem f_rsS_a {n fed : Nat} {tp : Nat → Nat} {a : Nat} {rs : Int64} (h : a ≤ fed) : a ≤ (f_rsS n fed tp a rs).2.2 ∧ (f_rsS n fed tp a rs).2.2 ≤ fed := by
  unfold f_rsS
  cases e : (decide (a < fed) && decide (tp a = 48))
  · exact f_rdM_a n fed tp _ _ _ _ h
  · rw [Bool.and_eq_true] at e
    have h1 := of_decide_eq_true e.1
    show a ≤ a + 1 ∧ a + 1 ≤ fed
    omega
theorem f_l97 (l : Nat) : (97 : Int32) + (nI l - 1) + 1 = nI (97 + l) := by rw [Int32.add_assoc, Int32.sub_add_cancel]; exact nI_add 97 l
theorem f_l96 {c : Nat} (h : 97 ≤ c) : nI (c - 97) = nI (c - 96) - 1 := by rw [show c - 96 = c - 97 + 1 by omega, nI_pred]
theorem f_2x {c n : Nat} (h : 97 ≤ c) (h2 : c ≤ 96 + n) (hn : n ≤ 6) : 2 ^ (c - 97) < 64 := Nat.pow_lt_pow_right (n := 6) (by decide) (by omega)
def f_lt2 (s : Nat) : Nat → List Nat
  | 0 => []
  | e + 1 => cond (Nat.testBit s e) (f_lt2 s e ++ [97 + e]) (f_lt2 s e)
def f_ws2 (n s : Nat) (l : List Nat) : List Nat := ((cond (decide (l.length ≤ 0)) l (l ++ [44])) ++ cond (decide (s = 0)) [48] []) ++ f_lt2 s n
def f_wr2 (n : Nat) (x : Int64) : Nat → List Nat
  | 0 => []
  | s + 1 => cond (f_b x s) (f_ws2 n s (f_wr2 n x s)) (f_wr2 n x s)
def f_wb2 (n : Nat) : Nat → Nat
  | 0 => 0
  | s + 1 => f_wb2 n s + (2 + (f_lt2 s n).length)
theorem f_wb2_le : ∀ n, n < 7 → f_wb2 n (2 ^ n) ≤ 320 := by decide +kernel
theorem f_wr2_le (n : Nat) (x : Int64) : ∀ s, (f_wr2 n x s).length ≤ f_wb2 n s := by
  intro s
  induction s with
  | zero => exact Nat.le_refl _
  | succ s ih =>
    rw [f_wr2, f_wb2]
    cases f_b x s
    · rw [cond_false]; omega
    · rw [cond_true, f_ws2, List.length_append, List.length_append]
      have h1 : (cond (decide ((f_wr2 n x s).length ≤ 0)) (f_wr2 n x s) (f_wr2 n x s ++ [44])).length ≤ (f_wr2 n x s).length + 1 := by
        cases decide ((f_wr2 n x s).length ≤ 0)
        · rw [cond_false, List.length_append]; exact Nat.le_refl _
        · rw [cond_true]; omega
      have h2 : (cond (decide (s = 0)) [48] ([] : List Nat)).length ≤ 1 := by cases decide (s = 0) <;> decide
      omega
theorem f_wb2_mono (n : Nat) (s : Nat) : ∀ j, f_wb2 n s ≤ f_wb2 n (s + j) := by
  intro j
  induction j with
  | zero => exact Nat.le_refl _
  | succ j ih => rw [← Nat.add_assoc, f_wb2]; omega
def f_wM (M : f_M) (l : List Nat) : f_M := f_mn (f_mI M 8 (f_lay (M.2.2.2.1 8) 0 l)) 10 l.length
section MT1
variable {G : g_G} {C : f_C} {M M2 : f_M} {ob h h2 : List va_E} {x : Int64} {y y2 y3 y4 y5 r9 fg : Int32} {i j m k w s o so q : Nat} {R : Nat → Int32} {T : f_T} {tp : Nat → Nat}
theorem r_sfM_b0 (hy : ¬ ((0 : Int32) ≤ y ∧ y ≤ 2)) : g_Run G mX12_shift 6 0 0 [.ref (g_ad G 38), .int y, .int y2, .int y3, .int y4, .int y5] (g_hp G C (g_hm G M ++ ob)) (some (.int (-1))) (g_hp G C (g_hm G M ++ ob)) := by
  refine g_Run.of (lv := [(0, .ref (g_ad G 38)), (1, .int y), (2, .int y2), (3, .int y3), (4, .int y4), (5, .int y5)]) (by decide) (Nat.le_of_ble_eq_true rfl) rfl ?_
  refine a_iload_n 1 1 rfl dX12_shift_0 rfl rfl ?_
  refine a_callS (as := [.int y]) (rest := []) (st2 := [.int (f_i (decide ((0:Int32) ≤ y ∧ y ≤ 2)))]) (u1 := 0) (v1 := 0) (u2 := 0) (v2 := 0) (r_isShM) oX12_isShelf q_1580 q_1581 rfl (by omega) (by decide) rfl (Nat.le_of_ble_eq_true rfl) 4 rfl dX12_shift_1 rfl ?_
  refine a_if_eq 14 7 rfl dX12_shift_4 (by decide) (fun _ => ?_) (fun hc => absurd (f_i_F (decide_eq_false hy)) hc)
  refine a_iconst (x := (-1)) 15 rfl dX12_shift_14 (by decide) ?_
  exact a_ireturn .int rfl rfl (rfl) (rfl) dX12_shift_15
theorem r_sfM_b1 (hs : s < 3) (hy : ¬ ((0 : Int32) ≤ y3 ∧ y3 ≤ 2)) : g_Run G mX12_shift 6 0 0 [.ref (g_ad G 38), .int (nI s), .int y2, .int y3, .int y4, .int y5] (g_hp G C (g_hm G M ++ ob)) (some (.int (-1))) (g_hp G C (g_hm G M ++ ob)) := by
  refine g_Run.of (lv := [(0, .ref (g_ad G 38)), (1, .int (nI s)), (2, .int y2), (3, .int y3), (4, .int y4), (5, .int y5)]) (by decide) (Nat.le_of_ble_eq_true rfl) rfl ?_
  refine a_iload_n 1 1 rfl dX12_shift_0 rfl rfl ?_
  refine a_callS (as := [.int (nI s)]) (rest := []) (st2 := [.int (f_i (decide ((0:Int32) ≤ nI s ∧ nI s ≤ 2)))]) (u1 := 0) (v1 := 0) (u2 := 0) (v2 := 0) (r_isShM) oX12_isShelf q_1580 q_1581 rfl (by omega) (by decide) rfl (Nat.le_of_ble_eq_true rfl) 4 rfl dX12_shift_1 rfl ?_
  refine a_if_eq 14 7 rfl dX12_shift_4 (by decide) (fun hc => absurd hc (f_i_T (f_or2 hs))) (fun _ => ?_)
  refine a_iload_n 3 8 rfl dX12_shift_7 rfl rfl ?_
  refine a_callS (as := [.int y3]) (rest := []) (st2 := [.int (f_i (decide ((0:Int32) ≤ y3 ∧ y3 ≤ 2)))]) (u1 := 0) (v1 := 0) (u2 := 0) (v2 := 0) (r_isShM) oX12_isShelf q_1580 q_1581 rfl (by omega) (by decide) rfl (Nat.le_of_ble_eq_true rfl) 11 rfl dX12_shift_8 rfl ?_
  refine a_if_ne 16 14 rfl dX12_shift_11 (by decide) (fun hc => absurd (f_i_F (decide_eq_false hy)) hc) (fun _ => ?_)
  refine a_iconst (x := (-1)) 15 rfl dX12_shift_14 (by decide) ?_
  exact a_ireturn .int rfl rfl (rfl) (rfl) dX12_shift_15
theorem r_sfM_m1 (hs : s < 3) (ho : o < 3) (h0 : M.2.2.2.1 9 s < 0) : g_Run G mX12_shift 6 0 0 [.ref (g_ad G 38), .int (nI s), .int y2, .int (nI o), .int y4, .int y5] (g_hp G C (g_hm G M ++ ob)) (some (.int (-11))) (g_hp G C (g_hm G M ++ ob)) := by
  refine g_Run.of (lv := [(0, .ref (g_ad G 38)), (1, .int (nI s)), (2, .int y2), (3, .int (nI o)), (4, .int y4), (5, .int y5)]) (by decide) (Nat.le_of_ble_eq_true rfl) rfl ?_
  refine a_iload_n 1 1 rfl dX12_shift_0 rfl rfl ?_
  refine a_callS (as := [.int (nI s)]) (rest := []) (st2 := [.int (f_i (decide ((0:Int32) ≤ nI s ∧ nI s ≤ 2)))]) (u1 := 0) (v1 := 0) (u2 := 0) (v2 := 0) (r_isShM) oX12_isShelf q_1580 q_1581 rfl (by omega) (by decide) rfl (Nat.le_of_ble_eq_true rfl) 4 rfl dX12_shift_1 rfl ?_
  refine a_if_eq 14 7 rfl dX12_shift_4 (by decide) (fun hc => absurd hc (f_i_T (f_or2 hs))) (fun _ => ?_)
  refine a_iload_n 3 8 rfl dX12_shift_7 rfl rfl ?_
  refine a_callS (as := [.int (nI o)]) (rest := []) (st2 := [.int (f_i (decide ((0:Int32) ≤ nI o ∧ nI o ≤ 2)))]) (u1 := 0) (v1 := 0) (u2 := 0) (v2 := 0) (r_isShM) oX12_isShelf q_1580 q_1581 rfl (by omega) (by decide) rfl (Nat.le_of_ble_eq_true rfl) 11 rfl dX12_shift_8 rfl ?_
  refine a_if_ne 16 14 rfl dX12_shift_11 (by decide) (fun _ => ?_) (fun hc => absurd hc (f_i_T (f_or2 ho)))
  refine a_aload_n 0 17 rfl dX12_shift_16 rfl rfl ?_
  refine a_get 30 cl_11 f_RX12_59_11 (by decide) (rfl) rfl 20 rfl dX12_shift_17 ?_
  refine a_iload_n 1 21 rfl dX12_shift_20 rfl rfl ?_
  refine a_iald (rfl) (vp_in_nI (n := s) (by omega) (by omega)) 22 rfl dX12_shift_21 ?_
  refine a_eq (st2 := [.int ((M.2.2.2.1 9) s)]) rfl rfl (congrArg (fun z9 => Value.int z9 :: []) (congrArg (M.2.2.2.1 9) (g_cl (by omega)))) rfl ?_
  refine a_if_lt 34 25 rfl dX12_shift_22 (by decide) (fun _ => ?_) (fun hc => absurd (h0) hc)
  refine a_bipush (x := (-11)) 36 rfl dX12_shift_34 (by decide) ?_
  exact a_ireturn .int rfl rfl (rfl) (rfl) dX12_shift_36
theorem r_sfM_m2 (hs : s < 3) (ho : o < 3) (h0 : ¬ M.2.2.2.1 9 s < 0) (h1 : ¬ 0 ≤ M.2.2.2.1 9 o) : g_Run G mX12_shift 6 0 0 [.ref (g_ad G 38), .int (nI s), .int y2, .int (nI o), .int y4, .int y5] (g_hp G C (g_hm G M ++ ob)) (some (.int (-11))) (g_hp G C (g_hm G M ++ ob)) := by
  refine g_Run.of (lv := [(0, .ref (g_ad G 38)), (1, .int (nI s)), (2, .int y2), (3, .int (nI o)), (4, .int y4), (5, .int y5)]) (by decide) (Nat.le_of_ble_eq_true rfl) rfl ?_
  refine a_iload_n 1 1 rfl dX12_shift_0 rfl rfl ?_
  refine a_callS (as := [.int (nI s)]) (rest := []) (st2 := [.int (f_i (decide ((0:Int32) ≤ nI s ∧ nI s ≤ 2)))]) (u1 := 0) (v1 := 0) (u2 := 0) (v2 := 0) (r_isShM) oX12_isShelf q_1580 q_1581 rfl (by omega) (by decide) rfl (Nat.le_of_ble_eq_true rfl) 4 rfl dX12_shift_1 rfl ?_
  refine a_if_eq 14 7 rfl dX12_shift_4 (by decide) (fun hc => absurd hc (f_i_T (f_or2 hs))) (fun _ => ?_)
  refine a_iload_n 3 8 rfl dX12_shift_7 rfl rfl ?_
  refine a_callS (as := [.int (nI o)]) (rest := []) (st2 := [.int (f_i (decide ((0:Int32) ≤ nI o ∧ nI o ≤ 2)))]) (u1 := 0) (v1 := 0) (u2 := 0) (v2 := 0) (r_isShM) oX12_isShelf q_1580 q_1581 rfl (by omega) (by decide) rfl (Nat.le_of_ble_eq_true rfl) 11 rfl dX12_shift_8 rfl ?_
  refine a_if_ne 16 14 rfl dX12_shift_11 (by decide) (fun _ => ?_) (fun hc => absurd hc (f_i_T (f_or2 ho)))
  refine a_aload_n 0 17 rfl dX12_shift_16 rfl rfl ?_
  refine a_get 30 cl_11 f_RX12_59_11 (by decide) (rfl) rfl 20 rfl dX12_shift_17 ?_
  refine a_iload_n 1 21 rfl dX12_shift_20 rfl rfl ?_
  refine a_iald (rfl) (vp_in_nI (n := s) (by omega) (by omega)) 22 rfl dX12_shift_21 ?_
  refine a_eq (st2 := [.int ((M.2.2.2.1 9) s)]) rfl rfl (congrArg (fun z9 => Value.int z9 :: []) (congrArg (M.2.2.2.1 9) (g_cl (by omega)))) rfl ?_
  refine a_if_lt 34 25 rfl dX12_shift_22 (by decide) (fun hc => absurd hc (h0)) (fun _ => ?_)
  refine a_aload_n 0 26 rfl dX12_shift_25 rfl rfl ?_
  refine a_get 30 cl_11 f_RX12_59_11 (by decide) (rfl) rfl 29 rfl dX12_shift_26 ?_
  refine a_iload_n 3 30 rfl dX12_shift_29 rfl rfl ?_
  refine a_iald (rfl) (vp_in_nI (n := o) (by omega) (by omega)) 31 rfl dX12_shift_30 ?_
  refine a_eq (st2 := [.int ((M.2.2.2.1 9) o)]) rfl rfl (congrArg (fun z9 => Value.int z9 :: []) (congrArg (M.2.2.2.1 9) (g_cl (by omega)))) rfl ?_
  refine a_if_ge 37 34 rfl dX12_shift_31 (by decide) (fun hc => absurd hc (h1)) (fun _ => ?_)
  refine a_bipush (x := (-11)) 36 rfl dX12_shift_34 (by decide) ?_
  exact a_ireturn .int rfl rfl (rfl) (rfl) dX12_shift_36
theorem r_sfM_out (hs : s < 3) (ho : o < 3) (h0 : ¬ M.2.2.2.1 9 s < 0) (h1 : 0 ≤ M.2.2.2.1 9 o) (hy : y5 < 0 ∨ y2 < 0 ∨ y4 < 0 ∨ M.2.2.2.1 10 s - y5 < y2 ∨ ¬ y4 ≤ M.2.2.2.1 10 o - y5) : g_Run G mX12_shift 6 0 0 [.ref (g_ad G 38), .int (nI s), .int y2, .int (nI o), .int y4, .int y5] (g_hp G C (g_hm G M ++ ob)) (some (.int (-13))) (g_hp G C (g_hm G M ++ ob)) := by
  refine g_Run.of (lv := [(0, .ref (g_ad G 38)), (1, .int (nI s)), (2, .int y2), (3, .int (nI o)), (4, .int y4), (5, .int y5)]) (by decide) (Nat.le_of_ble_eq_true rfl) rfl ?_
  refine a_iload_n 1 1 rfl dX12_shift_0 rfl rfl ?_
  refine a_callS (as := [.int (nI s)]) (rest := []) (st2 := [.int (f_i (decide ((0:Int32) ≤ nI s ∧ nI s ≤ 2)))]) (u1 := 0) (v1 := 0) (u2 := 0) (v2 := 0) (r_isShM) oX12_isShelf q_1580 q_1581 rfl (by omega) (by decide) rfl (Nat.le_of_ble_eq_true rfl) 4 rfl dX12_shift_1 rfl ?_
  refine a_if_eq 14 7 rfl dX12_shift_4 (by decide) (fun hc => absurd hc (f_i_T (f_or2 hs))) (fun _ => ?_)
  refine a_iload_n 3 8 rfl dX12_shift_7 rfl rfl ?_
  refine a_callS (as := [.int (nI o)]) (rest := []) (st2 := [.int (f_i (decide ((0:Int32) ≤ nI o ∧ nI o ≤ 2)))]) (u1 := 0) (v1 := 0) (u2 := 0) (v2 := 0) (r_isShM) oX12_isShelf q_1580 q_1581 rfl (by omega) (by decide) rfl (Nat.le_of_ble_eq_true rfl) 11 rfl dX12_shift_8 rfl ?_
  refine a_if_ne 16 14 rfl dX12_shift_11 (by decide) (fun _ => ?_) (fun hc => absurd hc (f_i_T (f_or2 ho)))
  refine a_aload_n 0 17 rfl dX12_shift_16 rfl rfl ?_
  refine a_get 30 cl_11 f_RX12_59_11 (by decide) (rfl) rfl 20 rfl dX12_shift_17 ?_
  refine a_iload_n 1 21 rfl dX12_shift_20 rfl rfl ?_
  refine a_iald (rfl) (vp_in_nI (n := s) (by omega) (by omega)) 22 rfl dX12_shift_21 ?_
  refine a_eq (st2 := [.int ((M.2.2.2.1 9) s)]) rfl rfl (congrArg (fun z9 => Value.int z9 :: []) (congrArg (M.2.2.2.1 9) (g_cl (by omega)))) rfl ?_
  refine a_if_lt 34 25 rfl dX12_shift_22 (by decide) (fun hc => absurd hc (h0)) (fun _ => ?_)
  refine a_aload_n 0 26 rfl dX12_shift_25 rfl rfl ?_
  refine a_get 30 cl_11 f_RX12_59_11 (by decide) (rfl) rfl 29 rfl dX12_shift_26 ?_
  refine a_iload_n 3 30 rfl dX12_shift_29 rfl rfl ?_
  refine a_iald (rfl) (vp_in_nI (n := o) (by omega) (by omega)) 31 rfl dX12_shift_30 ?_
  refine a_eq (st2 := [.int ((M.2.2.2.1 9) o)]) rfl rfl (congrArg (fun z9 => Value.int z9 :: []) (congrArg (M.2.2.2.1 9) (g_cl (by omega)))) rfl ?_
  refine a_if_ge 37 34 rfl dX12_shift_31 (by decide) (fun _ => ?_) (fun hc => absurd (h1) hc)
  refine a_iload 5 39 rfl dX12_shift_37 rfl ?_
  refine a_if_lt 78 42 rfl dX12_shift_39 (by decide) (fun c39 => ?_) (fun c39 => ?_)
  refine a_bipush (x := (-13)) 80 rfl dX12_shift_78 (by decide) ?_
  exact a_ireturn .int rfl rfl (rfl) (rfl) dX12_shift_80
  refine a_iload_n 2 43 rfl dX12_shift_42 rfl rfl ?_
  refine a_if_lt 78 46 rfl dX12_shift_43 (by decide) (fun c43 => ?_) (fun c43 => ?_)
  refine a_bipush (x := (-13)) 80 rfl dX12_shift_78 (by decide) ?_
  exact a_ireturn .int rfl rfl (rfl) (rfl) dX12_shift_80
  refine a_iload 4 48 rfl dX12_shift_46 rfl ?_
  refine a_if_lt 78 51 rfl dX12_shift_48 (by decide) (fun c48 => ?_) (fun c48 => ?_)
  refine a_bipush (x := (-13)) 80 rfl dX12_shift_78 (by decide) ?_
  exact a_ireturn .int rfl rfl (rfl) (rfl) dX12_shift_80
  refine a_iload_n 2 52 rfl dX12_shift_51 rfl rfl ?_
  refine a_aload_n 0 53 rfl dX12_shift_52 rfl rfl ?_
  refine a_get 31 cl_11 f_RX12_62_11 (by decide) (rfl) rfl 56 rfl dX12_shift_53 ?_
  refine a_iload_n 1 57 rfl dX12_shift_56 rfl rfl ?_
  refine a_iald (rfl) (vp_in_nI (n := s) (by omega) (by omega)) 58 rfl dX12_shift_57 ?_
  refine a_eq (st2 := [.int ((M.2.2.2.1 10) s), .int y2]) rfl rfl (congrArg (fun z9 => Value.int z9 :: [.int y2]) (congrArg (M.2.2.2.1 10) (g_cl (by omega)))) rfl ?_
  refine a_iload 5 60 rfl dX12_shift_58 rfl ?_
  refine a_isub 61 rfl dX12_shift_60 ?_
  refine a_icmp_gt 78 64 rfl dX12_shift_61 (by decide) (fun c61 => ?_) (fun c61 => ?_)
  refine a_bipush (x := (-13)) 80 rfl dX12_shift_78 (by decide) ?_
  exact a_ireturn .int rfl rfl (rfl) (rfl) dX12_shift_80
  refine a_iload 4 66 rfl dX12_shift_64 rfl ?_
  refine a_aload_n 0 67 rfl dX12_shift_66 rfl rfl ?_
  refine a_get 31 cl_11 f_RX12_62_11 (by decide) (rfl) rfl 70 rfl dX12_shift_67 ?_
  refine a_iload_n 3 71 rfl dX12_shift_70 rfl rfl ?_
  refine a_iald (rfl) (vp_in_nI (n := o) (by omega) (by omega)) 72 rfl dX12_shift_71 ?_
  refine a_eq (st2 := [.int ((M.2.2.2.1 10) o), .int y4]) rfl rfl (congrArg (fun z9 => Value.int z9 :: [.int y4]) (congrArg (M.2.2.2.1 10) (g_cl (by omega)))) rfl ?_
  refine a_iload 5 74 rfl dX12_shift_72 rfl ?_
  refine a_isub 75 rfl dX12_shift_74 ?_
  refine a_icmp_le 81 78 rfl dX12_shift_75 (by decide) (fun hc => absurd hc ((((hy.resolve_left c39).resolve_left c43).resolve_left c48).resolve_left c61)) (fun _ => ?_)
  refine a_bipush (x := (-13)) 80 rfl dX12_shift_78 (by decide) ?_
  exact a_ireturn .int rfl rfl (rfl) (rfl) dX12_shift_80
theorem r_sfM_ok (hs : s < 3) (ho : o < 3) (h0 : ¬ M.2.2.2.1 9 s < 0) (h1 : M.2.2.2.1 9 o = nI so) (hso : so < 3) (hi : i + m ≤ 6) (hj : j + m ≤ 6) (hA : ¬ M.2.2.2.1 10 s - nI m < nI i) (hB : nI j ≤ M.2.2.2.1 10 o - nI m) (hall : ∀ t, t < m → M.2.2.2.1 11 (6 * s + i + t) < 0 ∨ ∃ kk, kk < 6 ∧ M.2.2.2.1 11 (6 * s + i + t) = nI kk ∧ f_may so kk = true) : g_Run G mX12_shift 6 0 0 [.ref (g_ad G 38), .int (nI s), .int (nI i), .int (nI o), .int (nI j), .int (nI m)] (g_hp G C (g_hm G M ++ ob)) (some (.int (nI m))) (g_hp G C (g_hm G (f_mvM3 (f_tkM3 M (6 * s + i) m) (6 * o + j) (m)) ++ ob)) := by
  obtain ⟨N, eN⟩ : ∃ N, N = f_tkM3 M (6 * s + i) m := ⟨_, rfl⟩
  have e13 : ∀ t, t < m → N.2.2.2.1 13 t = M.2.2.2.1 11 (6 * s + i + t) := by intro t ht; rw [eN]; exact f_tkI_at m t ht
  have e9 : N.2.2.2.1 9 o = nI so := by rw [eN]; exact h1
  rw [← eN]
  refine g_Run.of (lv := [(0, .ref (g_ad G 38)), (1, .int (nI s)), (2, .int (nI i)), (3, .int (nI o)), (4, .int (nI j)), (5, .int (nI m))]) (by decide) (Nat.le_of_ble_eq_true rfl) rfl ?_
  refine a_iload_n 1 1 rfl dX12_shift_0 rfl rfl ?_
  refine a_callS (as := [.int (nI s)]) (rest := []) (st2 := [.int (f_i (decide ((0:Int32) ≤ nI s ∧ nI s ≤ 2)))]) (u1 := 0) (v1 := 0) (u2 := 0) (v2 := 0) (r_isShM) oX12_isShelf q_1580 q_1581 rfl (by omega) (by decide) rfl (Nat.le_of_ble_eq_true rfl) 4 rfl dX12_shift_1 rfl ?_
  refine a_if_eq 14 7 rfl dX12_shift_4 (by decide) (fun hc => absurd hc (f_i_T (f_or2 hs))) (fun _ => ?_)
  refine a_iload_n 3 8 rfl dX12_shift_7 rfl rfl ?_
  refine a_callS (as := [.int (nI o)]) (rest := []) (st2 := [.int (f_i (decide ((0:Int32) ≤ nI o ∧ nI o ≤ 2)))]) (u1 := 0) (v1 := 0) (u2 := 0) (v2 := 0) (r_isShM) oX12_isShelf q_1580 q_1581 rfl (by omega) (by decide) rfl (Nat.le_of_ble_eq_true rfl) 11 rfl dX12_shift_8 rfl ?_
  refine a_if_ne 16 14 rfl dX12_shift_11 (by decide) (fun _ => ?_) (fun hc => absurd hc (f_i_T (f_or2 ho)))
  refine a_aload_n 0 17 rfl dX12_shift_16 rfl rfl ?_
  refine a_get 30 cl_11 f_RX12_59_11 (by decide) (rfl) rfl 20 rfl dX12_shift_17 ?_
  refine a_iload_n 1 21 rfl dX12_shift_20 rfl rfl ?_
  refine a_iald (rfl) (vp_in_nI (n := s) (by omega) (by omega)) 22 rfl dX12_shift_21 ?_
  refine a_eq (st2 := [.int ((M.2.2.2.1 9) s)]) rfl rfl (congrArg (fun z9 => Value.int z9 :: []) (congrArg (M.2.2.2.1 9) (g_cl (by omega)))) rfl ?_
  refine a_if_lt 34 25 rfl dX12_shift_22 (by decide) (fun hc => absurd hc (h0)) (fun _ => ?_)
  refine a_aload_n 0 26 rfl dX12_shift_25 rfl rfl ?_
  refine a_get 30 cl_11 f_RX12_59_11 (by decide) (rfl) rfl 29 rfl dX12_shift_26 ?_
  refine a_iload_n 3 30 rfl dX12_shift_29 rfl rfl ?_
  refine a_iald (rfl) (vp_in_nI (n := o) (by omega) (by omega)) 31 rfl dX12_shift_30 ?_
  refine a_eq (st2 := [.int ((M.2.2.2.1 9) o)]) rfl rfl (congrArg (fun z9 => Value.int z9 :: []) (congrArg (M.2.2.2.1 9) (g_cl (by omega)))) rfl ?_
  refine a_if_ge 37 34 rfl dX12_shift_31 (by decide) (fun _ => ?_) (fun hc => absurd ((by rw [h1]; exact nI_pos' (by omega))) hc)
  refine a_iload 5 39 rfl dX12_shift_37 rfl ?_
  refine a_if_lt 78 42 rfl dX12_shift_39 (by decide) (fun hc => absurd hc (nI_pos (by omega))) (fun _ => ?_)
  refine a_iload_n 2 43 rfl dX12_shift_42 rfl rfl ?_
  refine a_if_lt 78 46 rfl dX12_shift_43 (by decide) (fun hc => absurd hc (nI_pos (by omega))) (fun _ => ?_)
  refine a_iload 4 48 rfl dX12_shift_46 rfl ?_
  refine a_if_lt 78 51 rfl dX12_shift_48 (by decide) (fun hc => absurd hc (nI_pos (by omega))) (fun _ => ?_)
  refine a_iload_n 2 52 rfl dX12_shift_51 rfl rfl ?_
  refine a_aload_n 0 53 rfl dX12_shift_52 rfl rfl ?_
  refine a_get 31 cl_11 f_RX12_62_11 (by decide) (rfl) rfl 56 rfl dX12_shift_53 ?_
  refine a_iload_n 1 57 rfl dX12_shift_56 rfl rfl ?_
  refine a_iald (rfl) (vp_in_nI (n := s) (by omega) (by omega)) 58 rfl dX12_shift_57 ?_
  refine a_eq (st2 := [.int ((M.2.2.2.1 10) s), .int (nI i)]) rfl rfl (congrArg (fun z9 => Value.int z9 :: [.int (nI i)]) (congrArg (M.2.2.2.1 10) (g_cl (by omega)))) rfl ?_
  refine a_iload 5 60 rfl dX12_shift_58 rfl ?_
  refine a_isub 61 rfl dX12_shift_60 ?_
  refine a_icmp_gt 78 64 rfl dX12_shift_61 (by decide) (fun hc => absurd hc (hA)) (fun _ => ?_)
  refine a_iload 4 66 rfl dX12_shift_64 rfl ?_
  refine a_aload_n 0 67 rfl dX12_shift_66 rfl rfl ?_
  refine a_get 31 cl_11 f_RX12_62_11 (by decide) (rfl) rfl 70 rfl dX12_shift_67 ?_
  refine a_iload_n 3 71 rfl dX12_shift_70 rfl rfl ?_
  refine a_iald (rfl) (vp_in_nI (n := o) (by omega) (by omega)) 72 rfl dX12_shift_71 ?_
  refine a_eq (st2 := [.int ((M.2.2.2.1 10) o), .int (nI j)]) rfl rfl (congrArg (fun z9 => Value.int z9 :: [.int (nI j)]) (congrArg (M.2.2.2.1 10) (g_cl (by omega)))) rfl ?_
  refine a_iload 5 74 rfl dX12_shift_72 rfl ?_
  refine a_isub 75 rfl dX12_shift_74 ?_
  refine a_icmp_le 81 78 rfl dX12_shift_75 (by decide) (fun _ => ?_) (fun hc => absurd (hB) hc)
  refine a_aload_n 0 82 rfl dX12_shift_81 rfl rfl ?_
  refine a_iload_n 1 83 rfl dX12_shift_82 rfl rfl ?_
  refine a_iload_n 2 84 rfl dX12_shift_83 rfl rfl ?_
  refine a_iload 5 86 rfl dX12_shift_84 rfl ?_
  refine a_callV (as := [.int (nI s), .int (nI i), .int (nI m)]) (rest := []) (st2 := []) (u1 := 0) (v1 := 0) (u2 := 0) (v2 := 0) (r_tkM3 hs hi) (⟨_, _, _, _, rfl, rfl⟩) oX12_takes q_1598 q_1600 q_115 rfl (by omega) (by decide) rfl (Nat.le_of_ble_eq_true rfl) 89 rfl dX12_shift_86 rfl ?_
  refine a_eq (h2 := g_hp G C (g_hm G N ++ ob)) rfl rfl rfl (by rw [eN]) ?_
  refine a_iconst (x := 0) 90 rfl dX12_shift_89 (by decide) ?_
  refine a_istore (lv' := [(6, .int 0), (0, .ref (g_ad G 38)), (1, .int (nI s)), (2, .int (nI i)), (3, .int (nI o)), (4, .int (nI j)), (5, .int (nI m))]) 92 rfl dX12_shift_90 (by decide) rfl ?_
  refine a_eq (h2 := g_hp G C (g_hm G (f_mL (f_mI (f_mI N 11 (f_mvI (N.2.2.2.1 11) (N.2.2.2.1 13) (6 * o + j) 0)) 12 (f_mvI (N.2.2.2.1 12) (N.2.2.2.1 14) (6 * o + j) 0)) 3 (f_mvL (N.2.2.2.2 3) (N.2.2.2.2 4) (6 * o + j) 0)) ++ ob)) rfl rfl rfl (rfl) ?_
  refine a_sub (lv' := [(6, .int (nI 0)), (0, .ref (g_ad G 38)), (3, .int (nI o)), (4, .int (nI j)), (5, .int (nI m))]) [0, 1, 4, 5, 6] rfl ?_
  refine g_for (P := fun t9 => True) m (fun t9 => [(6, .int (nI t9)), (0, .ref (g_ad G 38)), (3, .int (nI o)), (4, .int (nI j)), (5, .int (nI m))]) (fun t9 => g_hp G C (g_hm G (f_mL (f_mI (f_mI N 11 (f_mvI (N.2.2.2.1 11) (N.2.2.2.1 13) (6 * o + j) t9)) 12 (f_mvI (N.2.2.2.1 12) (N.2.2.2.1 14) (6 * o + j) t9)) 3 (f_mvL (N.2.2.2.2 3) (N.2.2.2.2 4) (6 * o + j) t9)) ++ ob)) (trivial) (fun t9 h_t9 p_t9 k_t9 => ?_) (fun p_t9 => ?_)
  · have wm := r_mvM (G := G) (C := C) (ob := ob) (M := f_mL (f_mI (f_mI N 11 (f_mvI (N.2.2.2.1 11) (N.2.2.2.1 13) (6 * o + j) t9)) 12 (f_mvI (N.2.2.2.1 12) (N.2.2.2.1 14) (6 * o + j) t9)) 3 (f_mvL (N.2.2.2.2 3) (N.2.2.2.2 4) (6 * o + j) t9)) (i := t9) (j := 6 * o + j + t9) (by omega) (by omega)
    refine a_iload 0 94 rfl dX12_shift_92 rfl ?_
    refine a_iload 4 96 rfl dX12_shift_94 rfl ?_
    refine a_icmp_ge 153 99 rfl dX12_shift_96 (by decide) (fun hc => absurd hc (nI_ge (a := t9) (b := m) (by omega) (by omega))) (fun _ => ?_)
    refine a_aload_n 1 100 rfl dX12_shift_99 rfl rfl ?_
    refine a_get 34 cl_11 f_RX12_71_11 (by decide) (rfl) rfl 103 rfl dX12_shift_100 ?_
    refine a_iload 0 105 rfl dX12_shift_103 rfl ?_
    refine a_iald (rfl) (vp_in_nI (n := t9) (by omega) (by omega)) 106 rfl dX12_shift_105 ?_
    refine a_eq (st2 := [.int ((N.2.2.2.1 13) t9)]) rfl rfl (congrArg (fun z9 => Value.int z9 :: []) (congrArg (N.2.2.2.1 13) (g_cl (by omega)))) rfl ?_
    rcases hall t9 h_t9 with e1 | ⟨kk, e1, e2, e3⟩
    · skip
      refine a_if_lt 131 109 rfl dX12_shift_106 (by decide) (fun _ => ?_) (fun hc => absurd ((by rw [e13 t9 (by omega)]; exact e1)) hc)
      refine a_aload_n 1 132 rfl dX12_shift_131 rfl rfl ?_
      refine a_iload 0 134 rfl dX12_shift_132 rfl ?_
      refine a_bipush (x := 6) 136 rfl dX12_shift_134 (by decide) ?_
      refine a_iload_n 2 137 rfl dX12_shift_136 rfl rfl ?_
      refine a_imul 138 rfl dX12_shift_137 ?_
      refine a_eq (st2 := [.int (nI (6 * o)), .int (nI t9), .ref (g_ad G 38)]) rfl rfl (congrArg (fun z9 => Value.int z9 :: [.int (nI t9), .ref (g_ad G 38)]) (pk_mul 6 o)) rfl ?_
      refine a_iload 3 140 rfl dX12_shift_138 rfl ?_
      refine a_iadd 141 rfl dX12_shift_140 ?_
      refine a_eq (st2 := [.int (nI ((6 * o) + j)), .int (nI t9), .ref (g_ad G 38)]) rfl rfl (congrArg (fun z9 => Value.int z9 :: [.int (nI t9), .ref (g_ad G 38)]) (nI_add (6 * o) j)) rfl ?_
      refine a_iload 0 143 rfl dX12_shift_141 rfl ?_
      refine a_iadd 144 rfl dX12_shift_143 ?_
      refine a_eq (st2 := [.int (nI (((6 * o) + j) + t9)), .int (nI t9), .ref (g_ad G 38)]) rfl rfl (congrArg (fun z9 => Value.int z9 :: [.int (nI t9), .ref (g_ad G 38)]) (nI_add ((6 * o) + j) t9)) rfl ?_
      refine a_callV (as := [.int (nI t9), .int (nI (((6 * o) + j) + t9))]) (rest := []) (st2 := []) (u1 := 0) (v1 := 0) (u2 := 0) (v2 := 0) (wm) (⟨_, _, _, _, rfl, rfl⟩) oX12_moves q_1602 q_1604 q_116 rfl (by omega) (by decide) rfl (Nat.le_of_ble_eq_true rfl) 147 rfl dX12_shift_144 rfl ?_
      refine a_eq (h2 := g_hp G C (g_hm G (f_mL (f_mI (f_mI N 11 (f_mvI (N.2.2.2.1 11) (N.2.2.2.1 13) (6 * o + j) (t9 + 1))) 12 (f_mvI (N.2.2.2.1 12) (N.2.2.2.1 14) (6 * o + j) (t9 + 1))) 3 (f_mvL (N.2.2.2.2 3) (N.2.2.2.2 4) (6 * o + j) (t9 + 1))) ++ ob)) rfl rfl rfl rfl ?_
      refine a_iinc (y := nI (t9 + 1)) (lv' := [(6, .int (nI (t9 + 1))), (0, .ref (g_ad G 38)), (3, .int (nI o)), (4, .int (nI j)), (5, .int (nI m))]) 0 150 rfl dX12_shift_147 rfl (nI_1 t9) (by decide) rfl ?_
      refine a_goto 92 dX12_shift_150 (by decide) ?_
      refine a_sub (lv' := [(6, .int (nI (t9 + 1))), (0, .ref (g_ad G 38)), (3, .int (nI o)), (4, .int (nI j)), (5, .int (nI m))]) [0, 1, 2, 3, 4] rfl ?_
      exact k_t9 trivial
    · skip
      refine a_if_lt 131 109 rfl dX12_shift_106 (by decide) (fun hc => absurd hc ((by rw [e13 t9 (by omega), e2]; exact nI_pos (by omega)))) (fun _ => ?_)
      refine a_aload_n 1 110 rfl dX12_shift_109 rfl rfl ?_
      refine a_get 30 cl_11 f_RX12_59_11 (by decide) (rfl) rfl 113 rfl dX12_shift_110 ?_
      refine a_iload_n 2 114 rfl dX12_shift_113 rfl rfl ?_
      refine a_iald (rfl) (vp_in_nI (n := o) (by omega) (by omega)) 115 rfl dX12_shift_114 ?_
      refine a_eq (st2 := [.int ((N.2.2.2.1 9) o)]) rfl rfl (congrArg (fun z9 => Value.int z9 :: []) (congrArg (N.2.2.2.1 9) (g_cl (by omega)))) rfl ?_
      refine a_aload_n 1 116 rfl dX12_shift_115 rfl rfl ?_
      refine a_get 34 cl_11 f_RX12_71_11 (by decide) (rfl) rfl 119 rfl dX12_shift_116 ?_
      refine a_iload 0 121 rfl dX12_shift_119 rfl ?_
      refine a_iald (rfl) (vp_in_nI (n := t9) (by omega) (by omega)) 122 rfl dX12_shift_121 ?_
      refine a_eq (st2 := [.int ((N.2.2.2.1 13) t9), .int ((N.2.2.2.1 9) o)]) rfl rfl (congrArg (fun z9 => Value.int z9 :: [.int ((N.2.2.2.1 9) o)]) (congrArg (N.2.2.2.1 13) (g_cl (by omega)))) rfl ?_
      refine a_callS (as := [.int ((N.2.2.2.1 9) o), .int ((N.2.2.2.1 13) t9)]) (rest := []) (st2 := [.int (f_i (f_may so kk))]) (u1 := 0) (v1 := 0) (u2 := 0) (v2 := 0) (r_mayM (so := so) (k := kk) e9 (by rw [← e2]; exact e13 t9 (by omega)) hso e1) oX12_mayBe q_1587 q_1588 rfl (by omega) (by decide) rfl (Nat.le_of_ble_eq_true rfl) 125 rfl dX12_shift_122 rfl ?_
      refine a_if_ne 131 128 rfl dX12_shift_125 (by decide) (fun _ => ?_) (fun hc => absurd hc (f_i_T e3))
      refine a_aload_n 1 132 rfl dX12_shift_131 rfl rfl ?_
      refine a_iload 0 134 rfl dX12_shift_132 rfl ?_
      refine a_bipush (x := 6) 136 rfl dX12_shift_134 (by decide) ?_
      refine a_iload_n 2 137 rfl dX12_shift_136 rfl rfl ?_
      refine a_imul 138 rfl dX12_shift_137 ?_
      refine a_eq (st2 := [.int (nI (6 * o)), .int (nI t9), .ref (g_ad G 38)]) rfl rfl (congrArg (fun z9 => Value.int z9 :: [.int (nI t9), .ref (g_ad G 38)]) (pk_mul 6 o)) rfl ?_
      refine a_iload 3 140 rfl dX12_shift_138 rfl ?_
      refine a_iadd 141 rfl dX12_shift_140 ?_
      refine a_eq (st2 := [.int (nI ((6 * o) + j)), .int (nI t9), .ref (g_ad G 38)]) rfl rfl (congrArg (fun z9 => Value.int z9 :: [.int (nI t9), .ref (g_ad G 38)]) (nI_add (6 * o) j)) rfl ?_
      refine a_iload 0 143 rfl dX12_shift_141 rfl ?_
      refine a_iadd 144 rfl dX12_shift_143 ?_
      refine a_eq (st2 := [.int (nI (((6 * o) + j) + t9)), .int (nI t9), .ref (g_ad G 38)]) rfl rfl (congrArg (fun z9 => Value.int z9 :: [.int (nI t9), .ref (g_ad G 38)]) (nI_add ((6 * o) + j) t9)) rfl ?_
      refine a_callV (as := [.int (nI t9), .int (nI (((6 * o) + j) + t9))]) (rest := []) (st2 := []) (u1 := 0) (v1 := 0) (u2 := 0) (v2 := 0) (wm) (⟨_, _, _, _, rfl, rfl⟩) oX12_moves q_1602 q_1604 q_116 rfl (by omega) (by decide) rfl (Nat.le_of_ble_eq_true rfl) 147 rfl dX12_shift_144 rfl ?_
      refine a_eq (h2 := g_hp G C (g_hm G (f_mL (f_mI (f_mI N 11 (f_mvI (N.2.2.2.1 11) (N.2.2.2.1 13) (6 * o + j) (t9 + 1))) 12 (f_mvI (N.2.2.2.1 12) (N.2.2.2.1 14) (6 * o + j) (t9 + 1))) 3 (f_mvL (N.2.2.2.2 3) (N.2.2.2.2 4) (6 * o + j) (t9 + 1))) ++ ob)) rfl rfl rfl rfl ?_
      refine a_iinc (y := nI (t9 + 1)) (lv' := [(6, .int (nI (t9 + 1))), (0, .ref (g_ad G 38)), (3, .int (nI o)), (4, .int (nI j)), (5, .int (nI m))]) 0 150 rfl dX12_shift_147 rfl (nI_1 t9) (by decide) rfl ?_
      refine a_goto 92 dX12_shift_150 (by decide) ?_
      refine a_sub (lv' := [(6, .int (nI (t9 + 1))), (0, .ref (g_ad G 38)), (3, .int (nI o)), (4, .int (nI j)), (5, .int (nI m))]) [0, 1, 2, 3, 4] rfl ?_
      exact k_t9 trivial
  · skip
    refine a_iload 0 94 rfl dX12_shift_92 rfl ?_
    refine a_iload 4 96 rfl dX12_shift_94 rfl ?_
    refine a_icmp_ge 153 99 rfl dX12_shift_96 (by decide) (fun _ => ?_) (fun hc => absurd (nI_le (a := m) (b := m) (by omega) (by omega)) hc)
    refine a_iload 4 155 rfl dX12_shift_153 rfl ?_
    exact a_ireturn .int rfl rfl (rfl) (rfl) dX12_shift_155

theorem r_sfM_oth (hs : s < 3) (ho : o < 3) (h0 : ¬ M.2.2.2.1 9 s < 0) (h1 : M.2.2.2.1 9 o = nI so) (hso : so < 3) (hi : i + m ≤ 6) (hj : j + m ≤ 6) (hA : ¬ M.2.2.2.1 10 s - nI m < nI i) (hB : nI j ≤ M.2.2.2.1 10 o - nI m) (hq : q < m) (hall : ∀ t, t < q → M.2.2.2.1 11 (6 * s + i + t) < 0 ∨ ∃ kk, kk < 6 ∧ M.2.2.2.1 11 (6 * s + i + t) = nI kk ∧ f_may so kk = true) (hbad : ∃ kk, kk < 6 ∧ M.2.2.2.1 11 (6 * s + i + q) = nI kk ∧ f_may so kk = false) : g_Run G mX12_shift 6 0 0 [.ref (g_ad G 38), .int (nI s), .int (nI i), .int (nI o), .int (nI j), .int (nI m)] (g_hp G C (g_hm G M ++ ob)) (some (.int ((-12)))) (g_hp G C (g_hm G (f_mvM3 (f_tkM3 M (6 * s + i) m) (6 * o + j) (q)) ++ ob)) := by
  obtain ⟨N, eN⟩ : ∃ N, N = f_tkM3 M (6 * s + i) m := ⟨_, rfl⟩
  have e13 : ∀ t, t < m → N.2.2.2.1 13 t = M.2.2.2.1 11 (6 * s + i + t) := by intro t ht; rw [eN]; exact f_tkI_at m t ht
  have e9 : N.2.2.2.1 9 o = nI so := by rw [eN]; exact h1
  rw [← eN]
  refine g_Run.of (lv := [(0, .ref (g_ad G 38)), (1, .int (nI s)), (2, .int (nI i)), (3, .int (nI o)), (4, .int (nI j)), (5, .int (nI m))]) (by decide) (Nat.le_of_ble_eq_true rfl) rfl ?_
  refine a_iload_n 1 1 rfl dX12_shift_0 rfl rfl ?_
  refine a_callS (as := [.int (nI s)]) (rest := []) (st2 := [.int (f_i (decide ((0:Int32) ≤ nI s ∧ nI s ≤ 2)))]) (u1 := 0) (v1 := 0) (u2 := 0) (v2 := 0) (r_isShM) oX12_isShelf q_1580 q_1581 rfl (by omega) (by decide) rfl (Nat.le_of_ble_eq_true rfl) 4 rfl dX12_shift_1 rfl ?_
  refine a_if_eq 14 7 rfl dX12_shift_4 (by decide) (fun hc => absurd hc (f_i_T (f_or2 hs))) (fun _ => ?_)
  refine a_iload_n 3 8 rfl dX12_shift_7 rfl rfl ?_
  refine a_callS (as := [.int (nI o)]) (rest := []) (st2 := [.int (f_i (decide ((0:Int32) ≤ nI o ∧ nI o ≤ 2)))]) (u1 := 0) (v1 := 0) (u2 := 0) (v2 := 0) (r_isShM) oX12_isShelf q_1580 q_1581 rfl (by omega) (by decide) rfl (Nat.le_of_ble_eq_true rfl) 11 rfl dX12_shift_8 rfl ?_
  refine a_if_ne 16 14 rfl dX12_shift_11 (by decide) (fun _ => ?_) (fun hc => absurd hc (f_i_T (f_or2 ho)))
  refine a_aload_n 0 17 rfl dX12_shift_16 rfl rfl ?_
  refine a_get 30 cl_11 f_RX12_59_11 (by decide) (rfl) rfl 20 rfl dX12_shift_17 ?_
  refine a_iload_n 1 21 rfl dX12_shift_20 rfl rfl ?_
  refine a_iald (rfl) (vp_in_nI (n := s) (by omega) (by omega)) 22 rfl dX12_shift_21 ?_
  refine a_eq (st2 := [.int ((M.2.2.2.1 9) s)]) rfl rfl (congrArg (fun z9 => Value.int z9 :: []) (congrArg (M.2.2.2.1 9) (g_cl (by omega)))) rfl ?_
  refine a_if_lt 34 25 rfl dX12_shift_22 (by decide) (fun hc => absurd hc (h0)) (fun _ => ?_)
  refine a_aload_n 0 26 rfl dX12_shift_25 rfl rfl ?_
  refine a_get 30 cl_11 f_RX12_59_11 (by decide) (rfl) rfl 29 rfl dX12_shift_26 ?_
  refine a_iload_n 3 30 rfl dX12_shift_29 rfl rfl ?_
  refine a_iald (rfl) (vp_in_nI (n := o) (by omega) (by omega)) 31 rfl dX12_shift_30 ?_
  refine a_eq (st2 := [.int ((M.2.2.2.1 9) o)]) rfl rfl (congrArg (fun z9 => Value.int z9 :: []) (congrArg (M.2.2.2.1 9) (g_cl (by omega)))) rfl ?_
  refine a_if_ge 37 34 rfl dX12_shift_31 (by decide) (fun _ => ?_) (fun hc => absurd ((by rw [h1]; exact nI_pos' (by omega))) hc)
  refine a_iload 5 39 rfl dX12_shift_37 rfl ?_
  refine a_if_lt 78 42 rfl dX12_shift_39 (by decide) (fun hc => absurd hc (nI_pos (by omega))) (fun _ => ?_)
  refine a_iload_n 2 43 rfl dX12_shift_42 rfl rfl ?_
  refine a_if_lt 78 46 rfl dX12_shift_43 (by decide) (fun hc => absurd hc (nI_pos (by omega))) (fun _ => ?_)
  refine a_iload 4 48 rfl dX12_shift_46 rfl ?_
  refine a_if_lt 78 51 rfl dX12_shift_48 (by decide) (fun hc => absurd hc (nI_pos (by omega))) (fun _ => ?_)
  refine a_iload_n 2 52 rfl dX12_shift_51 rfl rfl ?_
  refine a_aload_n 0 53 rfl dX12_shift_52 rfl rfl ?_
  refine a_get 31 cl_11 f_RX12_62_11 (by decide) (rfl) rfl 56 rfl dX12_shift_53 ?_
  refine a_iload_n 1 57 rfl dX12_shift_56 rfl rfl ?_
  refine a_iald (rfl) (vp_in_nI (n := s) (by omega) (by omega)) 58 rfl dX12_shift_57 ?_
  refine a_eq (st2 := [.int ((M.2.2.2.1 10) s), .int (nI i)]) rfl rfl (congrArg (fun z9 => Value.int z9 :: [.int (nI i)]) (congrArg (M.2.2.2.1 10) (g_cl (by omega)))) rfl ?_
  refine a_iload 5 60 rfl dX12_shift_58 rfl ?_
  refine a_isub 61 rfl dX12_shift_60 ?_
  refine a_icmp_gt 78 64 rfl dX12_shift_61 (by decide) (fun hc => absurd hc (hA)) (fun _ => ?_)
  refine a_iload 4 66 rfl dX12_shift_64 rfl ?_
  refine a_aload_n 0 67 rfl dX12_shift_66 rfl rfl ?_
  refine a_get 31 cl_11 f_RX12_62_11 (by decide) (rfl) rfl 70 rfl dX12_shift_67 ?_
  refine a_iload_n 3 71 rfl dX12_shift_70 rfl rfl ?_
  refine a_iald (rfl) (vp_in_nI (n := o) (by omega) (by omega)) 72 rfl dX12_shift_71 ?_
  refine a_eq (st2 := [.int ((M.2.2.2.1 10) o), .int (nI j)]) rfl rfl (congrArg (fun z9 => Value.int z9 :: [.int (nI j)]) (congrArg (M.2.2.2.1 10) (g_cl (by omega)))) rfl ?_
  refine a_iload 5 74 rfl dX12_shift_72 rfl ?_
  refine a_isub 75 rfl dX12_shift_74 ?_
  refine a_icmp_le 81 78 rfl dX12_shift_75 (by decide) (fun _ => ?_) (fun hc => absurd (hB) hc)
  refine a_aload_n 0 82 rfl dX12_shift_81 rfl rfl ?_
  refine a_iload_n 1 83 rfl dX12_shift_82 rfl rfl ?_
  refine a_iload_n 2 84 rfl dX12_shift_83 rfl rfl ?_
  refine a_iload 5 86 rfl dX12_shift_84 rfl ?_
  refine a_callV (as := [.int (nI s), .int (nI i), .int (nI m)]) (rest := []) (st2 := []) (u1 := 0) (v1 := 0) (u2 := 0) (v2 := 0) (r_tkM3 hs hi) (⟨_, _, _, _, rfl, rfl⟩) oX12_takes q_1598 q_1600 q_115 rfl (by omega) (by decide) rfl (Nat.le_of_ble_eq_true rfl) 89 rfl dX12_shift_86 rfl ?_
  refine a_eq (h2 := g_hp G C (g_hm G N ++ ob)) rfl rfl rfl (by rw [eN]) ?_
  refine a_iconst (x := 0) 90 rfl dX12_shift_89 (by decide) ?_
  refine a_istore (lv' := [(6, .int 0), (0, .ref (g_ad G 38)), (1, .int (nI s)), (2, .int (nI i)), (3, .int (nI o)), (4, .int (nI j)), (5, .int (nI m))]) 92 rfl dX12_shift_90 (by decide) rfl ?_
  refine a_eq (h2 := g_hp G C (g_hm G (f_mL (f_mI (f_mI N 11 (f_mvI (N.2.2.2.1 11) (N.2.2.2.1 13) (6 * o + j) 0)) 12 (f_mvI (N.2.2.2.1 12) (N.2.2.2.1 14) (6 * o + j) 0)) 3 (f_mvL (N.2.2.2.2 3) (N.2.2.2.2 4) (6 * o + j) 0)) ++ ob)) rfl rfl rfl (rfl) ?_
  refine a_sub (lv' := [(6, .int (nI 0)), (0, .ref (g_ad G 38)), (3, .int (nI o)), (4, .int (nI j)), (5, .int (nI m))]) [0, 1, 4, 5, 6] rfl ?_
  refine g_for (P := fun t9 => True) q (fun t9 => [(6, .int (nI t9)), (0, .ref (g_ad G 38)), (3, .int (nI o)), (4, .int (nI j)), (5, .int (nI m))]) (fun t9 => g_hp G C (g_hm G (f_mL (f_mI (f_mI N 11 (f_mvI (N.2.2.2.1 11) (N.2.2.2.1 13) (6 * o + j) t9)) 12 (f_mvI (N.2.2.2.1 12) (N.2.2.2.1 14) (6 * o + j) t9)) 3 (f_mvL (N.2.2.2.2 3) (N.2.2.2.2 4) (6 * o + j) t9)) ++ ob)) (trivial) (fun t9 h_t9 p_t9 k_t9 => ?_) (fun p_t9 => ?_)
  · have wm := r_mvM (G := G) (C := C) (ob := ob) (M := f_mL (f_mI (f_mI N 11 (f_mvI (N.2.2.2.1 11) (N.2.2.2.1 13) (6 * o + j) t9)) 12 (f_mvI (N.2.2.2.1 12) (N.2.2.2.1 14) (6 * o + j) t9)) 3 (f_mvL (N.2.2.2.2 3) (N.2.2.2.2 4) (6 * o + j) t9)) (i := t9) (j := 6 * o + j + t9) (by omega) (by omega)
    refine a_iload 0 94 rfl dX12_shift_92 rfl ?_
    refine a_iload 4 96 rfl dX12_shift_94 rfl ?_
    refine a_icmp_ge 153 99 rfl dX12_shift_96 (by decide) (fun hc => absurd hc (nI_ge (a := t9) (b := m) (by omega) (by omega))) (fun _ => ?_)
    refine a_aload_n 1 100 rfl dX12_shift_99 rfl rfl ?_
    refine a_get 34 cl_11 f_RX12_71_11 (by decide) (rfl) rfl 103 rfl dX12_shift_100 ?_
    refine a_iload 0 105 rfl dX12_shift_103 rfl ?_
    refine a_iald (rfl) (vp_in_nI (n := t9) (by omega) (by omega)) 106 rfl dX12_shift_105 ?_
    refine a_eq (st2 := [.int ((N.2.2.2.1 13) t9)]) rfl rfl (congrArg (fun z9 => Value.int z9 :: []) (congrArg (N.2.2.2.1 13) (g_cl (by omega)))) rfl ?_
    rcases hall t9 h_t9 with e1 | ⟨kk, e1, e2, e3⟩
    · skip
      refine a_if_lt 131 109 rfl dX12_shift_106 (by decide) (fun _ => ?_) (fun hc => absurd ((by rw [e13 t9 (by omega)]; exact e1)) hc)
      refine a_aload_n 1 132 rfl dX12_shift_131 rfl rfl ?_
      refine a_iload 0 134 rfl dX12_shift_132 rfl ?_
      refine a_bipush (x := 6) 136 rfl dX12_shift_134 (by decide) ?_
      refine a_iload_n 2 137 rfl dX12_shift_136 rfl rfl ?_
      refine a_imul 138 rfl dX12_shift_137 ?_
      refine a_eq (st2 := [.int (nI (6 * o)), .int (nI t9), .ref (g_ad G 38)]) rfl rfl (congrArg (fun z9 => Value.int z9 :: [.int (nI t9), .ref (g_ad G 38)]) (pk_mul 6 o)) rfl ?_
      refine a_iload 3 140 rfl dX12_shift_138 rfl ?_
      refine a_iadd 141 rfl dX12_shift_140 ?_
      refine a_eq (st2 := [.int (nI ((6 * o) + j)), .int (nI t9), .ref (g_ad G 38)]) rfl rfl (congrArg (fun z9 => Value.int z9 :: [.int (nI t9), .ref (g_ad G 38)]) (nI_add (6 * o) j)) rfl ?_
      refine a_iload 0 143 rfl dX12_shift_141 rfl ?_
      refine a_iadd 144 rfl dX12_shift_143 ?_
      refine a_eq (st2 := [.int (nI (((6 * o) + j) + t9)), .int (nI t9), .ref (g_ad G 38)]) rfl rfl (congrArg (fun z9 => Value.int z9 :: [.int (nI t9), .ref (g_ad G 38)]) (nI_add ((6 * o) + j) t9)) rfl ?_
      refine a_callV (as := [.int (nI t9), .int (nI (((6 * o) + j) + t9))]) (rest := []) (st2 := []) (u1 := 0) (v1 := 0) (u2 := 0) (v2 := 0) (wm) (⟨_, _, _, _, rfl, rfl⟩) oX12_moves q_1602 q_1604 q_116 rfl (by omega) (by decide) rfl (Nat.le_of_ble_eq_true rfl) 147 rfl dX12_shift_144 rfl ?_
      refine a_eq (h2 := g_hp G C (g_hm G (f_mL (f_mI (f_mI N 11 (f_mvI (N.2.2.2.1 11) (N.2.2.2.1 13) (6 * o + j) (t9 + 1))) 12 (f_mvI (N.2.2.2.1 12) (N.2.2.2.1 14) (6 * o + j) (t9 + 1))) 3 (f_mvL (N.2.2.2.2 3) (N.2.2.2.2 4) (6 * o + j) (t9 + 1))) ++ ob)) rfl rfl rfl rfl ?_
      refine a_iinc (y := nI (t9 + 1)) (lv' := [(6, .int (nI (t9 + 1))), (0, .ref (g_ad G 38)), (3, .int (nI o)), (4, .int (nI j)), (5, .int (nI m))]) 0 150 rfl dX12_shift_147 rfl (nI_1 t9) (by decide) rfl ?_
      refine a_goto 92 dX12_shift_150 (by decide) ?_
      refine a_sub (lv' := [(6, .int (nI (t9 + 1))), (0, .ref (g_ad G 38)), (3, .int (nI o)), (4, .int (nI j)), (5, .int (nI m))]) [0, 1, 2, 3, 4] rfl ?_
      exact k_t9 trivial
    · skip
      refine a_if_lt 131 109 rfl dX12_shift_106 (by decide) (fun hc => absurd hc ((by rw [e13 t9 (by omega), e2]; exact nI_pos (by omega)))) (fun _ => ?_)
      refine a_aload_n 1 110 rfl dX12_shift_109 rfl rfl ?_
      refine a_get 30 cl_11 f_RX12_59_11 (by decide) (rfl) rfl 113 rfl dX12_shift_110 ?_
      refine a_iload_n 2 114 rfl dX12_shift_113 rfl rfl ?_
      refine a_iald (rfl) (vp_in_nI (n := o) (by omega) (by omega)) 115 rfl dX12_shift_114 ?_
      refine a_eq (st2 := [.int ((N.2.2.2.1 9) o)]) rfl rfl (congrArg (fun z9 => Value.int z9 :: []) (congrArg (N.2.2.2.1 9) (g_cl (by omega)))) rfl ?_
      refine a_aload_n 1 116 rfl dX12_shift_115 rfl rfl ?_
      refine a_get 34 cl_11 f_RX12_71_11 (by decide) (rfl) rfl 119 rfl dX12_shift_116 ?_
      refine a_iload 0 121 rfl dX12_shift_119 rfl ?_
      refine a_iald (rfl) (vp_in_nI (n := t9) (by omega) (by omega)) 122 rfl dX12_shift_121 ?_
      refine a_eq (st2 := [.int ((N.2.2.2.1 13) t9), .int ((N.2.2.2.1 9) o)]) rfl rfl (congrArg (fun z9 => Value.int z9 :: [.int ((N.2.2.2.1 9) o)]) (congrArg (N.2.2.2.1 13) (g_cl (by omega)))) rfl ?_
      refine a_callS (as := [.int ((N.2.2.2.1 9) o), .int ((N.2.2.2.1 13) t9)]) (rest := []) (st2 := [.int (f_i (f_may so kk))]) (u1 := 0) (v1 := 0) (u2 := 0) (v2 := 0) (r_mayM (so := so) (k := kk) e9 (by rw [← e2]; exact e13 t9 (by omega)) hso e1) oX12_mayBe q_1587 q_1588 rfl (by omega) (by decide) rfl (Nat.le_of_ble_eq_true rfl) 125 rfl dX12_shift_122 rfl ?_
      refine a_if_ne 131 128 rfl dX12_shift_125 (by decide) (fun _ => ?_) (fun hc => absurd hc (f_i_T e3))
      refine a_aload_n 1 132 rfl dX12_shift_131 rfl rfl ?_
      refine a_iload 0 134 rfl dX12_shift_132 rfl ?_
      refine a_bipush (x := 6) 136 rfl dX12_shift_134 (by decide) ?_
      refine a_iload_n 2 137 rfl dX12_shift_136 rfl rfl ?_
      refine a_imul 138 rfl dX12_shift_137 ?_
      refine a_eq (st2 := [.int (nI (6 * o)), .int (nI t9), .ref (g_ad G 38)]) rfl rfl (congrArg (fun z9 => Value.int z9 :: [.int (nI t9), .ref (g_ad G 38)]) (pk_mul 6 o)) rfl ?_
      refine a_iload 3 140 rfl dX12_shift_138 rfl ?_
      refine a_iadd 141 rfl dX12_shift_140 ?_
      refine a_eq (st2 := [.int (nI ((6 * o) + j)), .int (nI t9), .ref (g_ad G 38)]) rfl rfl (congrArg (fun z9 => Value.int z9 :: [.int (nI t9), .ref (g_ad G 38)]) (nI_add (6 * o) j)) rfl ?_
      refine a_iload 0 143 rfl dX12_shift_141 rfl ?_
      refine a_iadd 144 rfl dX12_shift_143 ?_
      refine a_eq (st2 := [.int (nI (((6 * o) + j) + t9)), .int (nI t9), .ref (g_ad G 38)]) rfl rfl (congrArg (fun z9 => Value.int z9 :: [.int (nI t9), .ref (g_ad G 38)]) (nI_add ((6 * o) + j) t9)) rfl ?_
      refine a_callV (as := [.int (nI t9), .int (nI (((6 * o) + j) + t9))]) (rest := []) (st2 := []) (u1 := 0) (v1 := 0) (u2 := 0) (v2 := 0) (wm) (⟨_, _, _, _, rfl, rfl⟩) oX12_moves q_1602 q_1604 q_116 rfl (by omega) (by decide) rfl (Nat.le_of_ble_eq_true rfl) 147 rfl dX12_shift_144 rfl ?_
      refine a_eq (h2 := g_hp G C (g_hm G (f_mL (f_mI (f_mI N 11 (f_mvI (N.2.2.2.1 11) (N.2.2.2.1 13) (6 * o + j) (t9 + 1))) 12 (f_mvI (N.2.2.2.1 12) (N.2.2.2.1 14) (6 * o + j) (t9 + 1))) 3 (f_mvL (N.2.2.2.2 3) (N.2.2.2.2 4) (6 * o + j) (t9 + 1))) ++ ob)) rfl rfl rfl rfl ?_
      refine a_iinc (y := nI (t9 + 1)) (lv' := [(6, .int (nI (t9 + 1))), (0, .ref (g_ad G 38)), (3, .int (nI o)), (4, .int (nI j)), (5, .int (nI m))]) 0 150 rfl dX12_shift_147 rfl (nI_1 t9) (by decide) rfl ?_
      refine a_goto 92 dX12_shift_150 (by decide) ?_
      refine a_sub (lv' := [(6, .int (nI (t9 + 1))), (0, .ref (g_ad G 38)), (3, .int (nI o)), (4, .int (nI j)), (5, .int (nI m))]) [0, 1, 2, 3, 4] rfl ?_
      exact k_t9 trivial
  · skip
    obtain ⟨kk, b1, b2, b3⟩ := hbad
    refine a_iload 0 94 rfl dX12_shift_92 rfl ?_
    refine a_iload 4 96 rfl dX12_shift_94 rfl ?_
    refine a_icmp_ge 153 99 rfl dX12_shift_96 (by decide) (fun hc => absurd hc (nI_ge (a := q) (b := m) (by omega) (by omega))) (fun _ => ?_)
    refine a_aload_n 1 100 rfl dX12_shift_99 rfl rfl ?_
    refine a_get 34 cl_11 f_RX12_71_11 (by decide) (rfl) rfl 103 rfl dX12_shift_100 ?_
    refine a_iload 0 105 rfl dX12_shift_103 rfl ?_
    refine a_iald (rfl) (vp_in_nI (n := q) (by omega) (by omega)) 106 rfl dX12_shift_105 ?_
    refine a_eq (st2 := [.int ((N.2.2.2.1 13) q)]) rfl rfl (congrArg (fun z9 => Value.int z9 :: []) (congrArg (N.2.2.2.1 13) (g_cl (by omega)))) rfl ?_
    refine a_if_lt 131 109 rfl dX12_shift_106 (by decide) (fun hc => absurd hc ((by rw [e13 q hq, b2]; exact nI_pos (by omega)))) (fun _ => ?_)
    refine a_aload_n 1 110 rfl dX12_shift_109 rfl rfl ?_
    refine a_get 30 cl_11 f_RX12_59_11 (by decide) (rfl) rfl 113 rfl dX12_shift_110 ?_
    refine a_iload_n 2 114 rfl dX12_shift_113 rfl rfl ?_
    refine a_iald (rfl) (vp_in_nI (n := o) (by omega) (by omega)) 115 rfl dX12_shift_114 ?_
    refine a_eq (st2 := [.int ((N.2.2.2.1 9) o)]) rfl rfl (congrArg (fun z9 => Value.int z9 :: []) (congrArg (N.2.2.2.1 9) (g_cl (by omega)))) rfl ?_
    refine a_aload_n 1 116 rfl dX12_shift_115 rfl rfl ?_
    refine a_get 34 cl_11 f_RX12_71_11 (by decide) (rfl) rfl 119 rfl dX12_shift_116 ?_
    refine a_iload 0 121 rfl dX12_shift_119 rfl ?_
    refine a_iald (rfl) (vp_in_nI (n := q) (by omega) (by omega)) 122 rfl dX12_shift_121 ?_
    refine a_eq (st2 := [.int ((N.2.2.2.1 13) q), .int ((N.2.2.2.1 9) o)]) rfl rfl (congrArg (fun z9 => Value.int z9 :: [.int ((N.2.2.2.1 9) o)]) (congrArg (N.2.2.2.1 13) (g_cl (by omega)))) rfl ?_
    refine a_callS (as := [.int ((N.2.2.2.1 9) o), .int ((N.2.2.2.1 13) q)]) (rest := []) (st2 := [.int (f_i (f_may so kk))]) (u1 := 0) (v1 := 0) (u2 := 0) (v2 := 0) (r_mayM (so := so) (k := kk) e9 (by rw [← b2]; exact e13 q hq) hso b1) oX12_mayBe q_1587 q_1588 rfl (by omega) (by decide) rfl (Nat.le_of_ble_eq_true rfl) 125 rfl dX12_shift_122 rfl ?_
    refine a_if_ne 131 128 rfl dX12_shift_125 (by decide) (fun hc => absurd (f_i_F b3) hc) (fun _ => ?_)
    refine a_bipush (x := (-12)) 130 rfl dX12_shift_128 (by decide) ?_
    exact a_ireturn .int rfl rfl (rfl) (rfl) dX12_shift_130

theorem r_jdM_b0 (hy : ¬ ((0 : Int32) ≤ y ∧ y ≤ 2)) : g_Run G mX12_judge 6 0 0 [.ref (g_ad G 38), .int y, .int y2] (g_hp G C (g_hm G M ++ ob)) (some (.int (-1))) (g_hp G C (g_hm G M ++ ob)) := by
  refine g_Run.of (lv := [(0, .ref (g_ad G 38)), (1, .int y), (2, .int y2)]) (by decide) (Nat.le_of_ble_eq_true rfl) rfl ?_
  refine a_iload_n 1 1 rfl dX12_judge_0 rfl rfl ?_
  refine a_callS (as := [.int y]) (rest := []) (st2 := [.int (f_i (decide ((0:Int32) ≤ y ∧ y ≤ 2)))]) (u1 := 0) (v1 := 0) (u2 := 0) (v2 := 0) (r_isLiM) oX12_isList q_1530 q_1531 rfl (by omega) (by decide) rfl (Nat.le_of_ble_eq_true rfl) 4 rfl dX12_judge_1 rfl ?_
  refine a_if_eq 15 7 rfl dX12_judge_4 (by decide) (fun _ => ?_) (fun hc => absurd (f_i_F (decide_eq_false hy)) hc)
  refine a_iconst (x := (-1)) 16 rfl dX12_judge_15 (by decide) ?_
  exact a_ireturn .int rfl rfl (rfl) (rfl) dX12_judge_16
theorem r_jdM_b1 (hs : s < 3) (hm : M.1 1 ≤ 8) (hi : ¬ vp_in y2 (M.1 1)) : g_Run G mX12_judge 6 0 0 [.ref (g_ad G 38), .int (nI s), .int y2] (g_hp G C (g_hm G M ++ ob)) (some (.int (-1))) (g_hp G C (g_hm G M ++ ob)) := by
  refine g_Run.of (lv := [(0, .ref (g_ad G 38)), (1, .int (nI s)), (2, .int y2)]) (by decide) (Nat.le_of_ble_eq_true rfl) rfl ?_
  refine a_iload_n 1 1 rfl dX12_judge_0 rfl rfl ?_
  refine a_callS (as := [.int (nI s)]) (rest := []) (st2 := [.int (f_i (decide ((0:Int32) ≤ nI s ∧ nI s ≤ 2)))]) (u1 := 0) (v1 := 0) (u2 := 0) (v2 := 0) (r_isLiM) oX12_isList q_1530 q_1531 rfl (by omega) (by decide) rfl (Nat.le_of_ble_eq_true rfl) 4 rfl dX12_judge_1 rfl ?_
  refine a_if_eq 15 7 rfl dX12_judge_4 (by decide) (fun hc => absurd hc (f_i_T (f_or2 hs))) (fun _ => ?_)
  refine a_aload_n 0 8 rfl dX12_judge_7 rfl rfl ?_
  refine a_iload_n 2 9 rfl dX12_judge_8 rfl rfl ?_
  refine a_callV (as := [.int y2]) (rest := []) (st2 := [.int 0]) (u1 := 0) (v1 := 0) (u2 := 0) (v2 := 0) (r_isFam_out hm hi) (⟨_, _, _, _, rfl, rfl⟩) oX12_isFamily q_1273 q_1275 q_87 rfl (by omega) (by decide) rfl (Nat.le_of_ble_eq_true rfl) 12 rfl dX12_judge_9 rfl ?_
  refine a_if_ne 17 15 rfl dX12_judge_12 (by decide) (fun hc => absurd (rfl) hc) (fun _ => ?_)
  refine a_iconst (x := (-1)) 16 rfl dX12_judge_15 (by decide) ?_
  exact a_ireturn .int rfl rfl (rfl) (rfl) dX12_judge_16
theorem r_jdM_miss (hs : s < 3) (hm : M.1 1 ≤ 8) (hj : j < M.1 1) (h0 : M.2.2.2.1 15 s = -1) : g_Run G mX12_judge 6 0 0 [.ref (g_ad G 38), .int (nI s), .int (nI j)] (g_hp G C (g_hm G M ++ ob)) (some (.int (-11))) (g_hp G C (g_hm G M ++ ob)) := by
  refine g_Run.of (lv := [(0, .ref (g_ad G 38)), (1, .int (nI s)), (2, .int (nI j))]) (by decide) (Nat.le_of_ble_eq_true rfl) rfl ?_
  refine a_iload_n 1 1 rfl dX12_judge_0 rfl rfl ?_
  refine a_callS (as := [.int (nI s)]) (rest := []) (st2 := [.int (f_i (decide ((0:Int32) ≤ nI s ∧ nI s ≤ 2)))]) (u1 := 0) (v1 := 0) (u2 := 0) (v2 := 0) (r_isLiM) oX12_isList q_1530 q_1531 rfl (by omega) (by decide) rfl (Nat.le_of_ble_eq_true rfl) 4 rfl dX12_judge_1 rfl ?_
  refine a_if_eq 15 7 rfl dX12_judge_4 (by decide) (fun hc => absurd hc (f_i_T (f_or2 hs))) (fun _ => ?_)
  refine a_aload_n 0 8 rfl dX12_judge_7 rfl rfl ?_
  refine a_iload_n 2 9 rfl dX12_judge_8 rfl rfl ?_
  refine a_callV (as := [.int (nI j)]) (rest := []) (st2 := [.int 1]) (u1 := 0) (v1 := 0) (u2 := 0) (v2 := 0) (r_isFam_in hm hj) (⟨_, _, _, _, rfl, rfl⟩) oX12_isFamily q_1273 q_1275 q_87 rfl (by omega) (by decide) rfl (Nat.le_of_ble_eq_true rfl) 12 rfl dX12_judge_9 rfl ?_
  refine a_if_ne 17 15 rfl dX12_judge_12 (by decide) (fun _ => ?_) (fun hc => absurd hc ((by decide)))
  refine a_aload_n 0 18 rfl dX12_judge_17 rfl rfl ?_
  refine a_get 38 cl_11 f_RX12_83_11 (by decide) (rfl) rfl 21 rfl dX12_judge_18 ?_
  refine a_iload_n 1 22 rfl dX12_judge_21 rfl rfl ?_
  refine a_iald (rfl) (vp_in_nI (n := s) (by omega) (by omega)) 23 rfl dX12_judge_22 ?_
  refine a_eq (st2 := [.int ((M.2.2.2.1 15) s)]) rfl rfl (congrArg (fun z9 => Value.int z9 :: []) (congrArg (M.2.2.2.1 15) (g_cl (by omega)))) rfl ?_
  refine a_iconst (x := (-1)) 24 rfl dX12_judge_23 (by decide) ?_
  refine a_icmp_ne 30 27 rfl dX12_judge_24 (by decide) (fun hc => absurd (h0) hc) (fun _ => ?_)
  refine a_bipush (x := (-11)) 29 rfl dX12_judge_27 (by decide) ?_
  exact a_ireturn .int rfl rfl (rfl) (rfl) dX12_judge_29
theorem r_jdM {mm : Nat} (hs : s < 3) (hn : M.1 0 ≤ 6) (hf : f_mis M j T) (h0 : ¬ M.2.2.2.1 15 s = -1) (hmm : M.2.2.2.1 16 s = nI mm) (hm20 : mm ≤ 20) : g_Run G mX12_judge 6 0 0 [.ref (g_ad G 38), .int (nI s), .int (nI j)] (g_hp G C (g_hm G M ++ ob)) (some (.int (f_jdM mm (2 ^ M.1 0) (fun z => M.2.2.2.2 5 (20 * s + z)) (f_mso M T) (M.1 0 + 1) 0))) (g_hp G C (g_hm G M ++ ob)) := by
  have hp : 2 ^ M.1 0 ≤ 64 := Nat.pow_le_pow_right (by decide) hn
  have ws := r_mso (G := G) (C := C) (ob := ob) hn hf
  obtain ⟨x, ex⟩ : ∃ x, x = f_mso M T := ⟨_, rfl⟩
  rw [← ex] at ws ⊢
  refine g_Run.of (lv := [(0, .ref (g_ad G 38)), (1, .int (nI s)), (2, .int (nI j))]) (by decide) (Nat.le_of_ble_eq_true rfl) rfl ?_
  refine a_iload_n 1 1 rfl dX12_judge_0 rfl rfl ?_
  refine a_callS (as := [.int (nI s)]) (rest := []) (st2 := [.int (f_i (decide ((0:Int32) ≤ nI s ∧ nI s ≤ 2)))]) (u1 := 0) (v1 := 0) (u2 := 0) (v2 := 0) (r_isLiM) oX12_isList q_1530 q_1531 rfl (by omega) (by decide) rfl (Nat.le_of_ble_eq_true rfl) 4 rfl dX12_judge_1 rfl ?_
  refine a_if_eq 15 7 rfl dX12_judge_4 (by decide) (fun hc => absurd hc (f_i_T (f_or2 hs))) (fun _ => ?_)
  refine a_aload_n 0 8 rfl dX12_judge_7 rfl rfl ?_
  refine a_iload_n 2 9 rfl dX12_judge_8 rfl rfl ?_
  refine a_callV (as := [.int (nI j)]) (rest := []) (st2 := [.int 1]) (u1 := 0) (v1 := 0) (u2 := 0) (v2 := 0) (r_isFam_in hf.2.1 hf.1) (⟨_, _, _, _, rfl, rfl⟩) oX12_isFamily q_1273 q_1275 q_87 rfl (by omega) (by decide) rfl (Nat.le_of_ble_eq_true rfl) 12 rfl dX12_judge_9 rfl ?_
  refine a_if_ne 17 15 rfl dX12_judge_12 (by decide) (fun _ => ?_) (fun hc => absurd hc ((by decide)))
  refine a_aload_n 0 18 rfl dX12_judge_17 rfl rfl ?_
  refine a_get 38 cl_11 f_RX12_83_11 (by decide) (rfl) rfl 21 rfl dX12_judge_18 ?_
  refine a_iload_n 1 22 rfl dX12_judge_21 rfl rfl ?_
  refine a_iald (rfl) (vp_in_nI (n := s) (by omega) (by omega)) 23 rfl dX12_judge_22 ?_
  refine a_eq (st2 := [.int ((M.2.2.2.1 15) s)]) rfl rfl (congrArg (fun z9 => Value.int z9 :: []) (congrArg (M.2.2.2.1 15) (g_cl (by omega)))) rfl ?_
  refine a_iconst (x := (-1)) 24 rfl dX12_judge_23 (by decide) ?_
  refine a_icmp_ne 30 27 rfl dX12_judge_24 (by decide) (fun _ => ?_) (fun hc => absurd hc (h0))
  refine a_aload_n 0 31 rfl dX12_judge_30 rfl rfl ?_
  refine a_iload_n 2 32 rfl dX12_judge_31 rfl rfl ?_
  refine a_callV (as := [.int (nI j)]) (rest := []) (st2 := [.long x]) (u1 := 0) (v1 := 0) (u2 := 0) (v2 := 0) (ws) (⟨_, _, _, _, rfl, rfl⟩) oX12_setsOf q_1296 q_1298 q_89 rfl (by omega) (by decide) rfl (Nat.le_of_ble_eq_true rfl) 35 rfl dX12_judge_32 rfl ?_
  refine a_lstore_n (lv' := [(3, .long x), (0, .ref (g_ad G 38)), (1, .int (nI s)), (2, .int (nI j))]) 36 rfl dX12_judge_35 rfl (by decide) rfl ?_
  refine a_iconst (x := 0) 37 rfl dX12_judge_36 (by decide) ?_
  refine a_istore (lv' := [(5, .int 0), (3, .long x), (0, .ref (g_ad G 38)), (1, .int (nI s)), (2, .int (nI j))]) 39 rfl dX12_judge_37 (by decide) rfl ?_
  refine a_sub (lv' := [(5, .int (nI 0)), (3, .long x), (0, .ref (g_ad G 38)), (1, .int (nI s))]) [0, 1, 2, 3] rfl ?_
  refine g_for (P := fun t9 => f_jdM mm (2 ^ M.1 0) (fun z => M.2.2.2.2 5 (20 * s + z)) x (M.1 0 + 1) 0 = f_jdM mm (2 ^ M.1 0) (fun z => M.2.2.2.2 5 (20 * s + z)) x (M.1 0 + 1 - t9) t9) (M.1 0 + 1) (fun t9 => [(5, .int (nI t9)), (3, .long x), (0, .ref (g_ad G 38)), (1, .int (nI s))]) (fun t9 => (g_hp G C (g_hm G M ++ ob))) (rfl) (fun t9 h_t9 p_t9 k_t9 => ?_) (fun p_t9 => ?_)
  · have e0 : M.1 0 + 1 - t9 = (M.1 0 + 1 - (t9 + 1)) + 1 := by omega
    have hpf := f_pfM_le x t9 (2 ^ M.1 0)
    have eS : f_jdM mm (2 ^ M.1 0) (fun z => M.2.2.2.2 5 (20 * s + z)) x (M.1 0 + 1 - t9) t9 = (if mm ≤ t9 then nI (100 + t9) else if M.2.2.2.2 5 (20 * s + t9) = (nI (f_pfM x t9 (2 ^ M.1 0))).toInt64 then f_jdM mm (2 ^ M.1 0) (fun z => M.2.2.2.2 5 (20 * s + z)) x (M.1 0 + 1 - (t9 + 1)) (t9 + 1) else nI t9) := by rw [e0]; rfl
    rw [eS] at p_t9
    refine a_iload 0 41 rfl dX12_judge_39 rfl ?_
    refine a_aload_n 2 42 rfl dX12_judge_41 rfl rfl ?_
    refine a_get 0 cl_11 f_RX12_9_11 (by decide) (rfl) rfl 45 rfl dX12_judge_42 ?_
    refine a_icmp_gt 98 48 rfl dX12_judge_45 (by decide) (fun hc => absurd hc (nI_nlt (a := (M.1 0)) (b := t9) (by omega) (by omega))) (fun _ => ?_)
    refine a_iload 0 50 rfl dX12_judge_48 rfl ?_
    refine a_aload_n 2 51 rfl dX12_judge_50 rfl rfl ?_
    refine a_get 39 cl_11 f_RX12_86_11 (by decide) (rfl) rfl 54 rfl dX12_judge_51 ?_
    refine a_iload_n 3 55 rfl dX12_judge_54 rfl rfl ?_
    refine a_iald (rfl) (vp_in_nI (n := s) (by omega) (by omega)) 56 rfl dX12_judge_55 ?_
    refine a_eq (st2 := [.int ((M.2.2.2.1 16) s), .int (nI t9)]) rfl rfl (congrArg (fun z9 => Value.int z9 :: [.int (nI t9)]) (congrArg (M.2.2.2.1 16) (g_cl (by omega)))) rfl ?_
    refine a_eq (st2 := [.int (nI mm), .int (nI t9)]) rfl rfl (congrArg (fun z9 => Value.int z9 :: [.int (nI t9)]) (hmm)) rfl ?_
    rcases Nat.lt_or_ge t9 mm with e1 | e1
    · rw [if_neg (by omega)] at p_t9
      refine a_icmp_lt 65 59 rfl dX12_judge_56 (by decide) (fun _ => ?_) (fun hc => absurd (nI_lt (a := t9) (b := mm) (by omega) (by omega)) hc)
      refine a_aload_n 2 66 rfl dX12_judge_65 rfl rfl ?_
      refine a_get 40 cl_11 f_RX12_89_11 (by decide) (rfl) rfl 69 rfl dX12_judge_66 ?_
      refine a_bipush (x := 20) 71 rfl dX12_judge_69 (by decide) ?_
      refine a_iload_n 3 72 rfl dX12_judge_71 rfl rfl ?_
      refine a_imul 73 rfl dX12_judge_72 ?_
      refine a_eq (st2 := [.int (nI (20 * s)), .ref (g_ad G 61)]) rfl rfl (congrArg (fun z9 => Value.int z9 :: [.ref (g_ad G 61)]) (pk_mul 20 s)) rfl ?_
      refine a_iload 0 75 rfl dX12_judge_73 rfl ?_
      refine a_iadd 76 rfl dX12_judge_75 ?_
      refine a_eq (st2 := [.int (nI ((20 * s) + t9)), .ref (g_ad G 61)]) rfl rfl (congrArg (fun z9 => Value.int z9 :: [.ref (g_ad G 61)]) (nI_add (20 * s) t9)) rfl ?_
      refine a_lald (rfl) (vp_in_nI (n := ((20 * s) + t9)) (by omega) (by omega)) 77 rfl dX12_judge_76 ?_
      refine a_eq (st2 := [.long ((M.2.2.2.2 5) ((20 * s) + t9))]) rfl rfl (congrArg (fun z9 => Value.long z9 :: []) (congrArg (M.2.2.2.2 5) (g_cl (by omega)))) rfl ?_
      refine a_aload_n 2 78 rfl dX12_judge_77 rfl rfl ?_
      refine a_lload_n 1 79 rfl dX12_judge_78 rfl rfl ?_
      refine a_iload 0 81 rfl dX12_judge_79 rfl ?_
      refine a_callV (as := [.long x, .int (nI t9)]) (rest := [.long ((M.2.2.2.2 5) ((20 * s) + t9))]) (st2 := [.int (nI (f_pfM x t9 (2 ^ M.1 0))), .long ((M.2.2.2.2 5) ((20 * s) + t9))]) (u1 := 0) (v1 := 0) (u2 := 0) (v2 := 0) (r_pfM hn (by omega)) (⟨_, _, _, _, rfl, rfl⟩) oX12_profileOf q_1367 q_1369 q_99 rfl (by omega) (by decide) rfl (Nat.le_of_ble_eq_true rfl) 84 rfl dX12_judge_81 rfl ?_
      refine a_i2l 85 rfl dX12_judge_84 ?_
      refine a_lcmp 86 rfl dX12_judge_85 ?_
      by_cases e2 : M.2.2.2.2 5 (20 * s + t9) = (nI (f_pfM x t9 (2 ^ M.1 0))).toInt64
      · rw [if_pos e2] at p_t9
        refine a_if_eq 92 89 rfl dX12_judge_86 (by decide) (fun _ => ?_) (fun hc => absurd (g_cmp_eq.mpr e2) hc)
        refine a_iinc (y := nI (t9 + 1)) (lv' := [(5, .int (nI (t9 + 1))), (3, .long x), (0, .ref (g_ad G 38)), (1, .int (nI s))]) 0 95 rfl dX12_judge_92 rfl (nI_1 t9) (by decide) rfl ?_
        refine a_goto 39 dX12_judge_95 (by decide) ?_
        refine a_sub (lv' := [(5, .int (nI (t9 + 1))), (3, .long x), (0, .ref (g_ad G 38)), (1, .int (nI s))]) [0, 1, 2, 3] rfl ?_
        exact k_t9 (p_t9)
      · rw [if_neg e2] at p_t9
        refine a_if_eq 92 89 rfl dX12_judge_86 (by decide) (fun hc => absurd hc (g_cmp_ne.mpr e2)) (fun _ => ?_)
        refine a_iload 0 91 rfl dX12_judge_89 rfl ?_
        exact a_ireturn .int rfl rfl ((by rw [p_t9])) (rfl) dX12_judge_91
    · rw [if_pos e1] at p_t9
      refine a_icmp_lt 65 59 rfl dX12_judge_56 (by decide) (fun hc => absurd hc (nI_nlt (a := t9) (b := mm) (by omega) (by omega))) (fun _ => ?_)
      refine a_bipush (x := 100) 61 rfl dX12_judge_59 (by decide) ?_
      refine a_iload 0 63 rfl dX12_judge_61 rfl ?_
      refine a_iadd 64 rfl dX12_judge_63 ?_
      refine a_eq (st2 := [.int (nI (100 + t9))]) rfl rfl (congrArg (fun z9 => Value.int z9 :: []) (nI_add 100 t9)) rfl ?_
      exact a_ireturn .int rfl rfl ((by rw [p_t9])) (rfl) dX12_judge_64
  · rw [Nat.sub_self] at p_t9
    refine a_iload 0 41 rfl dX12_judge_39 rfl ?_
    refine a_aload_n 2 42 rfl dX12_judge_41 rfl rfl ?_
    refine a_get 0 cl_11 f_RX12_9_11 (by decide) (rfl) rfl 45 rfl dX12_judge_42 ?_
    refine a_icmp_gt 98 48 rfl dX12_judge_45 (by decide) (fun _ => ?_) (fun hc => absurd (nI_lt (a := (M.1 0)) (b := (M.1 0 + 1)) (by omega) (by omega)) hc)
    refine a_bipush (x := (-2)) 100 rfl dX12_judge_98 (by decide) ?_
    exact a_ireturn .int rfl rfl ((by rw [p_t9]; rfl)) (rfl) dX12_judge_100
theorem r_loM_bad (hy : ¬ (((1 : Int32) ≤ y ∧ y ≤ 20) ∧ ((0 : Int32) ≤ y2 ∧ y2 ≤ 100) ∧ ((0 : Int32) ≤ y4 ∧ y4 ≤ 1))) : g_Run G mX12_lots 6 0 0 [.ref (g_ad G 38), .int y, .int y2, .int y3, .int y4] (g_hp G C (g_hm G M ++ ob)) (some (.int (-1))) (g_hp G C (g_hm G M ++ ob)) := by
  refine g_Run.of (lv := [(0, .ref (g_ad G 38)), (1, .int y), (2, .int y2), (3, .int y3), (4, .int y4)]) (by decide) (Nat.le_of_ble_eq_true rfl) rfl ?_
  refine a_iload_n 1 1 rfl dX12_lots_0 rfl rfl ?_
  refine a_i2l 2 rfl dX12_lots_1 ?_
  refine a_lconst (x := 1) 3 rfl dX12_lots_2 (by decide) ?_
  refine a_ldc2 q_1537 6 rfl dX12_lots_3 ?_
  refine a_callS (as := [.long y.toInt64, .long 1, .long 20]) (rest := []) (st2 := [.int (f_i (decide ((1 : Int32) ≤ y ∧ y ≤ 20)))]) (u1 := 0) (v1 := 0) (u2 := 0) (v2 := 0) (r_isInB (y := y) (a := 1) (b := 20) rfl rfl) oX12_isIn q_1242 q_1243 rfl (by omega) (by decide) rfl (Nat.le_of_ble_eq_true rfl) 9 rfl dX12_lots_6 rfl ?_
  rcases Bool.eq_false_or_eq_true (decide ((1 : Int32) ≤ y ∧ y ≤ 20)) with e1 | e1
  · skip
    refine a_if_eq 35 12 rfl dX12_lots_9 (by decide) (fun hc => absurd hc (f_i_T e1)) (fun _ => ?_)
    refine a_iload_n 2 13 rfl dX12_lots_12 rfl rfl ?_
    refine a_i2l 14 rfl dX12_lots_13 ?_
    refine a_lconst (x := 0) 15 rfl dX12_lots_14 (by decide) ?_
    refine a_ldc2 q_1538 18 rfl dX12_lots_15 ?_
    refine a_callS (as := [.long y2.toInt64, .long 0, .long 100]) (rest := []) (st2 := [.int (f_i (decide ((0 : Int32) ≤ y2 ∧ y2 ≤ 100)))]) (u1 := 0) (v1 := 0) (u2 := 0) (v2 := 0) (r_isInB (y := y2) (a := 0) (b := 100) rfl rfl) oX12_isIn q_1242 q_1243 rfl (by omega) (by decide) rfl (Nat.le_of_ble_eq_true rfl) 21 rfl dX12_lots_18 rfl ?_
    rcases Bool.eq_false_or_eq_true (decide ((0 : Int32) ≤ y2 ∧ y2 ≤ 100)) with e2 | e2
    · skip
      refine a_if_eq 35 24 rfl dX12_lots_21 (by decide) (fun hc => absurd hc (f_i_T e2)) (fun _ => ?_)
      refine a_iload 4 26 rfl dX12_lots_24 rfl ?_
      refine a_i2l 27 rfl dX12_lots_26 ?_
      refine a_lconst (x := 0) 28 rfl dX12_lots_27 (by decide) ?_
      refine a_lconst (x := 1) 29 rfl dX12_lots_28 (by decide) ?_
      refine a_callS (as := [.long y4.toInt64, .long 0, .long 1]) (rest := []) (st2 := [.int (f_i (decide ((0 : Int32) ≤ y4 ∧ y4 ≤ 1)))]) (u1 := 0) (v1 := 0) (u2 := 0) (v2 := 0) (r_isInB (y := y4) (a := 0) (b := 1) rfl rfl) oX12_isIn q_1242 q_1243 rfl (by omega) (by decide) rfl (Nat.le_of_ble_eq_true rfl) 32 rfl dX12_lots_29 rfl ?_
      refine a_if_ne 37 35 rfl dX12_lots_32 (by decide) (fun hc => absurd (f_i_F (decide_eq_false (fun z9 => hy ⟨of_decide_eq_true e1, of_decide_eq_true e2, z9⟩))) hc) (fun _ => ?_)
      refine a_iconst (x := (-1)) 36 rfl dX12_lots_35 (by decide) ?_
      exact a_ireturn .int rfl rfl (rfl) (rfl) dX12_lots_36
    · skip
      refine a_if_eq 35 24 rfl dX12_lots_21 (by decide) (fun _ => ?_) (fun hc => absurd (f_i_F e2) hc)
      refine a_iconst (x := (-1)) 36 rfl dX12_lots_35 (by decide) ?_
      exact a_ireturn .int rfl rfl (rfl) (rfl) dX12_lots_36
  · skip
    refine a_if_eq 35 12 rfl dX12_lots_9 (by decide) (fun _ => ?_) (fun hc => absurd (f_i_F e1) hc)
    refine a_iconst (x := (-1)) 36 rfl dX12_lots_35 (by decide) ?_
    exact a_ireturn .int rfl rfl (rfl) (rfl) dX12_lots_36
theorem r_loM0 (hn : M.1 0 ≤ 6) (hn0 : 0 < M.1 0) (h1 : 1 ≤ m) (h2 : m ≤ 20) (hy : (0 : Int32) ≤ y2 ∧ y2 ≤ 100) : g_Run G mX12_lots 6 0 0 [.ref (g_ad G 38), .int (nI m), .int y2, .int y3, .int 0] (g_hp G C (g_hm G M ++ ob)) (some (.int (f_ltM y2 (fun x => nI (f_pop (f_boM (M.1 0) x))) (2 ^ M.1 0) m y3).2)) (g_hp G C (g_hm G M ++ ob)) := by
  have hp : 2 ^ M.1 0 ≤ 64 := Nat.pow_le_pow_right (by decide) hn
  refine g_Run.of (lv := [(0, .ref (g_ad G 38)), (1, .int (nI m)), (2, .int y2), (3, .int y3), (4, .int 0)]) (by decide) (Nat.le_of_ble_eq_true rfl) rfl ?_
  refine a_iload_n 1 1 rfl dX12_lots_0 rfl rfl ?_
  refine a_i2l 2 rfl dX12_lots_1 ?_
  refine a_lconst (x := 1) 3 rfl dX12_lots_2 (by decide) ?_
  refine a_ldc2 q_1537 6 rfl dX12_lots_3 ?_
  refine a_callS (as := [.long ((nI m).toInt64), .long 1, .long 20]) (rest := []) (st2 := [.int (f_i (decide ((1 : Int32) ≤ (nI m) ∧ (nI m) ≤ 20)))]) (u1 := 0) (v1 := 0) (u2 := 0) (v2 := 0) (r_isInB (y := (nI m)) (a := 1) (b := 20) rfl rfl) oX12_isIn q_1242 q_1243 rfl (by omega) (by decide) rfl (Nat.le_of_ble_eq_true rfl) 9 rfl dX12_lots_6 rfl ?_
  refine a_if_eq 35 12 rfl dX12_lots_9 (by decide) (fun hc => absurd hc (f_i_T (decide_eq_true ⟨nI_le (a := 1) h1 (by omega), nI_le (b := 20) h2 (by omega)⟩))) (fun _ => ?_)
  refine a_iload_n 2 13 rfl dX12_lots_12 rfl rfl ?_
  refine a_i2l 14 rfl dX12_lots_13 ?_
  refine a_lconst (x := 0) 15 rfl dX12_lots_14 (by decide) ?_
  refine a_ldc2 q_1538 18 rfl dX12_lots_15 ?_
  refine a_callS (as := [.long y2.toInt64, .long 0, .long 100]) (rest := []) (st2 := [.int (f_i (decide ((0 : Int32) ≤ y2 ∧ y2 ≤ 100)))]) (u1 := 0) (v1 := 0) (u2 := 0) (v2 := 0) (r_isInB (y := y2) (a := 0) (b := 100) rfl rfl) oX12_isIn q_1242 q_1243 rfl (by omega) (by decide) rfl (Nat.le_of_ble_eq_true rfl) 21 rfl dX12_lots_18 rfl ?_
  refine a_if_eq 35 24 rfl dX12_lots_21 (by decide) (fun hc => absurd hc (f_i_T (decide_eq_true hy))) (fun _ => ?_)
  refine a_iload 4 26 rfl dX12_lots_24 rfl ?_
  refine a_i2l 27 rfl dX12_lots_26 ?_
  refine a_lconst (x := 0) 28 rfl dX12_lots_27 (by decide) ?_
  refine a_lconst (x := 1) 29 rfl dX12_lots_28 (by decide) ?_
  refine a_callS (as := [.long ((0 : Int32).toInt64), .long 0, .long 1]) (rest := []) (st2 := [.int (f_i (decide ((0 : Int32) ≤ (0 : Int32) ∧ (0 : Int32) ≤ 1)))]) (u1 := 0) (v1 := 0) (u2 := 0) (v2 := 0) (r_isInB (y := (0 : Int32)) (a := 0) (b := 1) rfl rfl) oX12_isIn q_1242 q_1243 rfl (by omega) (by decide) rfl (Nat.le_of_ble_eq_true rfl) 32 rfl dX12_lots_29 rfl ?_
  refine a_if_ne 37 35 rfl dX12_lots_32 (by decide) (fun _ => ?_) (fun hc => absurd hc (f_i_T (by decide)))
  refine a_iload_n 3 38 rfl dX12_lots_37 rfl rfl ?_
  refine a_istore (lv' := [(5, .int y3), (0, .ref (g_ad G 38)), (1, .int (nI m)), (2, .int y2), (3, .int y3), (4, .int 0)]) 40 rfl dX12_lots_38 (by decide) rfl ?_
  refine a_iconst (x := 0) 41 rfl dX12_lots_40 (by decide) ?_
  refine a_istore (lv' := [(6, .int 0), (5, .int y3), (0, .ref (g_ad G 38)), (1, .int (nI m)), (2, .int y2), (3, .int y3), (4, .int 0)]) 43 rfl dX12_lots_41 (by decide) rfl ?_
  refine a_iconst (x := 0) 44 rfl dX12_lots_43 (by decide) ?_
  refine a_istore (lv' := [(7, .int 0), (6, .int 0), (5, .int y3), (0, .ref (g_ad G 38)), (1, .int (nI m)), (2, .int y2), (3, .int y3), (4, .int 0)]) 46 rfl dX12_lots_44 (by decide) rfl ?_
  refine a_sub (lv' := [(7, .int (nI 0)), (6, .int ((f_ltM y2 (fun x => nI (f_pop (f_boM (M.1 0) x))) (2 ^ M.1 0) 0 y3).2)), (5, .int ((f_ltM y2 (fun x => nI (f_pop (f_boM (M.1 0) x))) (2 ^ M.1 0) 0 y3).1)), (0, .ref (g_ad G 38)), (1, .int (nI m)), (2, .int y2), (4, .int 0)]) [0, 1, 2, 3, 4, 5, 7] rfl ?_
  refine g_for (P := fun t9 => True) m (fun t9 => [(7, .int (nI t9)), (6, .int ((f_ltM y2 (fun x => nI (f_pop (f_boM (M.1 0) x))) (2 ^ M.1 0) t9 y3).2)), (5, .int ((f_ltM y2 (fun x => nI (f_pop (f_boM (M.1 0) x))) (2 ^ M.1 0) t9 y3).1)), (0, .ref (g_ad G 38)), (1, .int (nI m)), (2, .int y2), (4, .int 0)]) (fun t9 => (g_hp G C (g_hm G M ++ ob))) (trivial) (fun t9 h_t9 p_t9 k_t9 => ?_) (fun p_t9 => ?_)
  · skip
    refine a_iload 0 48 rfl dX12_lots_46 rfl ?_
    refine a_iload_n 4 49 rfl dX12_lots_48 rfl rfl ?_
    refine a_icmp_ge 149 52 rfl dX12_lots_49 (by decide) (fun hc => absurd hc (nI_ge (a := t9) (b := m) (by omega) (by omega))) (fun _ => ?_)
    refine a_lconst (x := 0) 53 rfl dX12_lots_52 (by decide) ?_
    refine a_lstore (lv' := [(8, .long 0), (7, .int (nI t9)), (6, .int ((f_ltM y2 (fun x => nI (f_pop (f_boM (M.1 0) x))) (2 ^ M.1 0) t9 y3).2)), (5, .int ((f_ltM y2 (fun x => nI (f_pop (f_boM (M.1 0) x))) (2 ^ M.1 0) t9 y3).1)), (0, .ref (g_ad G 38)), (1, .int (nI m)), (2, .int y2), (4, .int 0)]) 55 rfl dX12_lots_53 (by decide) rfl ?_
    refine a_iconst (x := 0) 56 rfl dX12_lots_55 (by decide) ?_
    refine a_istore (lv' := [(10, .int 0), (8, .long 0), (7, .int (nI t9)), (6, .int ((f_ltM y2 (fun x => nI (f_pop (f_boM (M.1 0) x))) (2 ^ M.1 0) t9 y3).2)), (5, .int ((f_ltM y2 (fun x => nI (f_pop (f_boM (M.1 0) x))) (2 ^ M.1 0) t9 y3).1)), (0, .ref (g_ad G 38)), (1, .int (nI m)), (2, .int y2), (4, .int 0)]) 58 rfl dX12_lots_56 (by decide) rfl ?_
    refine a_sub (lv' := [(10, .int (nI 0)), (8, .long ((f_drM y2 0 (f_ltM y2 (fun x => nI (f_pop (f_boM (M.1 0) x))) (2 ^ M.1 0) t9 y3).1).2)), (5, .int ((f_drM y2 0 (f_ltM y2 (fun x => nI (f_pop (f_boM (M.1 0) x))) (2 ^ M.1 0) t9 y3).1).1)), (6, .int ((f_ltM y2 (fun x => nI (f_pop (f_boM (M.1 0) x))) (2 ^ M.1 0) t9 y3).2)), (7, .int (nI t9)), (0, .ref (g_ad G 38)), (1, .int (nI m)), (2, .int y2), (4, .int 0)]) [0, 1, 4, 3, 2, 5, 6, 7, 8] rfl ?_
    refine g_for (P := fun s9 => True) (2 ^ M.1 0) (fun s9 => [(10, .int (nI s9)), (8, .long ((f_drM y2 s9 (f_ltM y2 (fun x => nI (f_pop (f_boM (M.1 0) x))) (2 ^ M.1 0) t9 y3).1).2)), (5, .int ((f_drM y2 s9 (f_ltM y2 (fun x => nI (f_pop (f_boM (M.1 0) x))) (2 ^ M.1 0) t9 y3).1).1)), (6, .int ((f_ltM y2 (fun x => nI (f_pop (f_boM (M.1 0) x))) (2 ^ M.1 0) t9 y3).2)), (7, .int (nI t9)), (0, .ref (g_ad G 38)), (1, .int (nI m)), (2, .int y2), (4, .int 0)]) (fun s9 => (g_hp G C (g_hm G M ++ ob))) (trivial) (fun s9 h_s9 p_s9 k_s9 => ?_) (fun p_s9 => ?_)
    · skip
      refine a_iload 0 60 rfl dX12_lots_58 rfl ?_
      refine a_aload_n 5 61 rfl dX12_lots_60 rfl rfl ?_
      refine a_callV (as := []) (rest := [.int (nI s9)]) (st2 := [.int (nI (2 ^ M.1 0)), .int (nI s9)]) (u1 := 0) (v1 := 0) (u2 := 0) (v2 := 0) (r_allM hn) (⟨_, _, _, _, rfl, rfl⟩) oX12_all q_1253 q_1255 q_85 rfl (by omega) (by decide) rfl (Nat.le_of_ble_eq_true rfl) 64 rfl dX12_lots_61 rfl ?_
      refine a_icmp_ge 115 67 rfl dX12_lots_64 (by decide) (fun hc => absurd hc (nI_ge (a := s9) (b := (2 ^ M.1 0)) (by omega) (by omega))) (fun _ => ?_)
      refine a_iload 2 69 rfl dX12_lots_67 rfl ?_
      refine a_ldcw q_1539 72 rfl dX12_lots_69 ?_
      refine a_imul 73 rfl dX12_lots_72 ?_
      refine a_sipush (x := 12345) 76 rfl dX12_lots_73 (by decide) ?_
      refine a_iadd 77 rfl dX12_lots_76 ?_
      refine a_istore (lv' := [(5, .int ((((f_drM y2 s9 (f_ltM y2 (fun x => nI (f_pop (f_boM (M.1 0) x))) (2 ^ M.1 0) t9 y3).1).1) * 1103515245) + 12345)), (10, .int (nI s9)), (8, .long ((f_drM y2 s9 (f_ltM y2 (fun x => nI (f_pop (f_boM (M.1 0) x))) (2 ^ M.1 0) t9 y3).1).2)), (6, .int ((f_ltM y2 (fun x => nI (f_pop (f_boM (M.1 0) x))) (2 ^ M.1 0) t9 y3).2)), (7, .int (nI t9)), (0, .ref (g_ad G 38)), (1, .int (nI m)), (2, .int y2), (4, .int 0)]) 79 rfl dX12_lots_77 (by decide) rfl ?_
      refine a_lload 2 81 rfl dX12_lots_79 rfl ?_
      refine a_iload 0 83 rfl dX12_lots_81 rfl ?_
      refine a_ldcw q_1540 86 rfl dX12_lots_83 ?_
      refine a_iand 87 rfl dX12_lots_86 ?_
      refine a_ldcw q_1541 90 rfl dX12_lots_87 ?_
      refine a_idiv 91 rfl dX12_lots_90 ((by decide)) ?_
      refine a_bipush (x := 100) 93 rfl dX12_lots_91 (by decide) ?_
      refine a_irem 94 rfl dX12_lots_93 ((by decide)) ?_
      refine a_iload_n 7 95 rfl dX12_lots_94 rfl rfl ?_
      refine g_sfx (pc := 106) (lv := [(5, .int ((((f_drM y2 s9 (f_ltM y2 (fun x => nI (f_pop (f_boM (M.1 0) x))) (2 ^ M.1 0) t9 y3).1).1) * 1103515245) + 12345)), (10, .int (nI s9)), (8, .long ((f_drM y2 s9 (f_ltM y2 (fun x => nI (f_pop (f_boM (M.1 0) x))) (2 ^ M.1 0) t9 y3).1).2)), (6, .int ((f_ltM y2 (fun x => nI (f_pop (f_boM (M.1 0) x))) (2 ^ M.1 0) t9 y3).2)), (7, .int (nI t9)), (0, .ref (g_ad G 38)), (1, .int (nI m)), (2, .int y2), (4, .int 0)]) (st := [.long (cond (decide (y2 ≤ (((((((f_drM y2 s9 (f_ltM y2 (fun x => nI (f_pop (f_boM (M.1 0) x))) (2 ^ M.1 0) t9 y3).1).1) * 1103515245) + 12345) &&& 2147483647) / 65536) - ((((((f_drM y2 s9 (f_ltM y2 (fun x => nI (f_pop (f_boM (M.1 0) x))) (2 ^ M.1 0) t9 y3).1).1) * 1103515245) + 12345) &&& 2147483647) / 65536) / 100 * 100))) 0 (f_sl (1 : Int64) (nI s9))), .long ((f_drM y2 s9 (f_ltM y2 (fun x => nI (f_pop (f_boM (M.1 0) x))) (2 ^ M.1 0) t9 y3).1).2)]) (h := (g_hp G C (g_hm G M ++ ob))) (fun key => ?_) ?_
      · skip
        rcases Bool.eq_false_or_eq_true (decide (y2 ≤ (((((((f_drM y2 s9 (f_ltM y2 (fun x => nI (f_pop (f_boM (M.1 0) x))) (2 ^ M.1 0) t9 y3).1).1) * 1103515245) + 12345) &&& 2147483647) / 65536) - ((((((f_drM y2 s9 (f_ltM y2 (fun x => nI (f_pop (f_boM (M.1 0) x))) (2 ^ M.1 0) t9 y3).1).1) * 1103515245) + 12345) &&& 2147483647) / 65536) / 100 * 100))) with c95_1 | c95_1
        · skip
          have dc95_1 := of_decide_eq_true c95_1
          refine a_icmp_ge 105 98 rfl dX12_lots_95 (by decide) (fun _ => ?_) (fun hc => absurd (of_decide_eq_true c95_1) hc)
          refine a_lconst (x := 0) 106 rfl dX12_lots_105 (by decide) ?_
          exact a_eq rfl (rfl) (by rw [c95_1]; rfl) rfl key
        · skip
          have dc95_1 := of_decide_eq_false c95_1
          refine a_icmp_ge 105 98 rfl dX12_lots_95 (by decide) (fun hc => absurd hc (of_decide_eq_false c95_1)) (fun _ => ?_)
          refine a_lconst (x := 1) 99 rfl dX12_lots_98 (by decide) ?_
          refine a_iload 1 101 rfl dX12_lots_99 rfl ?_
          refine a_lshl 102 rfl dX12_lots_101 ?_
          refine a_goto 106 dX12_lots_102 (by decide) ?_
          exact a_eq rfl (rfl) (by rw [c95_1]; rfl) rfl key
      refine a_lor 107 rfl dX12_lots_106 ?_
      refine a_lstore (lv' := [(8, .long (((f_drM y2 s9 (f_ltM y2 (fun x => nI (f_pop (f_boM (M.1 0) x))) (2 ^ M.1 0) t9 y3).1).2) ||| (cond (decide (y2 ≤ (((((((f_drM y2 s9 (f_ltM y2 (fun x => nI (f_pop (f_boM (M.1 0) x))) (2 ^ M.1 0) t9 y3).1).1) * 1103515245) + 12345) &&& 2147483647) / 65536) - ((((((f_drM y2 s9 (f_ltM y2 (fun x => nI (f_pop (f_boM (M.1 0) x))) (2 ^ M.1 0) t9 y3).1).1) * 1103515245) + 12345) &&& 2147483647) / 65536) / 100 * 100))) 0 (f_sl (1 : Int64) (nI s9))))), (5, .int ((((f_drM y2 s9 (f_ltM y2 (fun x => nI (f_pop (f_boM (M.1 0) x))) (2 ^ M.1 0) t9 y3).1).1) * 1103515245) + 12345)), (10, .int (nI s9)), (6, .int ((f_ltM y2 (fun x => nI (f_pop (f_boM (M.1 0) x))) (2 ^ M.1 0) t9 y3).2)), (7, .int (nI t9)), (0, .ref (g_ad G 38)), (1, .int (nI m)), (2, .int y2), (4, .int 0)]) 109 rfl dX12_lots_107 (by decide) rfl ?_
      refine a_iinc (y := nI (s9 + 1)) (lv' := [(10, .int (nI (s9 + 1))), (8, .long (((f_drM y2 s9 (f_ltM y2 (fun x => nI (f_pop (f_boM (M.1 0) x))) (2 ^ M.1 0) t9 y3).1).2) ||| (cond (decide (y2 ≤ (((((((f_drM y2 s9 (f_ltM y2 (fun x => nI (f_pop (f_boM (M.1 0) x))) (2 ^ M.1 0) t9 y3).1).1) * 1103515245) + 12345) &&& 2147483647) / 65536) - ((((((f_drM y2 s9 (f_ltM y2 (fun x => nI (f_pop (f_boM (M.1 0) x))) (2 ^ M.1 0) t9 y3).1).1) * 1103515245) + 12345) &&& 2147483647) / 65536) / 100 * 100))) 0 (f_sl (1 : Int64) (nI s9))))), (5, .int ((((f_drM y2 s9 (f_ltM y2 (fun x => nI (f_pop (f_boM (M.1 0) x))) (2 ^ M.1 0) t9 y3).1).1) * 1103515245) + 12345)), (6, .int ((f_ltM y2 (fun x => nI (f_pop (f_boM (M.1 0) x))) (2 ^ M.1 0) t9 y3).2)), (7, .int (nI t9)), (0, .ref (g_ad G 38)), (1, .int (nI m)), (2, .int y2), (4, .int 0)]) 2 112 rfl dX12_lots_109 rfl (nI_1 s9) (by decide) rfl ?_
      refine a_goto 58 dX12_lots_112 (by decide) ?_
      refine a_sub (lv' := [(10, .int (nI (s9 + 1))), (8, .long ((f_drM y2 (s9 + 1) (f_ltM y2 (fun x => nI (f_pop (f_boM (M.1 0) x))) (2 ^ M.1 0) t9 y3).1).2)), (5, .int ((f_drM y2 (s9 + 1) (f_ltM y2 (fun x => nI (f_pop (f_boM (M.1 0) x))) (2 ^ M.1 0) t9 y3).1).1)), (6, .int ((f_ltM y2 (fun x => nI (f_pop (f_boM (M.1 0) x))) (2 ^ M.1 0) t9 y3).2)), (7, .int (nI t9)), (0, .ref (g_ad G 38)), (1, .int (nI m)), (2, .int y2), (4, .int 0)]) [0, 1, 2, 3, 4, 5, 6, 7, 8] rfl ?_
      exact k_s9 trivial
    · skip
      refine a_iload 0 60 rfl dX12_lots_58 rfl ?_
      refine a_aload_n 5 61 rfl dX12_lots_60 rfl rfl ?_
      refine a_callV (as := []) (rest := [.int (nI (2 ^ M.1 0))]) (st2 := [.int (nI (2 ^ M.1 0)), .int (nI (2 ^ M.1 0))]) (u1 := 0) (v1 := 0) (u2 := 0) (v2 := 0) (r_allM hn) (⟨_, _, _, _, rfl, rfl⟩) oX12_all q_1253 q_1255 q_85 rfl (by omega) (by decide) rfl (Nat.le_of_ble_eq_true rfl) 64 rfl dX12_lots_61 rfl ?_
      refine a_icmp_ge 115 67 rfl dX12_lots_64 (by decide) (fun _ => ?_) (fun hc => absurd (nI_le (a := (2 ^ M.1 0)) (b := (2 ^ M.1 0)) (by omega) (by omega)) hc)
      refine a_iload 3 117 rfl dX12_lots_115 rfl ?_
      refine a_iload 8 119 rfl dX12_lots_117 rfl ?_
      refine a_if_ne 134 122 rfl dX12_lots_119 (by decide) (fun hc => absurd (rfl) hc) (fun _ => ?_)
      refine a_aload_n 5 123 rfl dX12_lots_122 rfl rfl ?_
      refine a_lload 1 125 rfl dX12_lots_123 rfl ?_
      refine a_callV (as := [.long ((f_drM y2 (2 ^ M.1 0) (f_ltM y2 (fun x => nI (f_pop (f_boM (M.1 0) x))) (2 ^ M.1 0) t9 y3).1).2)]) (rest := [.int ((f_ltM y2 (fun x => nI (f_pop (f_boM (M.1 0) x))) (2 ^ M.1 0) t9 y3).2)]) (st2 := [.long (f_boM (M.1 0) (f_drM y2 (2 ^ M.1 0) (f_ltM y2 (fun x => nI (f_pop (f_boM (M.1 0) x))) (2 ^ M.1 0) t9 y3).1).2), .int ((f_ltM y2 (fun x => nI (f_pop (f_boM (M.1 0) x))) (2 ^ M.1 0) t9 y3).2)]) (u1 := 0) (v1 := 0) (u2 := 0) (v2 := 0) (r_boM hn hn0) (⟨_, _, _, _, rfl, rfl⟩) oX12_borderOf q_1322 q_1324 q_94 rfl (by omega) (by decide) rfl (Nat.le_of_ble_eq_true rfl) 128 rfl dX12_lots_125 rfl ?_
      refine a_callS (as := [.long (f_boM (M.1 0) (f_drM y2 (2 ^ M.1 0) (f_ltM y2 (fun x => nI (f_pop (f_boM (M.1 0) x))) (2 ^ M.1 0) t9 y3).1).2)]) (rest := [.int ((f_ltM y2 (fun x => nI (f_pop (f_boM (M.1 0) x))) (2 ^ M.1 0) t9 y3).2)]) (st2 := [.int (nI (f_pop (f_boM (M.1 0) (f_drM y2 (2 ^ M.1 0) (f_ltM y2 (fun x => nI (f_pop (f_boM (M.1 0) x))) (2 ^ M.1 0) t9 y3).1).2))), .int ((f_ltM y2 (fun x => nI (f_pop (f_boM (M.1 0) x))) (2 ^ M.1 0) t9 y3).2)]) (u1 := 0) (v1 := 0) (u2 := 0) (v2 := 0) (r_many) oX12_many q_1311 q_1312 rfl (by omega) (by decide) rfl (Nat.le_of_ble_eq_true rfl) 131 rfl dX12_lots_128 rfl ?_
      refine a_goto 140 dX12_lots_131 (by decide) ?_
      refine a_iadd 141 rfl dX12_lots_140 ?_
      refine a_istore (lv' := [(6, .int (((f_ltM y2 (fun x => nI (f_pop (f_boM (M.1 0) x))) (2 ^ M.1 0) t9 y3).2) + (nI (f_pop (f_boM (M.1 0) (f_drM y2 (2 ^ M.1 0) (f_ltM y2 (fun x => nI (f_pop (f_boM (M.1 0) x))) (2 ^ M.1 0) t9 y3).1).2))))), (10, .int (nI (2 ^ M.1 0))), (8, .long ((f_drM y2 (2 ^ M.1 0) (f_ltM y2 (fun x => nI (f_pop (f_boM (M.1 0) x))) (2 ^ M.1 0) t9 y3).1).2)), (5, .int ((f_drM y2 (2 ^ M.1 0) (f_ltM y2 (fun x => nI (f_pop (f_boM (M.1 0) x))) (2 ^ M.1 0) t9 y3).1).1)), (7, .int (nI t9)), (0, .ref (g_ad G 38)), (1, .int (nI m)), (2, .int y2), (4, .int 0)]) 143 rfl dX12_lots_141 (by decide) rfl ?_
      refine a_iinc (y := nI (t9 + 1)) (lv' := [(7, .int (nI (t9 + 1))), (6, .int (((f_ltM y2 (fun x => nI (f_pop (f_boM (M.1 0) x))) (2 ^ M.1 0) t9 y3).2) + (nI (f_pop (f_boM (M.1 0) (f_drM y2 (2 ^ M.1 0) (f_ltM y2 (fun x => nI (f_pop (f_boM (M.1 0) x))) (2 ^ M.1 0) t9 y3).1).2))))), (10, .int (nI (2 ^ M.1 0))), (8, .long ((f_drM y2 (2 ^ M.1 0) (f_ltM y2 (fun x => nI (f_pop (f_boM (M.1 0) x))) (2 ^ M.1 0) t9 y3).1).2)), (5, .int ((f_drM y2 (2 ^ M.1 0) (f_ltM y2 (fun x => nI (f_pop (f_boM (M.1 0) x))) (2 ^ M.1 0) t9 y3).1).1)), (0, .ref (g_ad G 38)), (1, .int (nI m)), (2, .int y2), (4, .int 0)]) 4 146 rfl dX12_lots_143 rfl (nI_1 t9) (by decide) rfl ?_
      refine a_goto 46 dX12_lots_146 (by decide) ?_
      refine a_sub (lv' := [(7, .int (nI (t9 + 1))), (6, .int ((f_ltM y2 (fun x => nI (f_pop (f_boM (M.1 0) x))) (2 ^ M.1 0) (t9 + 1) y3).2)), (5, .int ((f_ltM y2 (fun x => nI (f_pop (f_boM (M.1 0) x))) (2 ^ M.1 0) (t9 + 1) y3).1)), (0, .ref (g_ad G 38)), (1, .int (nI m)), (2, .int y2), (4, .int 0)]) [0, 1, 4, 5, 6, 7, 8] rfl ?_
      exact k_t9 trivial
  · skip
    refine a_iload 0 48 rfl dX12_lots_46 rfl ?_
    refine a_iload_n 4 49 rfl dX12_lots_48 rfl rfl ?_
    refine a_icmp_ge 149 52 rfl dX12_lots_49 (by decide) (fun _ => ?_) (fun hc => absurd (nI_le (a := m) (b := m) (by omega) (by omega)) hc)
    refine a_iload 1 151 rfl dX12_lots_149 rfl ?_
    exact a_ireturn .int rfl rfl (rfl) (rfl) dX12_lots_151

theorem r_loM1 (hn : M.1 0 ≤ 6) (hn0 : 0 < M.1 0) (h1 : 1 ≤ m) (h2 : m ≤ 20) (hy : (0 : Int32) ≤ y2 ∧ y2 ≤ 100) : g_Run G mX12_lots 6 0 0 [.ref (g_ad G 38), .int (nI m), .int y2, .int y3, .int 1] (g_hp G C (g_hm G M ++ ob)) (some (.int (f_ltM y2 (fun x => nI (f_edM (M.1 0) x (2 ^ M.1 0))) (2 ^ M.1 0) m y3).2)) (g_hp G C (g_hm G M ++ ob)) := by
  have hp : 2 ^ M.1 0 ≤ 64 := Nat.pow_le_pow_right (by decide) hn
  refine g_Run.of (lv := [(0, .ref (g_ad G 38)), (1, .int (nI m)), (2, .int y2), (3, .int y3), (4, .int 1)]) (by decide) (Nat.le_of_ble_eq_true rfl) rfl ?_
  refine a_iload_n 1 1 rfl dX12_lots_0 rfl rfl ?_
  refine a_i2l 2 rfl dX12_lots_1 ?_
  refine a_lconst (x := 1) 3 rfl dX12_lots_2 (by decide) ?_
  refine a_ldc2 q_1537 6 rfl dX12_lots_3 ?_
  refine a_callS (as := [.long ((nI m).toInt64), .long 1, .long 20]) (rest := []) (st2 := [.int (f_i (decide ((1 : Int32) ≤ (nI m) ∧ (nI m) ≤ 20)))]) (u1 := 0) (v1 := 0) (u2 := 0) (v2 := 0) (r_isInB (y := (nI m)) (a := 1) (b := 20) rfl rfl) oX12_isIn q_1242 q_1243 rfl (by omega) (by decide) rfl (Nat.le_of_ble_eq_true rfl) 9 rfl dX12_lots_6 rfl ?_
  refine a_if_eq 35 12 rfl dX12_lots_9 (by decide) (fun hc => absurd hc (f_i_T (decide_eq_true ⟨nI_le (a := 1) h1 (by omega), nI_le (b := 20) h2 (by omega)⟩))) (fun _ => ?_)
  refine a_iload_n 2 13 rfl dX12_lots_12 rfl rfl ?_
  refine a_i2l 14 rfl dX12_lots_13 ?_
  refine a_lconst (x := 0) 15 rfl dX12_lots_14 (by decide) ?_
  refine a_ldc2 q_1538 18 rfl dX12_lots_15 ?_
  refine a_callS (as := [.long y2.toInt64, .long 0, .long 100]) (rest := []) (st2 := [.int (f_i (decide ((0 : Int32) ≤ y2 ∧ y2 ≤ 100)))]) (u1 := 0) (v1 := 0) (u2 := 0) (v2 := 0) (r_isInB (y := y2) (a := 0) (b := 100) rfl rfl) oX12_isIn q_1242 q_1243 rfl (by omega) (by decide) rfl (Nat.le_of_ble_eq_true rfl) 21 rfl dX12_lots_18 rfl ?_
  refine a_if_eq 35 24 rfl dX12_lots_21 (by decide) (fun hc => absurd hc (f_i_T (decide_eq_true hy))) (fun _ => ?_)
  refine a_iload 4 26 rfl dX12_lots_24 rfl ?_
  refine a_i2l 27 rfl dX12_lots_26 ?_
  refine a_lconst (x := 0) 28 rfl dX12_lots_27 (by decide) ?_
  refine a_lconst (x := 1) 29 rfl dX12_lots_28 (by decide) ?_
  refine a_callS (as := [.long ((1 : Int32).toInt64), .long 0, .long 1]) (rest := []) (st2 := [.int (f_i (decide ((0 : Int32) ≤ (1 : Int32) ∧ (1 : Int32) ≤ 1)))]) (u1 := 0) (v1 := 0) (u2 := 0) (v2 := 0) (r_isInB (y := (1 : Int32)) (a := 0) (b := 1) rfl rfl) oX12_isIn q_1242 q_1243 rfl (by omega) (by decide) rfl (Nat.le_of_ble_eq_true rfl) 32 rfl dX12_lots_29 rfl ?_
  refine a_if_ne 37 35 rfl dX12_lots_32 (by decide) (fun _ => ?_) (fun hc => absurd hc (f_i_T (by decide)))
  refine a_iload_n 3 38 rfl dX12_lots_37 rfl rfl ?_
  refine a_istore (lv' := [(5, .int y3), (0, .ref (g_ad G 38)), (1, .int (nI m)), (2, .int y2), (3, .int y3), (4, .int 1)]) 40 rfl dX12_lots_38 (by decide) rfl ?_
  refine a_iconst (x := 0) 41 rfl dX12_lots_40 (by decide) ?_
  refine a_istore (lv' := [(6, .int 0), (5, .int y3), (0, .ref (g_ad G 38)), (1, .int (nI m)), (2, .int y2), (3, .int y3), (4, .int 1)]) 43 rfl dX12_lots_41 (by decide) rfl ?_
  refine a_iconst (x := 0) 44 rfl dX12_lots_43 (by decide) ?_
  refine a_istore (lv' := [(7, .int 0), (6, .int 0), (5, .int y3), (0, .ref (g_ad G 38)), (1, .int (nI m)), (2, .int y2), (3, .int y3), (4, .int 1)]) 46 rfl dX12_lots_44 (by decide) rfl ?_
  refine a_sub (lv' := [(7, .int (nI 0)), (6, .int ((f_ltM y2 (fun x => nI (f_edM (M.1 0) x (2 ^ M.1 0))) (2 ^ M.1 0) 0 y3).2)), (5, .int ((f_ltM y2 (fun x => nI (f_edM (M.1 0) x (2 ^ M.1 0))) (2 ^ M.1 0) 0 y3).1)), (0, .ref (g_ad G 38)), (1, .int (nI m)), (2, .int y2), (4, .int 1)]) [0, 1, 2, 3, 4, 5, 7] rfl ?_
  refine g_for (P := fun t9 => True) m (fun t9 => [(7, .int (nI t9)), (6, .int ((f_ltM y2 (fun x => nI (f_edM (M.1 0) x (2 ^ M.1 0))) (2 ^ M.1 0) t9 y3).2)), (5, .int ((f_ltM y2 (fun x => nI (f_edM (M.1 0) x (2 ^ M.1 0))) (2 ^ M.1 0) t9 y3).1)), (0, .ref (g_ad G 38)), (1, .int (nI m)), (2, .int y2), (4, .int 1)]) (fun t9 => (g_hp G C (g_hm G M ++ ob))) (trivial) (fun t9 h_t9 p_t9 k_t9 => ?_) (fun p_t9 => ?_)
  · skip
    refine a_iload 0 48 rfl dX12_lots_46 rfl ?_
    refine a_iload_n 4 49 rfl dX12_lots_48 rfl rfl ?_
    refine a_icmp_ge 149 52 rfl dX12_lots_49 (by decide) (fun hc => absurd hc (nI_ge (a := t9) (b := m) (by omega) (by omega))) (fun _ => ?_)
    refine a_lconst (x := 0) 53 rfl dX12_lots_52 (by decide) ?_
    refine a_lstore (lv' := [(8, .long 0), (7, .int (nI t9)), (6, .int ((f_ltM y2 (fun x => nI (f_edM (M.1 0) x (2 ^ M.1 0))) (2 ^ M.1 0) t9 y3).2)), (5, .int ((f_ltM y2 (fun x => nI (f_edM (M.1 0) x (2 ^ M.1 0))) (2 ^ M.1 0) t9 y3).1)), (0, .ref (g_ad G 38)), (1, .int (nI m)), (2, .int y2), (4, .int 1)]) 55 rfl dX12_lots_53 (by decide) rfl ?_
    refine a_iconst (x := 0) 56 rfl dX12_lots_55 (by decide) ?_
    refine a_istore (lv' := [(10, .int 0), (8, .long 0), (7, .int (nI t9)), (6, .int ((f_ltM y2 (fun x => nI (f_edM (M.1 0) x (2 ^ M.1 0))) (2 ^ M.1 0) t9 y3).2)), (5, .int ((f_ltM y2 (fun x => nI (f_edM (M.1 0) x (2 ^ M.1 0))) (2 ^ M.1 0) t9 y3).1)), (0, .ref (g_ad G 38)), (1, .int (nI m)), (2, .int y2), (4, .int 1)]) 58 rfl dX12_lots_56 (by decide) rfl ?_
    refine a_sub (lv' := [(10, .int (nI 0)), (8, .long ((f_drM y2 0 (f_ltM y2 (fun x => nI (f_edM (M.1 0) x (2 ^ M.1 0))) (2 ^ M.1 0) t9 y3).1).2)), (5, .int ((f_drM y2 0 (f_ltM y2 (fun x => nI (f_edM (M.1 0) x (2 ^ M.1 0))) (2 ^ M.1 0) t9 y3).1).1)), (6, .int ((f_ltM y2 (fun x => nI (f_edM (M.1 0) x (2 ^ M.1 0))) (2 ^ M.1 0) t9 y3).2)), (7, .int (nI t9)), (0, .ref (g_ad G 38)), (1, .int (nI m)), (2, .int y2), (4, .int 1)]) [0, 1, 4, 3, 2, 5, 6, 7, 8] rfl ?_
    refine g_for (P := fun s9 => True) (2 ^ M.1 0) (fun s9 => [(10, .int (nI s9)), (8, .long ((f_drM y2 s9 (f_ltM y2 (fun x => nI (f_edM (M.1 0) x (2 ^ M.1 0))) (2 ^ M.1 0) t9 y3).1).2)), (5, .int ((f_drM y2 s9 (f_ltM y2 (fun x => nI (f_edM (M.1 0) x (2 ^ M.1 0))) (2 ^ M.1 0) t9 y3).1).1)), (6, .int ((f_ltM y2 (fun x => nI (f_edM (M.1 0) x (2 ^ M.1 0))) (2 ^ M.1 0) t9 y3).2)), (7, .int (nI t9)), (0, .ref (g_ad G 38)), (1, .int (nI m)), (2, .int y2), (4, .int 1)]) (fun s9 => (g_hp G C (g_hm G M ++ ob))) (trivial) (fun s9 h_s9 p_s9 k_s9 => ?_) (fun p_s9 => ?_)
    · skip
      refine a_iload 0 60 rfl dX12_lots_58 rfl ?_
      refine a_aload_n 5 61 rfl dX12_lots_60 rfl rfl ?_
      refine a_callV (as := []) (rest := [.int (nI s9)]) (st2 := [.int (nI (2 ^ M.1 0)), .int (nI s9)]) (u1 := 0) (v1 := 0) (u2 := 0) (v2 := 0) (r_allM hn) (⟨_, _, _, _, rfl, rfl⟩) oX12_all q_1253 q_1255 q_85 rfl (by omega) (by decide) rfl (Nat.le_of_ble_eq_true rfl) 64 rfl dX12_lots_61 rfl ?_
      refine a_icmp_ge 115 67 rfl dX12_lots_64 (by decide) (fun hc => absurd hc (nI_ge (a := s9) (b := (2 ^ M.1 0)) (by omega) (by omega))) (fun _ => ?_)
      refine a_iload 2 69 rfl dX12_lots_67 rfl ?_
      refine a_ldcw q_1539 72 rfl dX12_lots_69 ?_
      refine a_imul 73 rfl dX12_lots_72 ?_
      refine a_sipush (x := 12345) 76 rfl dX12_lots_73 (by decide) ?_
      refine a_iadd 77 rfl dX12_lots_76 ?_
      refine a_istore (lv' := [(5, .int ((((f_drM y2 s9 (f_ltM y2 (fun x => nI (f_edM (M.1 0) x (2 ^ M.1 0))) (2 ^ M.1 0) t9 y3).1).1) * 1103515245) + 12345)), (10, .int (nI s9)), (8, .long ((f_drM y2 s9 (f_ltM y2 (fun x => nI (f_edM (M.1 0) x (2 ^ M.1 0))) (2 ^ M.1 0) t9 y3).1).2)), (6, .int ((f_ltM y2 (fun x => nI (f_edM (M.1 0) x (2 ^ M.1 0))) (2 ^ M.1 0) t9 y3).2)), (7, .int (nI t9)), (0, .ref (g_ad G 38)), (1, .int (nI m)), (2, .int y2), (4, .int 1)]) 79 rfl dX12_lots_77 (by decide) rfl ?_
      refine a_lload 2 81 rfl dX12_lots_79 rfl ?_
      refine a_iload 0 83 rfl dX12_lots_81 rfl ?_
      refine a_ldcw q_1540 86 rfl dX12_lots_83 ?_
      refine a_iand 87 rfl dX12_lots_86 ?_
      refine a_ldcw q_1541 90 rfl dX12_lots_87 ?_
      refine a_idiv 91 rfl dX12_lots_90 ((by decide)) ?_
      refine a_bipush (x := 100) 93 rfl dX12_lots_91 (by decide) ?_
      refine a_irem 94 rfl dX12_lots_93 ((by decide)) ?_
      refine a_iload_n 7 95 rfl dX12_lots_94 rfl rfl ?_
      refine g_sfx (pc := 106) (lv := [(5, .int ((((f_drM y2 s9 (f_ltM y2 (fun x => nI (f_edM (M.1 0) x (2 ^ M.1 0))) (2 ^ M.1 0) t9 y3).1).1) * 1103515245) + 12345)), (10, .int (nI s9)), (8, .long ((f_drM y2 s9 (f_ltM y2 (fun x => nI (f_edM (M.1 0) x (2 ^ M.1 0))) (2 ^ M.1 0) t9 y3).1).2)), (6, .int ((f_ltM y2 (fun x => nI (f_edM (M.1 0) x (2 ^ M.1 0))) (2 ^ M.1 0) t9 y3).2)), (7, .int (nI t9)), (0, .ref (g_ad G 38)), (1, .int (nI m)), (2, .int y2), (4, .int 1)]) (st := [.long (cond (decide (y2 ≤ (((((((f_drM y2 s9 (f_ltM y2 (fun x => nI (f_edM (M.1 0) x (2 ^ M.1 0))) (2 ^ M.1 0) t9 y3).1).1) * 1103515245) + 12345) &&& 2147483647) / 65536) - ((((((f_drM y2 s9 (f_ltM y2 (fun x => nI (f_edM (M.1 0) x (2 ^ M.1 0))) (2 ^ M.1 0) t9 y3).1).1) * 1103515245) + 12345) &&& 2147483647) / 65536) / 100 * 100))) 0 (f_sl (1 : Int64) (nI s9))), .long ((f_drM y2 s9 (f_ltM y2 (fun x => nI (f_edM (M.1 0) x (2 ^ M.1 0))) (2 ^ M.1 0) t9 y3).1).2)]) (h := (g_hp G C (g_hm G M ++ ob))) (fun key => ?_) ?_
      · skip
        rcases Bool.eq_false_or_eq_true (decide (y2 ≤ (((((((f_drM y2 s9 (f_ltM y2 (fun x => nI (f_edM (M.1 0) x (2 ^ M.1 0))) (2 ^ M.1 0) t9 y3).1).1) * 1103515245) + 12345) &&& 2147483647) / 65536) - ((((((f_drM y2 s9 (f_ltM y2 (fun x => nI (f_edM (M.1 0) x (2 ^ M.1 0))) (2 ^ M.1 0) t9 y3).1).1) * 1103515245) + 12345) &&& 2147483647) / 65536) / 100 * 100))) with c95_1 | c95_1
        · skip
          have dc95_1 := of_decide_eq_true c95_1
          refine a_icmp_ge 105 98 rfl dX12_lots_95 (by decide) (fun _ => ?_) (fun hc => absurd (of_decide_eq_true c95_1) hc)
          refine a_lconst (x := 0) 106 rfl dX12_lots_105 (by decide) ?_
          exact a_eq rfl (rfl) (by rw [c95_1]; rfl) rfl key
        · skip
          have dc95_1 := of_decide_eq_false c95_1
          refine a_icmp_ge 105 98 rfl dX12_lots_95 (by decide) (fun hc => absurd hc (of_decide_eq_false c95_1)) (fun _ => ?_)
          refine a_lconst (x := 1) 99 rfl dX12_lots_98 (by decide) ?_
          refine a_iload 1 101 rfl dX12_lots_99 rfl ?_
          refine a_lshl 102 rfl dX12_lots_101 ?_
          refine a_goto 106 dX12_lots_102 (by decide) ?_
          exact a_eq rfl (rfl) (by rw [c95_1]; rfl) rfl key
      refine a_lor 107 rfl dX12_lots_106 ?_
      refine a_lstore (lv' := [(8, .long (((f_drM y2 s9 (f_ltM y2 (fun x => nI (f_edM (M.1 0) x (2 ^ M.1 0))) (2 ^ M.1 0) t9 y3).1).2) ||| (cond (decide (y2 ≤ (((((((f_drM y2 s9 (f_ltM y2 (fun x => nI (f_edM (M.1 0) x (2 ^ M.1 0))) (2 ^ M.1 0) t9 y3).1).1) * 1103515245) + 12345) &&& 2147483647) / 65536) - ((((((f_drM y2 s9 (f_ltM y2 (fun x => nI (f_edM (M.1 0) x (2 ^ M.1 0))) (2 ^ M.1 0) t9 y3).1).1) * 1103515245) + 12345) &&& 2147483647) / 65536) / 100 * 100))) 0 (f_sl (1 : Int64) (nI s9))))), (5, .int ((((f_drM y2 s9 (f_ltM y2 (fun x => nI (f_edM (M.1 0) x (2 ^ M.1 0))) (2 ^ M.1 0) t9 y3).1).1) * 1103515245) + 12345)), (10, .int (nI s9)), (6, .int ((f_ltM y2 (fun x => nI (f_edM (M.1 0) x (2 ^ M.1 0))) (2 ^ M.1 0) t9 y3).2)), (7, .int (nI t9)), (0, .ref (g_ad G 38)), (1, .int (nI m)), (2, .int y2), (4, .int 1)]) 109 rfl dX12_lots_107 (by decide) rfl ?_
      refine a_iinc (y := nI (s9 + 1)) (lv' := [(10, .int (nI (s9 + 1))), (8, .long (((f_drM y2 s9 (f_ltM y2 (fun x => nI (f_edM (M.1 0) x (2 ^ M.1 0))) (2 ^ M.1 0) t9 y3).1).2) ||| (cond (decide (y2 ≤ (((((((f_drM y2 s9 (f_ltM y2 (fun x => nI (f_edM (M.1 0) x (2 ^ M.1 0))) (2 ^ M.1 0) t9 y3).1).1) * 1103515245) + 12345) &&& 2147483647) / 65536) - ((((((f_drM y2 s9 (f_ltM y2 (fun x => nI (f_edM (M.1 0) x (2 ^ M.1 0))) (2 ^ M.1 0) t9 y3).1).1) * 1103515245) + 12345) &&& 2147483647) / 65536) / 100 * 100))) 0 (f_sl (1 : Int64) (nI s9))))), (5, .int ((((f_drM y2 s9 (f_ltM y2 (fun x => nI (f_edM (M.1 0) x (2 ^ M.1 0))) (2 ^ M.1 0) t9 y3).1).1) * 1103515245) + 12345)), (6, .int ((f_ltM y2 (fun x => nI (f_edM (M.1 0) x (2 ^ M.1 0))) (2 ^ M.1 0) t9 y3).2)), (7, .int (nI t9)), (0, .ref (g_ad G 38)), (1, .int (nI m)), (2, .int y2), (4, .int 1)]) 2 112 rfl dX12_lots_109 rfl (nI_1 s9) (by decide) rfl ?_
      refine a_goto 58 dX12_lots_112 (by decide) ?_
      refine a_sub (lv' := [(10, .int (nI (s9 + 1))), (8, .long ((f_drM y2 (s9 + 1) (f_ltM y2 (fun x => nI (f_edM (M.1 0) x (2 ^ M.1 0))) (2 ^ M.1 0) t9 y3).1).2)), (5, .int ((f_drM y2 (s9 + 1) (f_ltM y2 (fun x => nI (f_edM (M.1 0) x (2 ^ M.1 0))) (2 ^ M.1 0) t9 y3).1).1)), (6, .int ((f_ltM y2 (fun x => nI (f_edM (M.1 0) x (2 ^ M.1 0))) (2 ^ M.1 0) t9 y3).2)), (7, .int (nI t9)), (0, .ref (g_ad G 38)), (1, .int (nI m)), (2, .int y2), (4, .int 1)]) [0, 1, 2, 3, 4, 5, 6, 7, 8] rfl ?_
      exact k_s9 trivial
    · skip
      refine a_iload 0 60 rfl dX12_lots_58 rfl ?_
      refine a_aload_n 5 61 rfl dX12_lots_60 rfl rfl ?_
      refine a_callV (as := []) (rest := [.int (nI (2 ^ M.1 0))]) (st2 := [.int (nI (2 ^ M.1 0)), .int (nI (2 ^ M.1 0))]) (u1 := 0) (v1 := 0) (u2 := 0) (v2 := 0) (r_allM hn) (⟨_, _, _, _, rfl, rfl⟩) oX12_all q_1253 q_1255 q_85 rfl (by omega) (by decide) rfl (Nat.le_of_ble_eq_true rfl) 64 rfl dX12_lots_61 rfl ?_
      refine a_icmp_ge 115 67 rfl dX12_lots_64 (by decide) (fun _ => ?_) (fun hc => absurd (nI_le (a := (2 ^ M.1 0)) (b := (2 ^ M.1 0)) (by omega) (by omega)) hc)
      refine a_iload 3 117 rfl dX12_lots_115 rfl ?_
      refine a_iload 8 119 rfl dX12_lots_117 rfl ?_
      refine a_if_ne 134 122 rfl dX12_lots_119 (by decide) (fun _ => ?_) (fun hc => absurd hc ((by decide)))
      refine a_aload_n 5 135 rfl dX12_lots_134 rfl rfl ?_
      refine a_lload 1 137 rfl dX12_lots_135 rfl ?_
      refine a_callV (as := [.long ((f_drM y2 (2 ^ M.1 0) (f_ltM y2 (fun x => nI (f_edM (M.1 0) x (2 ^ M.1 0))) (2 ^ M.1 0) t9 y3).1).2)]) (rest := [.int ((f_ltM y2 (fun x => nI (f_edM (M.1 0) x (2 ^ M.1 0))) (2 ^ M.1 0) t9 y3).2)]) (st2 := [.int (nI (f_edM (M.1 0) (f_drM y2 (2 ^ M.1 0) (f_ltM y2 (fun x => nI (f_edM (M.1 0) x (2 ^ M.1 0))) (2 ^ M.1 0) t9 y3).1).2 (2 ^ M.1 0))), .int ((f_ltM y2 (fun x => nI (f_edM (M.1 0) x (2 ^ M.1 0))) (2 ^ M.1 0) t9 y3).2)]) (u1 := 0) (v1 := 0) (u2 := 0) (v2 := 0) (r_edgesM hn hn0) (⟨_, _, _, _, rfl, rfl⟩) oX12_edges q_1330 q_1332 q_95 rfl (by omega) (by decide) rfl (Nat.le_of_ble_eq_true rfl) 140 rfl dX12_lots_137 rfl ?_
      refine a_iadd 141 rfl dX12_lots_140 ?_
      refine a_istore (lv' := [(6, .int (((f_ltM y2 (fun x => nI (f_edM (M.1 0) x (2 ^ M.1 0))) (2 ^ M.1 0) t9 y3).2) + (nI (f_edM (M.1 0) (f_drM y2 (2 ^ M.1 0) (f_ltM y2 (fun x => nI (f_edM (M.1 0) x (2 ^ M.1 0))) (2 ^ M.1 0) t9 y3).1).2 (2 ^ M.1 0))))), (10, .int (nI (2 ^ M.1 0))), (8, .long ((f_drM y2 (2 ^ M.1 0) (f_ltM y2 (fun x => nI (f_edM (M.1 0) x (2 ^ M.1 0))) (2 ^ M.1 0) t9 y3).1).2)), (5, .int ((f_drM y2 (2 ^ M.1 0) (f_ltM y2 (fun x => nI (f_edM (M.1 0) x (2 ^ M.1 0))) (2 ^ M.1 0) t9 y3).1).1)), (7, .int (nI t9)), (0, .ref (g_ad G 38)), (1, .int (nI m)), (2, .int y2), (4, .int 1)]) 143 rfl dX12_lots_141 (by decide) rfl ?_
      refine a_iinc (y := nI (t9 + 1)) (lv' := [(7, .int (nI (t9 + 1))), (6, .int (((f_ltM y2 (fun x => nI (f_edM (M.1 0) x (2 ^ M.1 0))) (2 ^ M.1 0) t9 y3).2) + (nI (f_edM (M.1 0) (f_drM y2 (2 ^ M.1 0) (f_ltM y2 (fun x => nI (f_edM (M.1 0) x (2 ^ M.1 0))) (2 ^ M.1 0) t9 y3).1).2 (2 ^ M.1 0))))), (10, .int (nI (2 ^ M.1 0))), (8, .long ((f_drM y2 (2 ^ M.1 0) (f_ltM y2 (fun x => nI (f_edM (M.1 0) x (2 ^ M.1 0))) (2 ^ M.1 0) t9 y3).1).2)), (5, .int ((f_drM y2 (2 ^ M.1 0) (f_ltM y2 (fun x => nI (f_edM (M.1 0) x (2 ^ M.1 0))) (2 ^ M.1 0) t9 y3).1).1)), (0, .ref (g_ad G 38)), (1, .int (nI m)), (2, .int y2), (4, .int 1)]) 4 146 rfl dX12_lots_143 rfl (nI_1 t9) (by decide) rfl ?_
      refine a_goto 46 dX12_lots_146 (by decide) ?_
      refine a_sub (lv' := [(7, .int (nI (t9 + 1))), (6, .int ((f_ltM y2 (fun x => nI (f_edM (M.1 0) x (2 ^ M.1 0))) (2 ^ M.1 0) (t9 + 1) y3).2)), (5, .int ((f_ltM y2 (fun x => nI (f_edM (M.1 0) x (2 ^ M.1 0))) (2 ^ M.1 0) (t9 + 1) y3).1)), (0, .ref (g_ad G 38)), (1, .int (nI m)), (2, .int y2), (4, .int 1)]) [0, 1, 4, 5, 6, 7, 8] rfl ?_
      exact k_t9 trivial
  · skip
    refine a_iload 0 48 rfl dX12_lots_46 rfl ?_
    refine a_iload_n 4 49 rfl dX12_lots_48 rfl rfl ?_
    refine a_icmp_ge 149 52 rfl dX12_lots_49 (by decide) (fun _ => ?_) (fun hc => absurd (nI_le (a := m) (b := m) (by omega) (by omega)) hc)
    refine a_iload 1 151 rfl dX12_lots_149 rfl ?_
    exact a_ireturn .int rfl rfl (rfl) (rfl) dX12_lots_151

theorem r_heM (hf : M.1 9 ≤ 80) (ha : M.1 11 < 2 ^ 31) : g_Run G mX12_here 1 0 0 [.ref (g_ad G 38)] (g_hp G C (g_hm G M ++ ob)) (some (.int (cond (decide (M.1 11 < M.1 9)) (M.2.2.2.1 7 (M.1 11)) (-1)))) (g_hp G C (g_hm G M ++ ob)) := by
  refine g_Run.of (lv := [(0, .ref (g_ad G 38))]) (by decide) (Nat.le_of_ble_eq_true rfl) rfl ?_
  refine a_aload_n 0 1 rfl dX12_here_0 rfl rfl ?_
  refine a_get 28 cl_11 f_RX12_313_11 (by decide) (rfl) rfl 4 rfl dX12_here_1 ?_
  refine a_aload_n 0 5 rfl dX12_here_4 rfl rfl ?_
  refine a_get 26 cl_11 f_RX12_310_11 (by decide) (rfl) rfl 8 rfl dX12_here_5 ?_
  rcases Nat.lt_or_ge (M.1 11) (M.1 9) with e1 | e1
  · rw [decide_eq_true e1, cond_true]
    refine a_icmp_ge 23 11 rfl dX12_here_8 (by decide) (fun hc => absurd hc (nI_ge e1 (by omega))) (fun _ => ?_)
    refine a_aload_n 0 12 rfl dX12_here_11 rfl rfl ?_
    refine a_get 24 cl_11 f_RX12_53_11 (by decide) (rfl) rfl 15 rfl dX12_here_12 ?_
    refine a_aload_n 0 16 rfl dX12_here_15 rfl rfl ?_
    refine a_get 28 cl_11 f_RX12_313_11 (by decide) (rfl) rfl 19 rfl dX12_here_16 ?_
    refine a_iald (rfl) (vp_in_nI (n := (M.1 11)) (by omega) (by omega)) 20 rfl dX12_here_19 ?_
    refine a_eq (st2 := [.int ((M.2.2.2.1 7) (M.1 11))]) rfl rfl (congrArg (fun z9 => Value.int z9 :: []) (congrArg (M.2.2.2.1 7) (g_cl (by omega)))) rfl ?_
    refine a_goto 24 dX12_here_20 (by decide) ?_
    exact a_ireturn .int rfl rfl (rfl) (rfl) dX12_here_24
  · rw [decide_eq_false (by omega), cond_false]
    refine a_icmp_ge 23 11 rfl dX12_here_8 (by decide) (fun _ => ?_) (fun hc => absurd ((nI_le e1 ha)) hc)
    refine a_iconst (x := (-1)) 24 rfl dX12_here_23 (by decide) ?_
    exact a_ireturn .int rfl rfl (rfl) (rfl) dX12_here_24
end MT1
