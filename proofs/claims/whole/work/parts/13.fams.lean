/-! Families, Changes -/
section FA1
variable {G : g_G} {h : List va_E} {a b ka kb n m9 k : Nat} {i y : Int32} {f f9 : Nat → Option Nat} {r : Option Nat}
theorem r_X4_many (hF : h[a]? = some (c_O 4 [.ref (g_ad G ka), .int y])) : g_Run G mX4_many 1 0 0 [.ref (g_ad G a)] h (some (.int y)) h := by
  refine g_Run.of (lv := [(0, .ref (g_ad G a))]) (by decide) (Nat.le_of_ble_eq_true rfl) rfl ?_
  refine a_aload_n 0 1 rfl dX4_many_0 rfl rfl ?_
  refine a_get 1 cl_4 f_RX4_17_4 (by decide) (hF) rfl 4 rfl dX4_many_1 ?_
  exact a_ireturn .int rfl rfl (rfl) (rfl) dX4_many_4
theorem r_X4_clear (hF : h[a]? = some (c_O 4 [.ref (g_ad G ka), .int y])) : g_Run G mX4_clear 1 0 0 [.ref (g_ad G a)] h none (h.set a (c_O 4 [.ref (g_ad G ka), .int 0])) := by
  refine g_Run.of (lv := [(0, .ref (g_ad G a))]) (by decide) (Nat.le_of_ble_eq_true rfl) rfl ?_
  refine a_aload_n 0 1 rfl dX4_clear_0 rfl rfl ?_
  refine a_iconst (x := 0) 2 rfl dX4_clear_1 (by decide) ?_
  refine a_put (fs' := [.ref (g_ad G ka), .int 0]) 1 cl_4 f_RX4_17_4 (by decide) (hF) rfl rfl rfl (Nat.le_of_ble_eq_true rfl) rfl 5 rfl dX4_clear_2 ?_
  exact a_return rfl (rfl) (rfl) dX4_clear_5
theorem r_X4_isFull (hF : h[a]? = some (c_O 4 [.ref (g_ad G ka), .int (nI n)])) (hR : h[ka]? = some (c_Q G 3 8 f)) (hn : n ≤ 8) : g_Run G mX4_isFull 1 0 0 [.ref (g_ad G a)] h (some (.int (if n = 8 then 1 else 0))) h := by
  refine g_Run.of (lv := [(0, .ref (g_ad G a))]) (by decide) (Nat.le_of_ble_eq_true rfl) rfl ?_
  by_cases e8 : n = 8
  · skip
    refine a_aload_n 0 1 rfl dX4_isFull_0 rfl rfl ?_
    refine a_get 1 cl_4 f_RX4_17_4 (by decide) (hF) rfl 4 rfl dX4_isFull_1 ?_
    refine a_aload_n 0 5 rfl dX4_isFull_4 rfl rfl ?_
    refine a_get 0 cl_4 f_RX4_11_4 (by decide) (hF) rfl 8 rfl dX4_isFull_5 ?_
    refine a_alen (y := 8) 3 (hR) rfl rfl 9 rfl dX4_isFull_8 ?_
    refine a_icmp_lt 16 12 rfl dX4_isFull_9 (by decide) (fun hc => absurd hc (nI_nlt (b := 8) (by omega) (by omega))) (fun _ => ?_)
    refine a_iconst (x := 1) 13 rfl dX4_isFull_12 (by decide) ?_
    refine a_goto 17 dX4_isFull_13 (by decide) ?_
    exact a_ireturn .boolean rfl rfl ((by rw [if_pos e8])) (rfl) dX4_isFull_17
  · skip
    refine a_aload_n 0 1 rfl dX4_isFull_0 rfl rfl ?_
    refine a_get 1 cl_4 f_RX4_17_4 (by decide) (hF) rfl 4 rfl dX4_isFull_1 ?_
    refine a_aload_n 0 5 rfl dX4_isFull_4 rfl rfl ?_
    refine a_get 0 cl_4 f_RX4_11_4 (by decide) (hF) rfl 8 rfl dX4_isFull_5 ?_
    refine a_alen (y := 8) 3 (hR) rfl rfl 9 rfl dX4_isFull_8 ?_
    refine a_icmp_lt 16 12 rfl dX4_isFull_9 (by decide) (fun _ => ?_) (fun hc => absurd (nI_lt (b := 8) (by omega) (by omega)) hc)
    refine a_iconst (x := 0) 17 rfl dX4_isFull_16 (by decide) ?_
    exact a_ireturn .boolean rfl rfl ((by rw [if_neg e8])) (rfl) dX4_isFull_17
theorem r_X4_at_in {j : Nat} (hF : h[a]? = some (c_O 4 [.ref (g_ad G ka), .int (nI n)])) (hR : h[ka]? = some (c_Q G 3 8 f)) (hn : n ≤ 8) (hj : j < n) : g_Run G mX4_at 1 0 0 [.ref (g_ad G a), .int (nI j)] h (some (va_rf (f j))) h := by
  refine g_Run.of (lv := [(0, .ref (g_ad G a)), (1, .int (nI j))]) (by decide) (Nat.le_of_ble_eq_true rfl) rfl ?_
  refine a_iload_n 1 1 rfl dX4_at_0 rfl rfl ?_
  refine a_if_lt 30 4 rfl dX4_at_1 (by decide) (fun hc => absurd hc (nI_pos (by omega))) (fun _ => ?_)
  refine a_iload_n 1 5 rfl dX4_at_4 rfl rfl ?_
  refine a_aload_n 0 6 rfl dX4_at_5 rfl rfl ?_
  refine a_get 1 cl_4 f_RX4_17_4 (by decide) (hF) rfl 9 rfl dX4_at_6 ?_
  refine a_icmp_ge 30 12 rfl dX4_at_9 (by decide) (fun hc => absurd hc (nI_ge hj (by omega))) (fun _ => ?_)
  refine a_iload_n 1 13 rfl dX4_at_12 rfl rfl ?_
  refine a_aload_n 0 14 rfl dX4_at_13 rfl rfl ?_
  refine a_get 0 cl_4 f_RX4_11_4 (by decide) (hF) rfl 17 rfl dX4_at_14 ?_
  refine a_alen (y := 8) 3 (hR) rfl rfl 18 rfl dX4_at_17 ?_
  refine a_icmp_ge 30 21 rfl dX4_at_18 (by decide) (fun hc => absurd hc (nI_ge (b := 8) (by omega) (by omega))) (fun _ => ?_)
  refine a_aload_n 0 22 rfl dX4_at_21 rfl rfl ?_
  refine a_get 0 cl_4 f_RX4_11_4 (by decide) (hF) rfl 25 rfl dX4_at_22 ?_
  refine a_iload_n 1 26 rfl dX4_at_25 rfl rfl ?_
  refine a_ald3 (hR) (vp_in_nI (by omega) (by omega)) 27 rfl dX4_at_26 ?_
  refine a_goto 31 dX4_at_27 (by decide) ?_
  exact a_areturn rfl (Or.inl ⟨_, rfl⟩) (va_rf_or _) ((by rw [g_cl (by omega)])) (rfl) dX4_at_31
theorem r_X4_at_ref {j : Nat} (hF : h[a]? = some (c_O 4 [.ref (g_ad G ka), .int (nI n)])) (hR : h[ka]? = some (c_Q G 3 8 f)) (hn : n ≤ 8) (hj : j < n) (hk : f j = some (g_ad G k)) : g_Run G mX4_at 1 0 0 [.ref (g_ad G a), .int (nI j)] h (some (.ref (g_ad G k))) h := by
  have w9 := r_X4_at_in hF hR hn hj
  rw [hk] at w9
  exact w9
theorem r_X4_at_out (hF : h[a]? = some (c_O 4 [.ref (g_ad G ka), .int (nI n)])) (hn : n ≤ 8) (hi : ¬ vp_in i n) : g_Run G mX4_at 1 0 0 [.ref (g_ad G a), .int i] h (some .null) h := by
  refine g_Run.of (lv := [(0, .ref (g_ad G a)), (1, .int i)]) (by decide) (Nat.le_of_ble_eq_true rfl) rfl ?_
  by_cases c0 : i < 0
  · skip
    refine a_iload_n 1 1 rfl dX4_at_0 rfl rfl ?_
    refine a_if_lt 30 4 rfl dX4_at_1 (by decide) (fun _ => ?_) (fun hc => absurd (c0) hc)
    refine a_null 31 rfl dX4_at_30 ?_
    exact a_areturn rfl (Or.inl ⟨_, rfl⟩) (Or.inl rfl) (rfl) (rfl) dX4_at_31
  · skip
    refine a_iload_n 1 1 rfl dX4_at_0 rfl rfl ?_
    refine a_if_lt 30 4 rfl dX4_at_1 (by decide) (fun hc => absurd hc (c0)) (fun _ => ?_)
    refine a_iload_n 1 5 rfl dX4_at_4 rfl rfl ?_
    refine a_aload_n 0 6 rfl dX4_at_5 rfl rfl ?_
    refine a_get 1 cl_4 f_RX4_17_4 (by decide) (hF) rfl 9 rfl dX4_at_6 ?_
    refine a_icmp_ge 30 12 rfl dX4_at_9 (by decide) (fun _ => ?_) (fun hc => absurd (g_out_ge hi c0 (by omega)) hc)
    refine a_null 31 rfl dX4_at_30 ?_
    exact a_areturn rfl (Or.inl ⟨_, rfl⟩) (Or.inl rfl) (rfl) (rfl) dX4_at_31
theorem r_X4_add {fs : List Value} (hF : h[a]? = some (c_O 4 [.ref (g_ad G ka), .int (nI n)])) (hR : h[ka]? = some (c_Q G 3 8 f)) (hO : h[k]? = some (c_O 5 fs)) (hne : a ≠ ka) (hn : n < 8) : g_Run G mX4_add 1 0 0 [.ref (g_ad G a), .ref (g_ad G k)] h (some (.int (nI n))) ((h.set ka (c_Q G 3 8 (va_up f n (some (g_ad G k))))).set a (c_O 4 [.ref (g_ad G ka), .int (nI (n + 1))])) := by
  refine g_Run.of (lv := [(0, .ref (g_ad G a)), (1, .ref (g_ad G k))]) (by decide) (Nat.le_of_ble_eq_true rfl) rfl ?_
  refine a_aload_n 0 1 rfl dX4_add_0 rfl rfl ?_
  refine a_get 1 cl_4 f_RX4_17_4 (by decide) (hF) rfl 4 rfl dX4_add_1 ?_
  refine a_if_lt 19 7 rfl dX4_add_4 (by decide) (fun hc => absurd hc (nI_pos (by omega))) (fun _ => ?_)
  refine a_aload_n 0 8 rfl dX4_add_7 rfl rfl ?_
  refine a_get 1 cl_4 f_RX4_17_4 (by decide) (hF) rfl 11 rfl dX4_add_8 ?_
  refine a_aload_n 0 12 rfl dX4_add_11 rfl rfl ?_
  refine a_get 0 cl_4 f_RX4_11_4 (by decide) (hF) rfl 15 rfl dX4_add_12 ?_
  refine a_alen (y := 8) 3 (hR) rfl rfl 16 rfl dX4_add_15 ?_
  refine a_icmp_lt 22 19 rfl dX4_add_16 (by decide) (fun _ => ?_) (fun hc => absurd (nI_lt (b := 8) (by omega) (by omega)) hc)
  refine a_aload_n 0 23 rfl dX4_add_22 rfl rfl ?_
  refine a_get 0 cl_4 f_RX4_11_4 (by decide) (hF) rfl 26 rfl dX4_add_23 ?_
  refine a_aload_n 0 27 rfl dX4_add_26 rfl rfl ?_
  refine a_get 1 cl_4 f_RX4_17_4 (by decide) (hF) rfl 30 rfl dX4_add_27 ?_
  refine a_aload_n 1 31 rfl dX4_add_30 rfl rfl ?_
  refine a_ast3 (hR) (hO) (vp_in_nI (by omega) (by omega)) 32 rfl dX4_add_31 ?_
  have hF2 := g_set_ne (c := c_Q G 3 8 (va_up f (nI n).toNatClampNeg (some (g_ad G k)))) (Ne.symm hne) hF
  refine a_aload_n 0 33 rfl dX4_add_32 rfl rfl ?_
  refine a_dup 34 rfl dX4_add_33 rfl ?_
  refine a_get 1 cl_4 f_RX4_17_4 (by decide) (hF2) rfl 37 rfl dX4_add_34 ?_
  refine a_iconst (x := 1) 38 rfl dX4_add_37 (by decide) ?_
  refine a_iadd 39 rfl dX4_add_38 ?_
  refine a_put (fs' := [.ref (g_ad G ka), .int ((nI n) + 1)]) 1 cl_4 f_RX4_17_4 (by decide) (hF2) rfl rfl rfl (Nat.le_of_ble_eq_true rfl) rfl 42 rfl dX4_add_39 ?_
  refine a_aload_n 0 43 rfl dX4_add_42 rfl rfl ?_
  refine a_get 1 cl_4 f_RX4_17_4 (by decide) (g_set_eq (hF2)) rfl 46 rfl dX4_add_43 ?_
  refine a_iconst (x := 1) 47 rfl dX4_add_46 (by decide) ?_
  refine a_isub 48 rfl dX4_add_47 ?_
  exact a_ireturn .int rfl rfl ((by rw [nI_1, show (1 : Int32) = nI 1 from rfl, pk_sub (by omega)]; rfl)) ((by rw [g_cl (by omega), ← nI_1 n])) dX4_add_48
theorem r_X4_removeLast (hF : h[a]? = some (c_O 4 [.ref (g_ad G ka), .int (nI (n + 1))])) (hn : n < 8) : g_Run G mX4_removeLast 1 0 0 [.ref (g_ad G a)] h (some (.int 1)) (h.set a (c_O 4 [.ref (g_ad G ka), .int (nI n)])) := by
  refine g_Run.of (lv := [(0, .ref (g_ad G a))]) (by decide) (Nat.le_of_ble_eq_true rfl) rfl ?_
  refine a_aload_n 0 1 rfl dX4_removeLast_0 rfl rfl ?_
  refine a_get 1 cl_4 f_RX4_17_4 (by decide) (hF) rfl 4 rfl dX4_removeLast_1 ?_
  refine a_if_gt 9 7 rfl dX4_removeLast_4 (by decide) (fun _ => ?_) (fun hc => absurd ((by rw [show (0 : Int32) = nI 0 from rfl]; exact nI_lt (by omega) (by omega))) hc)
  refine a_aload_n 0 10 rfl dX4_removeLast_9 rfl rfl ?_
  refine a_dup 11 rfl dX4_removeLast_10 rfl ?_
  refine a_get 1 cl_4 f_RX4_17_4 (by decide) (hF) rfl 14 rfl dX4_removeLast_11 ?_
  refine a_iconst (x := 1) 15 rfl dX4_removeLast_14 (by decide) ?_
  refine a_isub 16 rfl dX4_removeLast_15 ?_
  refine a_put (fs' := [.ref (g_ad G ka), .int ((nI (n + 1)) - 1)]) 1 cl_4 f_RX4_17_4 (by decide) (hF) rfl rfl rfl (Nat.le_of_ble_eq_true rfl) rfl 19 rfl dX4_removeLast_16 ?_
  refine a_iconst (x := 1) 20 rfl dX4_removeLast_19 (by decide) ?_
  exact a_ireturn .boolean rfl rfl (rfl) ((by rw [show (1 : Int32) = nI 1 from rfl, pk_sub (by omega)]; rfl)) dX4_removeLast_20
theorem r_X4_removeLast0 (hF : h[a]? = some (c_O 4 [.ref (g_ad G ka), .int 0])) : g_Run G mX4_removeLast 1 0 0 [.ref (g_ad G a)] h (some (.int 0)) h := by
  refine g_Run.of (lv := [(0, .ref (g_ad G a))]) (by decide) (Nat.le_of_ble_eq_true rfl) rfl ?_
  refine a_aload_n 0 1 rfl dX4_removeLast_0 rfl rfl ?_
  refine a_get 1 cl_4 f_RX4_17_4 (by decide) (hF) rfl 4 rfl dX4_removeLast_1 ?_
  refine a_if_gt 9 7 rfl dX4_removeLast_4 (by decide) (fun hc => absurd hc ((by decide))) (fun _ => ?_)
  refine a_iconst (x := 0) 8 rfl dX4_removeLast_7 (by decide) ?_
  exact a_ireturn .boolean rfl rfl (rfl) (rfl) dX4_removeLast_8
theorem r_X4_replace {j : Nat} {fs : List Value} (hF : h[a]? = some (c_O 4 [.ref (g_ad G ka), .int (nI n)])) (hR : h[ka]? = some (c_Q G 3 8 f)) (hO : h[k]? = some (c_O 5 fs)) (hn : n ≤ 8) (hj : j < n) : g_Run G mX4_replace 1 0 0 [.ref (g_ad G a), .int (nI j), .ref (g_ad G k)] h none (h.set ka (c_Q G 3 8 (va_up f j (some (g_ad G k))))) := by
  refine g_Run.of (lv := [(0, .ref (g_ad G a)), (1, .int (nI j)), (2, .ref (g_ad G k))]) (by decide) (Nat.le_of_ble_eq_true rfl) rfl ?_
  refine a_iload_n 1 1 rfl dX4_replace_0 rfl rfl ?_
  refine a_if_lt 28 4 rfl dX4_replace_1 (by decide) (fun hc => absurd hc (nI_pos (by omega))) (fun _ => ?_)
  refine a_iload_n 1 5 rfl dX4_replace_4 rfl rfl ?_
  refine a_aload_n 0 6 rfl dX4_replace_5 rfl rfl ?_
  refine a_get 1 cl_4 f_RX4_17_4 (by decide) (hF) rfl 9 rfl dX4_replace_6 ?_
  refine a_icmp_ge 28 12 rfl dX4_replace_9 (by decide) (fun hc => absurd hc (nI_ge hj (by omega))) (fun _ => ?_)
  refine a_iload_n 1 13 rfl dX4_replace_12 rfl rfl ?_
  refine a_aload_n 0 14 rfl dX4_replace_13 rfl rfl ?_
  refine a_get 0 cl_4 f_RX4_11_4 (by decide) (hF) rfl 17 rfl dX4_replace_14 ?_
  refine a_alen (y := 8) 3 (hR) rfl rfl 18 rfl dX4_replace_17 ?_
  refine a_icmp_ge 28 21 rfl dX4_replace_18 (by decide) (fun hc => absurd hc (nI_ge (b := 8) (by omega) (by omega))) (fun _ => ?_)
  refine a_aload_n 0 22 rfl dX4_replace_21 rfl rfl ?_
  refine a_get 0 cl_4 f_RX4_11_4 (by decide) (hF) rfl 25 rfl dX4_replace_22 ?_
  refine a_iload_n 1 26 rfl dX4_replace_25 rfl rfl ?_
  refine a_aload_n 2 27 rfl dX4_replace_26 rfl rfl ?_
  refine a_ast3 (hR) (hO) (vp_in_nI (by omega) (by omega)) 28 rfl dX4_replace_27 ?_
  exact a_return rfl (rfl) ((by rw [g_cl (by omega)])) dX4_replace_28
theorem r_X4_becomeLike {y2 : Int32} (hF : h[a]? = some (c_O 4 [.ref (g_ad G ka), .int y])) (hR : h[ka]? = some (c_Q G 3 8 f)) (hE : h[b]? = some (c_O 4 [.ref (g_ad G kb), .int y2])) (hQ : h[kb]? = some (c_Q G 3 8 f9)) (hfam : ∀ j, j < 8 → g_fam G h (f9 j)) (h1 : ka ≠ kb) (h2 : ka ≠ a) (h3 : ka ≠ b) (h4 : a ≠ b) (h5 : ∀ fs, h[ka]? ≠ some (c_O 5 fs)) : ∃ f2 : Nat → Option Nat, (∀ j, j < 8 → f2 j = f9 j) ∧ g_Run G mX4_becomeLike 1 0 0 [.ref (g_ad G a), .ref (g_ad G b)] h none ((h.set ka (c_Q G 3 8 f2)).set a (c_O 4 [.ref (g_ad G ka), .int y2])) := by
  have key : ∀ jj ii : Nat, ii + jj = 8 → ∀ f1 : Nat → Option Nat, (∀ q7, q7 < ii → f1 q7 = f9 q7) → ∃ f2 : Nat → Option Nat, (∀ q7, q7 < 8 → f2 q7 = f9 q7) ∧ g_A G mX4_becomeLike 1 0 0 2 [(2, .int (nI ii)), (0, .ref (g_ad G a)), (1, .ref (g_ad G b))] [] (h.set ka (c_Q G 3 8 f1)) none ((h.set ka (c_Q G 3 8 f2)).set a (c_O 4 [.ref (g_ad G ka), .int y2])) := by
    intro jj
    induction jj with
    | zero =>
      intro ii hii f1 hf1
      refine ⟨f1, fun q7 hq7 => hf1 q7 (by omega), ?_⟩
      refine a_iload_n 0 3 rfl dX4_becomeLike_2 rfl rfl ?_
      refine a_aload_n 1 4 rfl dX4_becomeLike_3 rfl rfl ?_
      refine a_get 0 cl_4 f_RX4_11_4 (by decide) (g_set_ne h2 hF) rfl 7 rfl dX4_becomeLike_4 ?_
      refine a_alen (y := 8) 3 (g_set_eq hR) rfl rfl 8 rfl dX4_becomeLike_7 ?_
      refine a_icmp_ge 38 11 rfl dX4_becomeLike_8 (by decide) (fun _ => ?_) (fun hc => absurd ((nI_le (a := 8) (by omega) (by omega))) hc)
      refine a_aload_n 1 39 rfl dX4_becomeLike_38 rfl rfl ?_
      refine a_aload_n 2 40 rfl dX4_becomeLike_39 rfl rfl ?_
      refine a_get 1 cl_4 f_RX4_17_4 (by decide) (g_set_ne h3 hE) rfl 43 rfl dX4_becomeLike_40 ?_
      refine a_put (fs' := [.ref (g_ad G ka), .int y2]) 1 cl_4 f_RX4_17_4 (by decide) (g_set_ne h2 hF) rfl rfl rfl (Nat.le_of_ble_eq_true rfl) rfl 46 rfl dX4_becomeLike_43 ?_
      exact a_return rfl (rfl) (rfl) dX4_becomeLike_46
    | succ jj ih =>
      intro ii hii f1 hf1
      obtain ⟨f2, hf2, w⟩ := ih (ii + 1) (by omega) (va_up f1 ii (f9 ii)) (fun q7 hq7 => by
        by_cases e7 : q7 = ii
        · rw [e7]; exact va_up_self _ _ _
        · rw [va_up_ne _ _ e7]; exact hf1 q7 (by omega))
      refine ⟨f2, hf2, ?_⟩
      have hfam2 : g_fam G (h.set ka (c_Q G 3 8 f1)) (f9 (nI ii).toNatClampNeg) := by
        rw [g_cl (by omega)]
        intro x7 hx7
        obtain ⟨o7, fs7, e7, ho7⟩ := hfam ii (by omega) x7 hx7
        exact ⟨o7, fs7, e7, g_set_ne (fun e8 => h5 fs7 (e8 ▸ ho7)) ho7⟩
      refine a_iload_n 0 3 rfl dX4_becomeLike_2 rfl rfl ?_
      refine a_aload_n 1 4 rfl dX4_becomeLike_3 rfl rfl ?_
      refine a_get 0 cl_4 f_RX4_11_4 (by decide) (g_set_ne h2 hF) rfl 7 rfl dX4_becomeLike_4 ?_
      refine a_alen (y := 8) 3 (g_set_eq hR) rfl rfl 8 rfl dX4_becomeLike_7 ?_
      refine a_icmp_ge 38 11 rfl dX4_becomeLike_8 (by decide) (fun hc => absurd hc (nI_ge (b := 8) (by omega) (by omega))) (fun _ => ?_)
      refine a_iload_n 0 12 rfl dX4_becomeLike_11 rfl rfl ?_
      refine a_aload_n 2 13 rfl dX4_becomeLike_12 rfl rfl ?_
      refine a_get 0 cl_4 f_RX4_11_4 (by decide) (g_set_ne h3 hE) rfl 16 rfl dX4_becomeLike_13 ?_
      refine a_alen (y := 8) 3 (g_set_ne h1 hQ) rfl rfl 17 rfl dX4_becomeLike_16 ?_
      refine a_icmp_ge 38 20 rfl dX4_becomeLike_17 (by decide) (fun hc => absurd hc (nI_ge (b := 8) (by omega) (by omega))) (fun _ => ?_)
      refine a_aload_n 1 21 rfl dX4_becomeLike_20 rfl rfl ?_
      refine a_get 0 cl_4 f_RX4_11_4 (by decide) (g_set_ne h2 hF) rfl 24 rfl dX4_becomeLike_21 ?_
      refine a_iload_n 0 25 rfl dX4_becomeLike_24 rfl rfl ?_
      refine a_aload_n 2 26 rfl dX4_becomeLike_25 rfl rfl ?_
      refine a_get 0 cl_4 f_RX4_11_4 (by decide) (g_set_ne h3 hE) rfl 29 rfl dX4_becomeLike_26 ?_
      refine a_iload_n 0 30 rfl dX4_becomeLike_29 rfl rfl ?_
      refine a_ald3 (g_set_ne h1 hQ) (vp_in_nI (by omega) (by omega)) 31 rfl dX4_becomeLike_30 ?_
      refine a_ast3R (g_set_eq hR) (hfam2) (vp_in_nI (by omega) (by omega)) 32 rfl dX4_becomeLike_31 ?_
      refine a_iinc (y := nI (ii + 1)) (lv' := [(2, .int (nI (ii + 1))), (0, .ref (g_ad G a)), (1, .ref (g_ad G b))]) 0 35 rfl dX4_becomeLike_32 rfl (nI_1 ii) (by decide) rfl ?_
      refine a_goto 2 dX4_becomeLike_35 (by decide) ?_
      refine a_eq rfl rfl rfl ?_ w
      rw [List.set_set, g_cl (by omega)]
  obtain ⟨f2, hf2, w⟩ := key 8 0 rfl f (fun q7 hq7 => absurd hq7 (Nat.not_lt_zero q7))
  refine ⟨f2, hf2, ?_⟩
  refine g_Run.of (lv := [(0, .ref (g_ad G a)), (1, .ref (g_ad G b))]) (by decide) (Nat.le_of_ble_eq_true rfl) rfl ?_
  refine a_iconst (x := 0) 1 rfl dX4_becomeLike_0 (by decide) ?_
  refine a_istore_n (lv' := [(2, .int 0), (0, .ref (g_ad G a)), (1, .ref (g_ad G b))]) 2 rfl dX4_becomeLike_1 rfl (by decide) rfl ?_
  refine a_eq rfl rfl rfl ?_ w
  rw [g_set_self hR]
theorem r_X2_undoable {v0 v1 v2 : Value} {y2 : Int32} (hF : h[a]? = some (c_O 2 [v0, v1, v2, .int y, .int y2])) : g_Run G mX2_undoable 1 0 0 [.ref (g_ad G a)] h (some (.int y)) h := by
  refine g_Run.of (lv := [(0, .ref (g_ad G a))]) (by decide) (Nat.le_of_ble_eq_true rfl) rfl ?_
  refine a_aload_n 0 1 rfl dX2_undoable_0 rfl rfl ?_
  refine a_get 3 cl_2 f_RX2_24_2 (by decide) hF rfl 4 rfl dX2_undoable_1 ?_
  exact a_ireturn .int rfl rfl rfl rfl dX2_undoable_4
theorem r_X2_redoable {v0 v1 v2 : Value} {y2 : Int32} (hF : h[a]? = some (c_O 2 [v0, v1, v2, .int y, .int y2])) : g_Run G mX2_redoable 1 0 0 [.ref (g_ad G a)] h (some (.int (y2 - y))) h := by
  refine g_Run.of (lv := [(0, .ref (g_ad G a))]) (by decide) (Nat.le_of_ble_eq_true rfl) rfl ?_
  refine a_aload_n 0 1 rfl dX2_redoable_0 rfl rfl ?_
  refine a_get 4 cl_2 f_RX2_28_2 (by decide) hF rfl 4 rfl dX2_redoable_1 ?_
  refine a_aload_n 0 5 rfl dX2_redoable_4 rfl rfl ?_
  refine a_get 3 cl_2 f_RX2_24_2 (by decide) hF rfl 8 rfl dX2_redoable_5 ?_
  refine a_isub 9 rfl dX2_redoable_8 ?_
  exact a_ireturn .int rfl rfl rfl rfl dX2_redoable_9
theorem r_X2_forget {k0 k1 k2 : Nat} {y2 : Int32} (hF : h[a]? = some (c_O 2 [.ref (g_ad G k0), .ref (g_ad G k1), .ref (g_ad G k2), .int y, .int y2])) : g_Run G mX2_forget 1 0 0 [.ref (g_ad G a)] h none (h.set a (c_O 2 [.ref (g_ad G k0), .ref (g_ad G k1), .ref (g_ad G k2), .int 0, .int 0])) := by
  refine g_Run.of (lv := [(0, .ref (g_ad G a))]) (by decide) (Nat.le_of_ble_eq_true rfl) rfl ?_
  refine a_aload_n 0 1 rfl dX2_forget_0 rfl rfl ?_
  refine a_iconst (x := 0) 2 rfl dX2_forget_1 (by decide) ?_
  refine a_put (fs' := [.ref (g_ad G k0), .ref (g_ad G k1), .ref (g_ad G k2), .int 0, .int y2]) 3 cl_2 f_RX2_24_2 (by decide) (hF) rfl rfl rfl (Nat.le_of_ble_eq_true rfl) rfl 5 rfl dX2_forget_2 ?_
  refine a_aload_n 0 6 rfl dX2_forget_5 rfl rfl ?_
  refine a_iconst (x := 0) 7 rfl dX2_forget_6 (by decide) ?_
  refine a_put (fs' := [.ref (g_ad G k0), .ref (g_ad G k1), .ref (g_ad G k2), .int 0, .int 0]) 4 cl_2 f_RX2_28_2 (by decide) (g_set_eq (hF)) rfl rfl rfl (Nat.le_of_ble_eq_true rfl) rfl 10 rfl dX2_forget_7 ?_
  exact a_return rfl (rfl) ((by rw [List.set_set])) dX2_forget_10
end FA1
