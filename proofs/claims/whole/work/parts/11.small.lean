/-! Family, Text, Numbers: their methods -/
theorem g_out_ge {x : Int32} {n : Nat} (hi : ¬ vp_in x n) (h0 : ¬ x < 0) (hn : n < 2 ^ 31) : nI n ≤ x := by
  obtain ⟨j, hj, rfl⟩ := nI_of h0
  rcases Nat.lt_or_ge j n with q | q
  · exact absurd (vp_in_nI q hn) hi
  · exact nI_le q hj
theorem g_cl {j : Nat} (h : j < 2 ^ 31) : (nI j).toNatClampNeg = j := nI_clamp h
section SM1
variable {G : g_G} {h : List va_E} {a b ka kb n : Nat} {i : Int32} {kd fg kd2 fg2 : Int32} {td td2 x : Int64}
theorem r_X5_init (hF : h[a]? = some (.inr (5, [.int 0, .int 0, .long 0]))) : g_Run G mX5_init 1 0 0 [.ref (g_ad G a), .int kd, .int fg, .long td] h none (h.set a (.inr (5, [.int kd, .int fg, .long td]))) := by
  refine g_Run.of (lv := [(0, .ref (g_ad G a)), (1, .int kd), (2, .int fg), (3, .long td)]) (by decide) (Nat.le_of_ble_eq_true rfl) rfl ?_
  refine a_aload_n 0 1 rfl dX5_init_0 rfl rfl ?_
  refine a_objInit q_407 q_143 q_144 (Nat.le_of_ble_eq_true rfl) (by decide) 4 rfl dX5_init_1 ?_
  refine a_aload_n 0 5 rfl dX5_init_4 rfl rfl ?_
  refine a_iload_n 1 6 rfl dX5_init_5 rfl rfl ?_
  refine a_putF (fs' := [.int kd, .int 0, .long 0]) 0 cl_5 q_408 (by decide) (hF) rfl rfl rfl rfl rfl (Nat.le_of_ble_eq_true rfl) rfl 9 rfl dX5_init_6 ?_
  refine a_aload_n 0 10 rfl dX5_init_9 rfl rfl ?_
  refine a_iload_n 2 11 rfl dX5_init_10 rfl rfl ?_
  refine a_putF (fs' := [.int kd, .int fg, .long 0]) 1 cl_5 q_412 (by decide) (g_set_eq (hF)) rfl rfl rfl rfl rfl (Nat.le_of_ble_eq_true rfl) rfl 14 rfl dX5_init_11 ?_
  refine a_aload_n 0 15 rfl dX5_init_14 rfl rfl ?_
  refine a_lload_n 3 16 rfl dX5_init_15 rfl rfl ?_
  refine a_putF (fs' := [.int kd, .int fg, .long td]) 2 cl_5 q_416 (by decide) (g_set_eq (g_set_eq (hF))) rfl rfl rfl rfl rfl (Nat.le_of_ble_eq_true rfl) rfl 19 rfl dX5_init_16 ?_
  exact a_return rfl (rfl) ((by rw [List.set_set, List.set_set])) dX5_init_19
theorem r_X5_kindAbove {k : Nat} (hk : k < 6) : g_Run G mX5_kindAbove 1 0 0 [.int (nI k)] h (some (.int (if k = 4 then 3 else if k = 5 then 2 else 0))) h := by
  refine g_Run.of (lv := [(0, .int (nI k))]) (by decide) (Nat.le_of_ble_eq_true rfl) rfl ?_
  refine a_iload_n 0 1 rfl dX5_kindAbove_0 rfl rfl ?_
  match k, hk with
  | 4, _ =>
    refine a_lookup 28 dX5_kindAbove_1 (by decide) (by decide) (by decide) ?_
    refine a_iconst (x := 3) 29 rfl dX5_kindAbove_28 (by decide) ?_
    exact a_ireturn .int rfl rfl (rfl) (rfl) dX5_kindAbove_29
  | 5, _ =>
    refine a_lookup 30 dX5_kindAbove_1 (by decide) (by decide) (by decide) ?_
    refine a_iconst (x := 2) 31 rfl dX5_kindAbove_30 (by decide) ?_
    exact a_ireturn .int rfl rfl (rfl) (rfl) dX5_kindAbove_31
  | 0, _ =>
    refine a_lookup 32 dX5_kindAbove_1 (by decide) (by decide) (by decide) ?_
    refine a_iconst (x := 0) 33 rfl dX5_kindAbove_32 (by decide) ?_
    exact a_ireturn .int rfl rfl (rfl) (rfl) dX5_kindAbove_33
  | 1, _ =>
    refine a_lookup 32 dX5_kindAbove_1 (by decide) (by decide) (by decide) ?_
    refine a_iconst (x := 0) 33 rfl dX5_kindAbove_32 (by decide) ?_
    exact a_ireturn .int rfl rfl (rfl) (rfl) dX5_kindAbove_33
  | 2, _ =>
    refine a_lookup 32 dX5_kindAbove_1 (by decide) (by decide) (by decide) ?_
    refine a_iconst (x := 0) 33 rfl dX5_kindAbove_32 (by decide) ?_
    exact a_ireturn .int rfl rfl (rfl) (rfl) dX5_kindAbove_33
  | 3, _ =>
    refine a_lookup 32 dX5_kindAbove_1 (by decide) (by decide) (by decide) ?_
    refine a_iconst (x := 0) 33 rfl dX5_kindAbove_32 (by decide) ?_
    exact a_ireturn .int rfl rfl (rfl) (rfl) dX5_kindAbove_33
theorem r_X5_isLikeN : g_Run G mX5_isLike 1 0 0 [.ref (g_ad G a), .null] h (some (.int 0)) h := by
  refine g_Run.of (lv := [(0, .ref (g_ad G a)), (1, .null)]) (by decide) (Nat.le_of_ble_eq_true rfl) rfl ?_
  refine a_aload_nN 1 1 rfl dX5_isLike_0 rfl rfl ?_
  refine a_ifnullN 42 dX5_isLike_1 (by decide) ?_
  refine a_iconst (x := 0) 43 rfl dX5_isLike_42 (by decide) ?_
  exact a_ireturn .boolean rfl rfl (rfl) (rfl) dX5_isLike_43
theorem g_cmp_ne {x y : Int64} : ¬ lg_cmp x y = 0 ↔ ¬ x = y := by
  unfold lg_cmp
  by_cases h1 : y < x
  · simp [h1]
    intro e
    subst e
    exact absurd h1 (Int64.lt_irrefl _)
  · by_cases h2 : x = y
    · simp [h1, h2]
    · simp [h1, h2]
theorem r_X5_isLike (hF : h[a]? = some (.inr (5, [.int kd, .int fg, .long td]))) (hE : h[b]? = some (.inr (5, [.int kd2, .int fg2, .long td2]))) : g_Run G mX5_isLike 1 0 0 [.ref (g_ad G a), .ref (g_ad G b)] h (some (.int (if kd = kd2 ∧ fg = fg2 ∧ td = td2 then 1 else 0))) h := by
  refine g_Run.of (lv := [(0, .ref (g_ad G a)), (1, .ref (g_ad G b))]) (by decide) (Nat.le_of_ble_eq_true rfl) rfl ?_
  refine a_aload_n 1 1 rfl dX5_isLike_0 rfl rfl ?_
  refine a_ifnull 4 rfl dX5_isLike_1 ?_
  refine a_aload_n 0 5 rfl dX5_isLike_4 rfl rfl ?_
  refine a_get 0 cl_5 f_RX5_9_5 (by decide) (hF) rfl 8 rfl dX5_isLike_5 ?_
  refine a_aload_n 1 9 rfl dX5_isLike_8 rfl rfl ?_
  refine a_get 0 cl_5 f_RX5_9_5 (by decide) (hE) rfl 12 rfl dX5_isLike_9 ?_
  refine a_icmp_ne 42 15 rfl dX5_isLike_12 (by decide) (fun c12 => ?_) (fun c12 => ?_)
  · skip
    refine a_iconst (x := 0) 43 rfl dX5_isLike_42 (by decide) ?_
    exact a_ireturn .boolean rfl rfl ((by rw [if_neg (fun q => c12 q.1)])) (rfl) dX5_isLike_43
  · skip
    refine a_aload_n 0 16 rfl dX5_isLike_15 rfl rfl ?_
    refine a_get 1 cl_5 f_RX5_15_5 (by decide) (hF) rfl 19 rfl dX5_isLike_16 ?_
    refine a_aload_n 1 20 rfl dX5_isLike_19 rfl rfl ?_
    refine a_get 1 cl_5 f_RX5_15_5 (by decide) (hE) rfl 23 rfl dX5_isLike_20 ?_
    refine a_icmp_ne 42 26 rfl dX5_isLike_23 (by decide) (fun c23 => ?_) (fun c23 => ?_)
    · skip
      refine a_iconst (x := 0) 43 rfl dX5_isLike_42 (by decide) ?_
      exact a_ireturn .boolean rfl rfl ((by rw [if_neg (fun q => c23 q.2.1)])) (rfl) dX5_isLike_43
    · skip
      refine a_aload_n 0 27 rfl dX5_isLike_26 rfl rfl ?_
      refine a_get 2 cl_5 f_RX5_18_5 (by decide) (hF) rfl 30 rfl dX5_isLike_27 ?_
      refine a_aload_n 1 31 rfl dX5_isLike_30 rfl rfl ?_
      refine a_get 2 cl_5 f_RX5_18_5 (by decide) (hE) rfl 34 rfl dX5_isLike_31 ?_
      refine a_lcmp 35 rfl dX5_isLike_34 ?_
      refine a_if_ne 42 38 rfl dX5_isLike_35 (by decide) (fun c35 => ?_) (fun c35 => ?_)
      · skip
        refine a_iconst (x := 0) 43 rfl dX5_isLike_42 (by decide) ?_
        exact a_ireturn .boolean rfl rfl ((by rw [if_neg (fun q => g_cmp_ne.mp c35 q.2.2)])) (rfl) dX5_isLike_43
      · skip
        refine a_iconst (x := 1) 39 rfl dX5_isLike_38 (by decide) ?_
        refine a_goto 43 dX5_isLike_39 (by decide) ?_
        exact a_ireturn .boolean rfl rfl ((by rw [if_pos ⟨c12, c23, Decidable.not_not.mp (fun q => (g_cmp_ne.mpr q) c35)⟩])) (rfl) dX5_isLike_43
-- Text
theorem r_X10_init (m : Nat) (hm0 : 0 < m) (hm : m ≤ 1000) (hT : h[a]? = some (.inr (9, [.null, .int 0]))) : g_Run G mX10_init 1 1 m [.ref (g_ad G a), .int (nI m)] h none ((h ++ [.inl (g_ci G 2, m, .inl (fun _ => 0))]).set a (.inr (9, [.ref (g_ad G h.length), .int 0]))) := by
  have hT2 : (h ++ [.inl (g_ci G 2, m, .inl (fun _ => 0))])[a]? = some (.inr (9, [.null, .int 0])) := by rw [List.getElem?_append_left (g_lt hT)]; exact hT
  refine g_Run.of (lv := [(0, .ref (g_ad G a)), (1, .int (nI m))]) (by decide) (Nat.le_of_ble_eq_true rfl) rfl ?_
  refine a_aload_n 0 1 rfl dX10_init_0 rfl rfl ?_
  refine a_objInit q_257 q_143 q_144 (Nat.le_of_ble_eq_true rfl) (by decide) 4 rfl dX10_init_1 ?_
  refine a_aload_n 0 5 rfl dX10_init_4 rfl rfl ?_
  refine a_iload_n 1 6 rfl dX10_init_5 rfl rfl ?_
  refine a_if_le 13 9 rfl dX10_init_6 (by decide) (fun hc => absurd hc (nI_nle hm0 (by omega))) (fun _ => ?_)
  refine a_iload_n 1 10 rfl dX10_init_9 rfl rfl ?_
  refine a_goto 14 dX10_init_10 (by decide) ?_
  refine a_widen (u2 := 0 + 1) (v2 := 0 + m) (by omega) (by omega) ?_
  refine a_newB q_265 (nI_pos (by omega)) (g_cl (by omega)) (by omega) 16 rfl dX10_init_14 ?_
  refine a_putF (fs' := [.ref (g_ad G (h.length)), .int 0]) 0 cl_9 q_258 (by decide) (hT2) rfl rfl rfl rfl rfl (Nat.le_of_ble_eq_true rfl) rfl 19 rfl dX10_init_16 ?_
  exact a_return rfl (rfl) (rfl) dX10_init_19
theorem r_X10_length (hT : h[a]? = some (.inr (9, [.ref (g_ad G kb), .int i]))) : g_Run G mX10_length 1 0 0 [.ref (g_ad G a)] h (some (.int i)) h := by
  refine g_Run.of (lv := [(0, .ref (g_ad G a))]) (by decide) (Nat.le_of_ble_eq_true rfl) rfl ?_
  refine a_aload_n 0 1 rfl dX10_length_0 rfl rfl ?_
  refine a_get 1 cl_9 f_RX10_15_9 (by decide) (hT) rfl 4 rfl dX10_length_1 ?_
  exact a_ireturn .int rfl rfl (rfl) (rfl) dX10_length_4
theorem r_X10_clear (hT : h[a]? = some (.inr (9, [.ref (g_ad G kb), .int i]))) : g_Run G mX10_clear 1 0 0 [.ref (g_ad G a)] h none (h.set a (.inr (9, [.ref (g_ad G kb), .int 0]))) := by
  refine g_Run.of (lv := [(0, .ref (g_ad G a))]) (by decide) (Nat.le_of_ble_eq_true rfl) rfl ?_
  refine a_aload_n 0 1 rfl dX10_clear_0 rfl rfl ?_
  refine a_iconst (x := 0) 2 rfl dX10_clear_1 (by decide) ?_
  refine a_put (fs' := [.ref (g_ad G kb), .int 0]) 1 cl_9 f_RX10_15_9 (by decide) (hT) rfl rfl rfl (Nat.le_of_ble_eq_true rfl) rfl 5 rfl dX10_clear_2 ?_
  exact a_return rfl (rfl) (rfl) dX10_clear_5
theorem r_X10_at_in {m j : Nat} {f : Nat → Int32} (hT : h[a]? = some (.inr (9, [.ref (g_ad G kb), .int (nI n)]))) (hB : h[kb]? = some (.inl (g_ci G 2, m, .inl f))) (hm : m ≤ 1000) (hn : n ≤ m) (hj : j < n) : g_Run G mX10_at 1 0 0 [.ref (g_ad G a), .int (nI j)] h (some (.int (f j))) h := by
  refine g_Run.of (lv := [(0, .ref (g_ad G a)), (1, .int (nI j))]) (by decide) (Nat.le_of_ble_eq_true rfl) rfl ?_
  refine a_iload_n 1 1 rfl dX10_at_0 rfl rfl ?_
  refine a_if_lt 30 4 rfl dX10_at_1 (by decide) (fun hc => absurd hc (nI_pos (by omega))) (fun _ => ?_)
  refine a_iload_n 1 5 rfl dX10_at_4 rfl rfl ?_
  refine a_aload_n 0 6 rfl dX10_at_5 rfl rfl ?_
  refine a_get 1 cl_9 f_RX10_15_9 (by decide) (hT) rfl 9 rfl dX10_at_6 ?_
  refine a_icmp_ge 30 12 rfl dX10_at_9 (by decide) (fun hc => absurd hc (nI_ge hj (by omega))) (fun _ => ?_)
  refine a_iload_n 1 13 rfl dX10_at_12 rfl rfl ?_
  refine a_aload_n 0 14 rfl dX10_at_13 rfl rfl ?_
  refine a_get 0 cl_9 f_RX10_9_9 (by decide) (hT) rfl 17 rfl dX10_at_14 ?_
  refine a_alen (y := nI m) 2 (hB) rfl rfl 18 rfl dX10_at_17 ?_
  refine a_icmp_ge 30 21 rfl dX10_at_18 (by decide) (fun hc => absurd hc (nI_ge (by omega) (by omega))) (fun _ => ?_)
  refine a_aload_n 0 22 rfl dX10_at_21 rfl rfl ?_
  refine a_get 0 cl_9 f_RX10_9_9 (by decide) (hT) rfl 25 rfl dX10_at_22 ?_
  refine a_iload_n 1 26 rfl dX10_at_25 rfl rfl ?_
  refine a_bald (hB) (vp_in_nI (by omega) (by omega)) 27 rfl dX10_at_26 ?_
  refine a_goto 32 dX10_at_27 (by decide) ?_
  exact a_ireturn .int rfl rfl ((by rw [g_cl (by omega)])) (rfl) dX10_at_32
theorem r_X10_at_out (hT : h[a]? = some (.inr (9, [.ref (g_ad G kb), .int (nI n)]))) (hn : n ≤ 1000) (hi : ¬ vp_in i n) : g_Run G mX10_at 1 0 0 [.ref (g_ad G a), .int i] h (some (.int (-2))) h := by
  refine g_Run.of (lv := [(0, .ref (g_ad G a)), (1, .int i)]) (by decide) (Nat.le_of_ble_eq_true rfl) rfl ?_
  by_cases c0 : i < 0
  · skip
    refine a_iload_n 1 1 rfl dX10_at_0 rfl rfl ?_
    refine a_if_lt 30 4 rfl dX10_at_1 (by decide) (fun _ => ?_) (fun hc => absurd (c0) hc)
    refine a_bipush (x := (-2)) 32 rfl dX10_at_30 (by decide) ?_
    exact a_ireturn .int rfl rfl (rfl) (rfl) dX10_at_32
  · skip
    refine a_iload_n 1 1 rfl dX10_at_0 rfl rfl ?_
    refine a_if_lt 30 4 rfl dX10_at_1 (by decide) (fun hc => absurd hc (c0)) (fun _ => ?_)
    refine a_iload_n 1 5 rfl dX10_at_4 rfl rfl ?_
    refine a_aload_n 0 6 rfl dX10_at_5 rfl rfl ?_
    refine a_get 1 cl_9 f_RX10_15_9 (by decide) (hT) rfl 9 rfl dX10_at_6 ?_
    refine a_icmp_ge 30 12 rfl dX10_at_9 (by decide) (fun _ => ?_) (fun hc => absurd (g_out_ge hi c0 (by omega)) hc)
    refine a_bipush (x := (-2)) 32 rfl dX10_at_30 (by decide) ?_
    exact a_ireturn .int rfl rfl (rfl) (rfl) dX10_at_32
theorem r_X10_append {m : Nat} {f : Nat → Int32} (hT : h[a]? = some (.inr (9, [.ref (g_ad G kb), .int (nI n)]))) (hB : h[kb]? = some (.inl (g_ci G 2, m, .inl f))) (hne : a ≠ kb) (hm : m ≤ 1000) (hn : n < m) : g_Run G mX10_append 1 0 0 [.ref (g_ad G a), .int i] h (some (.int 1)) ((h.set kb (.inl (g_ci G 2, m, .inl (upd f n (vp_nar .byte i.toInt8.toInt32))))).set a (.inr (9, [.ref (g_ad G kb), .int (nI (n + 1))]))) := by
  refine g_Run.of (lv := [(0, .ref (g_ad G a)), (1, .int i)]) (by decide) (Nat.le_of_ble_eq_true rfl) rfl ?_
  refine a_aload_n 0 1 rfl dX10_append_0 rfl rfl ?_
  refine a_get 1 cl_9 f_RX10_15_9 (by decide) (hT) rfl 4 rfl dX10_append_1 ?_
  refine a_if_lt 19 7 rfl dX10_append_4 (by decide) (fun hc => absurd hc (nI_pos (by omega))) (fun _ => ?_)
  refine a_aload_n 0 8 rfl dX10_append_7 rfl rfl ?_
  refine a_get 1 cl_9 f_RX10_15_9 (by decide) (hT) rfl 11 rfl dX10_append_8 ?_
  refine a_aload_n 0 12 rfl dX10_append_11 rfl rfl ?_
  refine a_get 0 cl_9 f_RX10_9_9 (by decide) (hT) rfl 15 rfl dX10_append_12 ?_
  refine a_alen (y := nI m) 2 (hB) rfl rfl 16 rfl dX10_append_15 ?_
  refine a_icmp_lt 21 19 rfl dX10_append_16 (by decide) (fun _ => ?_) (fun hc => absurd (nI_lt hn (by omega)) hc)
  refine a_aload_n 0 22 rfl dX10_append_21 rfl rfl ?_
  refine a_get 0 cl_9 f_RX10_9_9 (by decide) (hT) rfl 25 rfl dX10_append_22 ?_
  refine a_aload_n 0 26 rfl dX10_append_25 rfl rfl ?_
  refine a_get 1 cl_9 f_RX10_15_9 (by decide) (hT) rfl 29 rfl dX10_append_26 ?_
  refine a_iload_n 1 30 rfl dX10_append_29 rfl rfl ?_
  refine a_i2b 31 rfl dX10_append_30 ?_
  refine a_bast (hB) (vp_in_nI (by omega) (by omega)) 32 rfl dX10_append_31 ?_
  have hT2 := g_set_ne (c := .inl (g_ci G 2, m, .inl (upd f (nI n).toNatClampNeg (vp_nar .byte i.toInt8.toInt32)))) (Ne.symm hne) hT
  refine a_aload_n 0 33 rfl dX10_append_32 rfl rfl ?_
  refine a_dup 34 rfl dX10_append_33 rfl ?_
  refine a_get 1 cl_9 f_RX10_15_9 (by decide) (hT2) rfl 37 rfl dX10_append_34 ?_
  refine a_iconst (x := 1) 38 rfl dX10_append_37 (by decide) ?_
  refine a_iadd 39 rfl dX10_append_38 ?_
  refine a_put (fs' := [.ref (g_ad G kb), .int ((nI n) + 1)]) 1 cl_9 f_RX10_15_9 (by decide) (hT2) rfl rfl rfl (Nat.le_of_ble_eq_true rfl) rfl 42 rfl dX10_append_39 ?_
  refine a_iconst (x := 1) 43 rfl dX10_append_42 (by decide) ?_
  exact a_ireturn .boolean rfl rfl (rfl) ((by rw [g_cl (by omega), ← nI_1 n])) dX10_append_43
theorem r_X10_append_full {m : Nat} {f : Nat → Int32} (hT : h[a]? = some (.inr (9, [.ref (g_ad G kb), .int (nI n)]))) (hB : h[kb]? = some (.inl (g_ci G 2, m, .inl f))) (hm : m ≤ 1000) (hn : n = m) : g_Run G mX10_append 1 0 0 [.ref (g_ad G a), .int i] h (some (.int 0)) h := by
  refine g_Run.of (lv := [(0, .ref (g_ad G a)), (1, .int i)]) (by decide) (Nat.le_of_ble_eq_true rfl) rfl ?_
  refine a_aload_n 0 1 rfl dX10_append_0 rfl rfl ?_
  refine a_get 1 cl_9 f_RX10_15_9 (by decide) (hT) rfl 4 rfl dX10_append_1 ?_
  refine a_if_lt 19 7 rfl dX10_append_4 (by decide) (fun hc => absurd hc (nI_pos (by omega))) (fun _ => ?_)
  refine a_aload_n 0 8 rfl dX10_append_7 rfl rfl ?_
  refine a_get 1 cl_9 f_RX10_15_9 (by decide) (hT) rfl 11 rfl dX10_append_8 ?_
  refine a_aload_n 0 12 rfl dX10_append_11 rfl rfl ?_
  refine a_get 0 cl_9 f_RX10_9_9 (by decide) (hT) rfl 15 rfl dX10_append_12 ?_
  refine a_alen (y := nI m) 2 (hB) rfl rfl 16 rfl dX10_append_15 ?_
  refine a_icmp_lt 21 19 rfl dX10_append_16 (by decide) (fun hc => absurd hc (nI_nlt (by omega) (by omega))) (fun _ => ?_)
  refine a_iconst (x := 0) 20 rfl dX10_append_19 (by decide) ?_
  exact a_ireturn .boolean rfl rfl (rfl) (rfl) dX10_append_20
-- Numbers
theorem r_X8_isMissing {th so mn : Int32} (hL : h[a]? = some (.inr (7, [.ref (g_ad G kb), .int th, .int so, .int mn]))) : g_Run G mX8_isMissing 1 0 0 [.ref (g_ad G a)] h (some (.int (if th = 0 then 1 else 0))) h := by
  refine g_Run.of (lv := [(0, .ref (g_ad G a))]) (by decide) (Nat.le_of_ble_eq_true rfl) rfl ?_
  refine a_aload_n 0 1 rfl dX8_isMissing_0 rfl rfl ?_
  refine a_get 1 cl_7 f_RX8_15_7 (by decide) (hL) rfl 4 rfl dX8_isMissing_1 ?_
  refine a_if_ne 11 7 rfl dX8_isMissing_4 (by decide) (fun c4 => ?_) (fun c4 => ?_)
  · skip
    refine a_iconst (x := 0) 12 rfl dX8_isMissing_11 (by decide) ?_
    exact a_ireturn .boolean rfl rfl ((by rw [if_neg c4])) (rfl) dX8_isMissing_12
  · skip
    refine a_iconst (x := 1) 8 rfl dX8_isMissing_7 (by decide) ?_
    refine a_goto 12 dX8_isMissing_8 (by decide) ?_
    exact a_ireturn .boolean rfl rfl ((by rw [if_pos c4])) (rfl) dX8_isMissing_12
theorem r_X8_remove {th so mn : Int32} (hL : h[a]? = some (.inr (7, [.ref (g_ad G kb), .int th, .int so, .int mn]))) : g_Run G mX8_remove 1 0 0 [.ref (g_ad G a)] h none (h.set a (.inr (7, [.ref (g_ad G kb), .int 0, .int so, .int 0]))) := by
  refine g_Run.of (lv := [(0, .ref (g_ad G a))]) (by decide) (Nat.le_of_ble_eq_true rfl) rfl ?_
  refine a_aload_n 0 1 rfl dX8_remove_0 rfl rfl ?_
  refine a_iconst (x := 0) 2 rfl dX8_remove_1 (by decide) ?_
  refine a_put (fs' := [.ref (g_ad G kb), .int 0, .int so, .int mn]) 1 cl_7 f_RX8_15_7 (by decide) (hL) rfl rfl rfl (Nat.le_of_ble_eq_true rfl) rfl 5 rfl dX8_remove_2 ?_
  refine a_aload_n 0 6 rfl dX8_remove_5 rfl rfl ?_
  refine a_iconst (x := 0) 7 rfl dX8_remove_6 (by decide) ?_
  refine a_put (fs' := [.ref (g_ad G kb), .int 0, .int so, .int 0]) 3 cl_7 f_RX8_19_7 (by decide) (g_set_eq (hL)) rfl rfl rfl (Nat.le_of_ble_eq_true rfl) rfl 10 rfl dX8_remove_7 ?_
  exact a_return rfl (rfl) ((by rw [List.set_set])) dX8_remove_10
theorem r_X8_hasPlace_in {th so : Int32} {j : Nat} {f : Nat → Int64} (hL : h[a]? = some (.inr (7, [.ref (g_ad G kb), .int th, .int so, .int (nI n)]))) (hB : h[kb]? = some (.inl (g_ci G 1, 20, .inr (.inl f)))) (hn : n ≤ 20) (hj : j < n) : g_Run G mX8_hasPlace 1 0 0 [.ref (g_ad G a), .int (nI j)] h (some (.int 1)) h := by
  refine g_Run.of (lv := [(0, .ref (g_ad G a)), (1, .int (nI j))]) (by decide) (Nat.le_of_ble_eq_true rfl) rfl ?_
  refine a_iload_n 1 1 rfl dX8_hasPlace_0 rfl rfl ?_
  refine a_if_lt 25 4 rfl dX8_hasPlace_1 (by decide) (fun hc => absurd hc (nI_pos (by omega))) (fun _ => ?_)
  refine a_iload_n 1 5 rfl dX8_hasPlace_4 rfl rfl ?_
  refine a_aload_n 0 6 rfl dX8_hasPlace_5 rfl rfl ?_
  refine a_get 3 cl_7 f_RX8_19_7 (by decide) (hL) rfl 9 rfl dX8_hasPlace_6 ?_
  refine a_icmp_ge 25 12 rfl dX8_hasPlace_9 (by decide) (fun hc => absurd hc (nI_ge hj (by omega))) (fun _ => ?_)
  refine a_iload_n 1 13 rfl dX8_hasPlace_12 rfl rfl ?_
  refine a_aload_n 0 14 rfl dX8_hasPlace_13 rfl rfl ?_
  refine a_get 0 cl_7 f_RX8_9_7 (by decide) (hL) rfl 17 rfl dX8_hasPlace_14 ?_
  refine a_alen (y := 20) 1 (hB) rfl rfl 18 rfl dX8_hasPlace_17 ?_
  refine a_icmp_ge 25 21 rfl dX8_hasPlace_18 (by decide) (fun hc => absurd hc ((nI_ge (b := j) (a := 19) (by omega) (by omega) : ¬ nI 20 ≤ nI j))) (fun _ => ?_)
  refine a_iconst (x := 1) 22 rfl dX8_hasPlace_21 (by decide) ?_
  refine a_goto 26 dX8_hasPlace_22 (by decide) ?_
  exact a_ireturn .boolean rfl rfl (rfl) (rfl) dX8_hasPlace_26
