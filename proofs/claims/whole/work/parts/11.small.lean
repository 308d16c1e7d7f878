/-! Family, Text, Numbers: their methods -/
section SM1
variable {G : g_G} {h : List va_E} {a b ka kb n : Nat} {i : Int32} {kd fg kd2 fg2 : Int32} {td td2 x : Int64}
theorem r_X5_init (hF : h[a]? = some (c_O 5 [.int 0, .int 0, .long 0])) : g_Run G mX5_init 1 0 0 [.ref (g_ad G a), .int kd, .int fg, .long td] h none (h.set a (c_O 5 [.int kd, .int fg, .long td])) := by
  refine g_Run.of (lv := [(0, .ref (g_ad G a)), (1, .int kd), (2, .int fg), (3, .long td)]) (by decide) (Nat.le_of_ble_eq_true rfl) rfl ?_
  refine a_aload_n 0 1 rfl dX5_init_0 rfl rfl ?_
  refine a_objInit q_407 q_143 q_144 (Nat.le_of_ble_eq_true rfl) (by decide) 4 rfl dX5_init_1 ?_
  refine a_aload_n 0 5 rfl dX5_init_4 rfl rfl ?_
  refine a_iload_n 1 6 rfl dX5_init_5 rfl rfl ?_
  refine a_putF (fs' := [.int kd, .int 0, .long 0]) 0 cl_5 q_408 (by decide) (hF) rfl rfl rfl rfl rfl (Nat.le_of_ble_eq_true rfl) rfl 9 rfl dX5_init_6 ?_
  refine a_aload_n 0 10 rfl dX5_init_9 rfl rfl ?_
  refine a_iload_n 2 11 rfl dX5_init_10 rfl rfl ?_
  refine a_putF (fs' := [.int kd, .int fg, .long 0]) 1 cl_5 q_412 (by decide) (g_set_eq (hF)) rfl rfl rfl rfl rfl (Nat.le_of_ble_eq_true rfl) rfl 14 rfl dX5_init_11 ?_
  refine a_aload_n 0 15 rfl dX5_init_14 rfl rfl ?_
  refine a_lload_n 3 16 rfl dX5_init_15 rfl rfl ?_
  refine a_putF (fs' := [.int kd, .int fg, .long td]) 2 cl_5 q_416 (by decide) (g_set_eq (g_set_eq (hF))) rfl rfl rfl rfl rfl (Nat.le_of_ble_eq_true rfl) rfl 19 rfl dX5_init_16 ?_
  exact a_return rfl (rfl) ((by rw [List.set_set, List.set_set])) dX5_init_19
theorem r_X5_kindAbove {k : Nat} (hk : k < 6) : g_Run G mX5_kindAbove 1 0 0 [.int (nI k)] h (some (.int (nI (if k = 4 then 3 else if k = 5 then 2 else 0)))) h := by
  refine g_Run.of (lv := [(0, .int (nI k))]) (by decide) (Nat.le_of_ble_eq_true rfl) rfl ?_
  refine a_iload_n 0 1 rfl dX5_kindAbove_0 rfl rfl ?_
  match k, hk with
  | 4, _ =>
    refine a_lookup (off := 27) 28 dX5_kindAbove_1 (by decide) (by decide) (by decide) ?_
    refine a_iconst (x := 3) 29 rfl dX5_kindAbove_28 (by decide) ?_
    exact a_ireturn .int rfl rfl (rfl) (rfl) dX5_kindAbove_29
  | 5, _ =>
    refine a_lookup (off := 29) 30 dX5_kindAbove_1 (by decide) (by decide) (by decide) ?_
    refine a_iconst (x := 2) 31 rfl dX5_kindAbove_30 (by decide) ?_
    exact a_ireturn .int rfl rfl (rfl) (rfl) dX5_kindAbove_31
  | 0, _ =>
    refine a_lookup (off := 31) 32 dX5_kindAbove_1 (by decide) (by decide) (by decide) ?_
    refine a_iconst (x := 0) 33 rfl dX5_kindAbove_32 (by decide) ?_
    exact a_ireturn .int rfl rfl (rfl) (rfl) dX5_kindAbove_33
  | 1, _ =>
    refine a_lookup (off := 31) 32 dX5_kindAbove_1 (by decide) (by decide) (by decide) ?_
    refine a_iconst (x := 0) 33 rfl dX5_kindAbove_32 (by decide) ?_
    exact a_ireturn .int rfl rfl (rfl) (rfl) dX5_kindAbove_33
  | 2, _ =>
    refine a_lookup (off := 31) 32 dX5_kindAbove_1 (by decide) (by decide) (by decide) ?_
    refine a_iconst (x := 0) 33 rfl dX5_kindAbove_32 (by decide) ?_
    exact a_ireturn .int rfl rfl (rfl) (rfl) dX5_kindAbove_33
  | 3, _ =>
    refine a_lookup (off := 31) 32 dX5_kindAbove_1 (by decide) (by decide) (by decide) ?_
    refine a_iconst (x := 0) 33 rfl dX5_kindAbove_32 (by decide) ?_
    exact a_ireturn .int rfl rfl (rfl) (rfl) dX5_kindAbove_33
theorem r_X5_isLikeN : g_Run G mX5_isLike 1 0 0 [.ref (g_ad G a), .null] h (some (.int 0)) h := by
  refine g_Run.of (lv := [(0, .ref (g_ad G a)), (1, .null)]) (by decide) (Nat.le_of_ble_eq_true rfl) rfl ?_
  refine a_aload_nN 1 1 rfl dX5_isLike_0 rfl rfl ?_
  refine a_ifnullN 42 dX5_isLike_1 (by decide) ?_
  refine a_iconst (x := 0) 43 rfl dX5_isLike_42 (by decide) ?_
  exact a_ireturn .boolean rfl rfl (rfl) (rfl) dX5_isLike_43
theorem r_X5_isLike (hF : h[a]? = some (c_O 5 [.int kd, .int fg, .long td])) (hE : h[b]? = some (c_O 5 [.int kd2, .int fg2, .long td2])) : g_Run G mX5_isLike 1 0 0 [.ref (g_ad G a), .ref (g_ad G b)] h (some (.int (if kd = kd2 ∧ fg = fg2 ∧ td = td2 then 1 else 0))) h := by
  refine g_Run.of (lv := [(0, .ref (g_ad G a)), (1, .ref (g_ad G b))]) (by decide) (Nat.le_of_ble_eq_true rfl) rfl ?_
  refine a_aload_n 1 1 rfl dX5_isLike_0 rfl rfl ?_
  refine a_ifnull 4 rfl dX5_isLike_1 ?_
  refine a_aload_n 0 5 rfl dX5_isLike_4 rfl rfl ?_
  refine a_get 0 cl_5 f_RX5_9_5 (by decide) (hF) rfl 8 rfl dX5_isLike_5 ?_
  refine a_aload_n 1 9 rfl dX5_isLike_8 rfl rfl ?_
  refine a_get 0 cl_5 f_RX5_9_5 (by decide) (hE) rfl 12 rfl dX5_isLike_9 ?_
  refine a_icmp_ne 42 15 rfl dX5_isLike_12 (by decide) (fun c12 => ?_) (fun c12 => ?_)
  · skip
    refine a_iconst (x := 0) 43 rfl dX5_isLike_42 (by decide) ?_
    exact a_ireturn .boolean rfl rfl ((by rw [if_neg (fun q => c12 q.1)])) (rfl) dX5_isLike_43
  · skip
    refine a_aload_n 0 16 rfl dX5_isLike_15 rfl rfl ?_
    refine a_get 1 cl_5 f_RX5_15_5 (by decide) (hF) rfl 19 rfl dX5_isLike_16 ?_
    refine a_aload_n 1 20 rfl dX5_isLike_19 rfl rfl ?_
    refine a_get 1 cl_5 f_RX5_15_5 (by decide) (hE) rfl 23 rfl dX5_isLike_20 ?_
    refine a_icmp_ne 42 26 rfl dX5_isLike_23 (by decide) (fun c23 => ?_) (fun c23 => ?_)
    · skip
      refine a_iconst (x := 0) 43 rfl dX5_isLike_42 (by decide) ?_
      exact a_ireturn .boolean rfl rfl ((by rw [if_neg (fun q => c23 q.2.1)])) (rfl) dX5_isLike_43
    · skip
      refine a_aload_n 0 27 rfl dX5_isLike_26 rfl rfl ?_
      refine a_get 2 cl_5 f_RX5_18_5 (by decide) (hF) rfl 30 rfl dX5_isLike_27 ?_
      refine a_aload_n 1 31 rfl dX5_isLike_30 rfl rfl ?_
      refine a_get 2 cl_5 f_RX5_18_5 (by decide) (hE) rfl 34 rfl dX5_isLike_31 ?_
      refine a_lcmp 35 rfl dX5_isLike_34 ?_
      refine a_if_ne 42 38 rfl dX5_isLike_35 (by decide) (fun c35 => ?_) (fun c35 => ?_)
      · skip
        refine a_iconst (x := 0) 43 rfl dX5_isLike_42 (by decide) ?_
        exact a_ireturn .boolean rfl rfl ((by rw [if_neg (fun q => g_cmp_ne.mp c35 q.2.2)])) (rfl) dX5_isLike_43
      · skip
        refine a_iconst (x := 1) 39 rfl dX5_isLike_38 (by decide) ?_
        refine a_goto 43 dX5_isLike_39 (by decide) ?_
        exact a_ireturn .boolean rfl rfl ((by rw [if_pos ⟨c12, c23, g_cmp_eq.mp c35⟩])) (rfl) dX5_isLike_43
/-- whether kind k is kind q or one under it -/
def f_under (k q : Nat) : Bool := k == q || (k == 4 && q == 3) || (k == 5 && q == 2) || q == 0
theorem r_X5_isUnder {k q : Nat} (hF : h[a]? = some (c_O 5 [.int (nI k), .int fg, .long td])) (hk : k < 6) (hq : q < 6) : g_Run G mX5_isUnder 2 0 0 [.ref (g_ad G a), .int (nI q)] h (some (.int (if f_under k q then 1 else 0))) h := by
  have ne : ∀ {x y : Nat}, x < 6 → y < 6 → x ≠ y → ¬ nI x = nI y := fun hx hy e z => e ((nI_eq (by omega) (by omega)).mp z)
  have n0 : ∀ {x : Nat}, x < 6 → x ≠ 0 → ¬ nI x = 0 := fun hx e => nI_ne0 (by omega) (by omega)
  refine g_Run.of (lv := [(0, .ref (g_ad G a)), (1, .int (nI q))]) (by decide) (Nat.le_of_ble_eq_true rfl) rfl ?_
  refine a_aload_n 0 1 rfl dX5_isUnder_0 rfl rfl ?_
  refine a_get 0 cl_5 f_RX5_9_5 (by decide) (hF) rfl 4 rfl dX5_isUnder_1 ?_
  refine a_istore_n (lv' := [(2, .int (nI k)), (0, .ref (g_ad G a)), (1, .int (nI q))]) 5 rfl dX5_isUnder_4 rfl (by decide) rfl ?_
  refine a_iconst (x := 0) 6 rfl dX5_isUnder_5 (by decide) ?_
  refine a_istore_n (lv' := [(3, .int 0), (2, .int (nI k)), (0, .ref (g_ad G a)), (1, .int (nI q))]) 7 rfl dX5_isUnder_6 rfl (by decide) rfl ?_
  by_cases e0 : k = q
  · skip
    refine a_iload_n 0 8 rfl dX5_isUnder_7 rfl rfl ?_
    refine a_bipush (x := 6) 10 rfl dX5_isUnder_8 (by decide) ?_
    refine a_icmp_ge 33 13 rfl dX5_isUnder_10 (by decide) (fun hc => absurd hc ((by decide))) (fun _ => ?_)
    refine a_iload_n 1 14 rfl dX5_isUnder_13 rfl rfl ?_
    refine a_iload_n 3 15 rfl dX5_isUnder_14 rfl rfl ?_
    refine a_icmp_eq 33 18 rfl dX5_isUnder_15 (by decide) (fun _ => ?_) (fun hc => absurd ((by rw [e0])) hc)
    refine a_iload_n 1 34 rfl dX5_isUnder_33 rfl rfl ?_
    refine a_iload_n 3 35 rfl dX5_isUnder_34 rfl rfl ?_
    refine a_icmp_ne 42 38 rfl dX5_isUnder_35 (by decide) (fun hc => absurd ((by rw [e0])) hc) (fun _ => ?_)
    refine a_iconst (x := 1) 39 rfl dX5_isUnder_38 (by decide) ?_
    refine a_goto 43 dX5_isUnder_39 (by decide) ?_
    exact a_ireturn .boolean rfl rfl ((by rw [if_pos (by simp [f_under, e0])])) (rfl) dX5_isUnder_43
  by_cases e1 : k = 0
  · skip
    refine a_iload_n 0 8 rfl dX5_isUnder_7 rfl rfl ?_
    refine a_bipush (x := 6) 10 rfl dX5_isUnder_8 (by decide) ?_
    refine a_icmp_ge 33 13 rfl dX5_isUnder_10 (by decide) (fun hc => absurd hc ((by decide))) (fun _ => ?_)
    refine a_iload_n 1 14 rfl dX5_isUnder_13 rfl rfl ?_
    refine a_iload_n 3 15 rfl dX5_isUnder_14 rfl rfl ?_
    refine a_icmp_eq 33 18 rfl dX5_isUnder_15 (by decide) (fun hc => absurd hc (ne hk hq e0)) (fun _ => ?_)
    refine a_iload_n 1 19 rfl dX5_isUnder_18 rfl rfl ?_
    refine a_if_eq 33 22 rfl dX5_isUnder_19 (by decide) (fun _ => ?_) (fun hc => absurd ((by rw [e1]; rfl)) hc)
    refine a_iload_n 1 34 rfl dX5_isUnder_33 rfl rfl ?_
    refine a_iload_n 3 35 rfl dX5_isUnder_34 rfl rfl ?_
    refine a_icmp_ne 42 38 rfl dX5_isUnder_35 (by decide) (fun _ => ?_) (fun hc => absurd hc (ne hk hq e0))
    refine a_iconst (x := 0) 43 rfl dX5_isUnder_42 (by decide) ?_
    exact a_ireturn .boolean rfl rfl ((by rw [if_neg (by simp [f_under, e1]; omega)])) (rfl) dX5_isUnder_43
  have top : ∀ k1 : Nat, (if k = 4 then 3 else if k = 5 then 2 else 0) = k1 → g_Run G mX5_kindAbove 1 0 0 [.int (nI k)] h (some (.int (nI k1))) h := fun k1 e => e ▸ r_X5_kindAbove hk
  by_cases e2 : (k = 4 ∧ q = 3) ∨ (k = 5 ∧ q = 2)
  · skip
    have e3 : (if k = 4 then 3 else if k = 5 then 2 else 0) = q := by
      rcases e2 with ⟨e, e'⟩ | ⟨e, e'⟩ <;> rw [e, e'] <;> rfl
    refine a_iload_n 0 8 rfl dX5_isUnder_7 rfl rfl ?_
    refine a_bipush (x := 6) 10 rfl dX5_isUnder_8 (by decide) ?_
    refine a_icmp_ge 33 13 rfl dX5_isUnder_10 (by decide) (fun hc => absurd hc ((by decide))) (fun _ => ?_)
    refine a_iload_n 1 14 rfl dX5_isUnder_13 rfl rfl ?_
    refine a_iload_n 3 15 rfl dX5_isUnder_14 rfl rfl ?_
    refine a_icmp_eq 33 18 rfl dX5_isUnder_15 (by decide) (fun hc => absurd hc (ne hk hq e0)) (fun _ => ?_)
    refine a_iload_n 1 19 rfl dX5_isUnder_18 rfl rfl ?_
    refine a_if_eq 33 22 rfl dX5_isUnder_19 (by decide) (fun hc => absurd hc (n0 hk e1)) (fun _ => ?_)
    refine a_iload_n 1 23 rfl dX5_isUnder_22 rfl rfl ?_
    refine a_callS (as := [.int (nI k)]) (rest := []) (st2 := [.int (nI q)]) (u1 := 0) (v1 := 0) (u2 := 0) (v2 := 0) (top q e3) oX5_kindAbove q_944 q_945 rfl (by decide) (by decide) rfl (Nat.le_of_ble_eq_true rfl) 26 rfl dX5_isUnder_23 rfl ?_
    refine a_istore_n (lv' := [(2, .int (nI q)), (3, .int 0), (0, .ref (g_ad G a)), (1, .int (nI q))]) 27 rfl dX5_isUnder_26 rfl (by decide) rfl ?_
    refine a_iinc (y := 0 + 1) (lv' := [(3, .int (0 + 1)), (2, .int (nI q)), (0, .ref (g_ad G a)), (1, .int (nI q))]) 1 30 rfl dX5_isUnder_27 rfl (rfl) (by decide) rfl ?_
    refine a_goto 7 dX5_isUnder_30 (by decide) ?_
    refine a_iload_n 0 8 rfl dX5_isUnder_7 rfl rfl ?_
    refine a_bipush (x := 6) 10 rfl dX5_isUnder_8 (by decide) ?_
    refine a_icmp_ge 33 13 rfl dX5_isUnder_10 (by decide) (fun hc => absurd hc ((by decide))) (fun _ => ?_)
    refine a_iload_n 1 14 rfl dX5_isUnder_13 rfl rfl ?_
    refine a_iload_n 3 15 rfl dX5_isUnder_14 rfl rfl ?_
    refine a_icmp_eq 33 18 rfl dX5_isUnder_15 (by decide) (fun _ => ?_) (fun hc => absurd (rfl) hc)
    refine a_iload_n 1 34 rfl dX5_isUnder_33 rfl rfl ?_
    refine a_iload_n 3 35 rfl dX5_isUnder_34 rfl rfl ?_
    refine a_icmp_ne 42 38 rfl dX5_isUnder_35 (by decide) (fun hc => absurd (rfl) hc) (fun _ => ?_)
    refine a_iconst (x := 1) 39 rfl dX5_isUnder_38 (by decide) ?_
    refine a_goto 43 dX5_isUnder_39 (by decide) ?_
    exact a_ireturn .boolean rfl rfl ((by rw [if_pos (by rcases e2 with ⟨e, e'⟩ | ⟨e, e'⟩ <;> rw [e, e'] <;> rfl)])) (rfl) dX5_isUnder_43
  by_cases e4 : k = 4 ∨ k = 5
  · have e5 : ∃ k1, (if k = 4 then 3 else if k = 5 then 2 else 0) = k1 ∧ (k1 = 2 ∨ k1 = 3) ∧ k1 ≠ q := by
      rcases e4 with e | e
      · exact ⟨3, by rw [e]; rfl, Or.inr rfl, by omega⟩
      · exact ⟨2, by rw [e]; rfl, Or.inl rfl, by omega⟩
    obtain ⟨k1, e6, e7, e8⟩ := e5
    have e9 : (if k1 = 4 then 3 else if k1 = 5 then 2 else 0) = 0 := by rcases e7 with e | e <;> rw [e] <;> rfl
    have e11 : g_Run G mX5_kindAbove 1 0 0 [.int (nI k1)] h (some (.int (nI 0))) h := by
      have w9 := r_X5_kindAbove (G := G) (h := h) (k := k1) (by omega)
      rw [e9] at w9
      exact w9
    refine a_iload_n 0 8 rfl dX5_isUnder_7 rfl rfl ?_
    refine a_bipush (x := 6) 10 rfl dX5_isUnder_8 (by decide) ?_
    refine a_icmp_ge 33 13 rfl dX5_isUnder_10 (by decide) (fun hc => absurd hc ((by decide))) (fun _ => ?_)
    refine a_iload_n 1 14 rfl dX5_isUnder_13 rfl rfl ?_
    refine a_iload_n 3 15 rfl dX5_isUnder_14 rfl rfl ?_
    refine a_icmp_eq 33 18 rfl dX5_isUnder_15 (by decide) (fun hc => absurd hc (ne hk hq e0)) (fun _ => ?_)
    refine a_iload_n 1 19 rfl dX5_isUnder_18 rfl rfl ?_
    refine a_if_eq 33 22 rfl dX5_isUnder_19 (by decide) (fun hc => absurd hc (n0 hk e1)) (fun _ => ?_)
    refine a_iload_n 1 23 rfl dX5_isUnder_22 rfl rfl ?_
    refine a_callS (as := [.int (nI k)]) (rest := []) (st2 := [.int (nI k1)]) (u1 := 0) (v1 := 0) (u2 := 0) (v2 := 0) (top k1 e6) oX5_kindAbove q_944 q_945 rfl (by decide) (by decide) rfl (Nat.le_of_ble_eq_true rfl) 26 rfl dX5_isUnder_23 rfl ?_
    refine a_istore_n (lv' := [(2, .int (nI k1)), (3, .int 0), (0, .ref (g_ad G a)), (1, .int (nI q))]) 27 rfl dX5_isUnder_26 rfl (by decide) rfl ?_
    refine a_iinc (y := 0 + 1) (lv' := [(3, .int (0 + 1)), (2, .int (nI k1)), (0, .ref (g_ad G a)), (1, .int (nI q))]) 1 30 rfl dX5_isUnder_27 rfl (rfl) (by decide) rfl ?_
    refine a_goto 7 dX5_isUnder_30 (by decide) ?_
    refine a_iload_n 0 8 rfl dX5_isUnder_7 rfl rfl ?_
    refine a_bipush (x := 6) 10 rfl dX5_isUnder_8 (by decide) ?_
    refine a_icmp_ge 33 13 rfl dX5_isUnder_10 (by decide) (fun hc => absurd hc ((by decide))) (fun _ => ?_)
    refine a_iload_n 1 14 rfl dX5_isUnder_13 rfl rfl ?_
    refine a_iload_n 3 15 rfl dX5_isUnder_14 rfl rfl ?_
    refine a_icmp_eq 33 18 rfl dX5_isUnder_15 (by decide) (fun hc => absurd hc (ne (by omega) hq e8)) (fun _ => ?_)
    refine a_iload_n 1 19 rfl dX5_isUnder_18 rfl rfl ?_
    refine a_if_eq 33 22 rfl dX5_isUnder_19 (by decide) (fun hc => absurd hc (n0 (by omega) (by omega))) (fun _ => ?_)
    refine a_iload_n 1 23 rfl dX5_isUnder_22 rfl rfl ?_
    refine a_callS (as := [.int (nI k1)]) (rest := []) (st2 := [.int (nI 0)]) (u1 := 0) (v1 := 0) (u2 := 0) (v2 := 0) (e11) oX5_kindAbove q_944 q_945 rfl (by decide) (by decide) rfl (Nat.le_of_ble_eq_true rfl) 26 rfl dX5_isUnder_23 rfl ?_
    refine a_istore_n (lv' := [(2, .int (nI 0)), (3, .int (0 + 1)), (0, .ref (g_ad G a)), (1, .int (nI q))]) 27 rfl dX5_isUnder_26 rfl (by decide) rfl ?_
    refine a_iinc (y := (0 + 1) + 1) (lv' := [(3, .int ((0 + 1) + 1)), (2, .int (nI 0)), (0, .ref (g_ad G a)), (1, .int (nI q))]) 1 30 rfl dX5_isUnder_27 rfl (rfl) (by decide) rfl ?_
    refine a_goto 7 dX5_isUnder_30 (by decide) ?_
    refine a_iload_n 0 8 rfl dX5_isUnder_7 rfl rfl ?_
    refine a_bipush (x := 6) 10 rfl dX5_isUnder_8 (by decide) ?_
    refine a_icmp_ge 33 13 rfl dX5_isUnder_10 (by decide) (fun hc => absurd hc ((by decide))) (fun _ => ?_)
    by_cases e12 : q = 0
    · skip
      refine a_iload_n 1 14 rfl dX5_isUnder_13 rfl rfl ?_
      refine a_iload_n 3 15 rfl dX5_isUnder_14 rfl rfl ?_
      refine a_icmp_eq 33 18 rfl dX5_isUnder_15 (by decide) (fun _ => ?_) (fun hc => absurd ((by rw [e12])) hc)
      refine a_iload_n 1 34 rfl dX5_isUnder_33 rfl rfl ?_
      refine a_iload_n 3 35 rfl dX5_isUnder_34 rfl rfl ?_
      refine a_icmp_ne 42 38 rfl dX5_isUnder_35 (by decide) (fun hc => absurd ((by rw [e12])) hc) (fun _ => ?_)
      refine a_iconst (x := 1) 39 rfl dX5_isUnder_38 (by decide) ?_
      refine a_goto 43 dX5_isUnder_39 (by decide) ?_
      exact a_ireturn .boolean rfl rfl ((by rw [if_pos (by simp [f_under, e12])])) (rfl) dX5_isUnder_43
    · skip
      refine a_iload_n 1 14 rfl dX5_isUnder_13 rfl rfl ?_
      refine a_iload_n 3 15 rfl dX5_isUnder_14 rfl rfl ?_
      refine a_icmp_eq 33 18 rfl dX5_isUnder_15 (by decide) (fun hc => absurd hc (ne (by omega) hq (fun z => e12 z.symm))) (fun _ => ?_)
      refine a_iload_n 1 19 rfl dX5_isUnder_18 rfl rfl ?_
      refine a_if_eq 33 22 rfl dX5_isUnder_19 (by decide) (fun _ => ?_) (fun hc => absurd (rfl) hc)
      refine a_iload_n 1 34 rfl dX5_isUnder_33 rfl rfl ?_
      refine a_iload_n 3 35 rfl dX5_isUnder_34 rfl rfl ?_
      refine a_icmp_ne 42 38 rfl dX5_isUnder_35 (by decide) (fun _ => ?_) (fun hc => absurd hc (ne (by omega) hq (fun z => e12 z.symm)))
      refine a_iconst (x := 0) 43 rfl dX5_isUnder_42 (by decide) ?_
      exact a_ireturn .boolean rfl rfl ((by rw [if_neg (by simp [f_under]; omega)])) (rfl) dX5_isUnder_43
  · have e3 : (if k = 4 then 3 else if k = 5 then 2 else 0) = 0 := by
      rw [if_neg (by omega), if_neg (by omega)]
    refine a_iload_n 0 8 rfl dX5_isUnder_7 rfl rfl ?_
    refine a_bipush (x := 6) 10 rfl dX5_isUnder_8 (by decide) ?_
    refine a_icmp_ge 33 13 rfl dX5_isUnder_10 (by decide) (fun hc => absurd hc ((by decide))) (fun _ => ?_)
    refine a_iload_n 1 14 rfl dX5_isUnder_13 rfl rfl ?_
    refine a_iload_n 3 15 rfl dX5_isUnder_14 rfl rfl ?_
    refine a_icmp_eq 33 18 rfl dX5_isUnder_15 (by decide) (fun hc => absurd hc (ne hk hq e0)) (fun _ => ?_)
    refine a_iload_n 1 19 rfl dX5_isUnder_18 rfl rfl ?_
    refine a_if_eq 33 22 rfl dX5_isUnder_19 (by decide) (fun hc => absurd hc (n0 hk e1)) (fun _ => ?_)
    refine a_iload_n 1 23 rfl dX5_isUnder_22 rfl rfl ?_
    refine a_callS (as := [.int (nI k)]) (rest := []) (st2 := [.int (nI 0)]) (u1 := 0) (v1 := 0) (u2 := 0) (v2 := 0) (top 0 e3) oX5_kindAbove q_944 q_945 rfl (by decide) (by decide) rfl (Nat.le_of_ble_eq_true rfl) 26 rfl dX5_isUnder_23 rfl ?_
    refine a_istore_n (lv' := [(2, .int (nI 0)), (3, .int 0), (0, .ref (g_ad G a)), (1, .int (nI q))]) 27 rfl dX5_isUnder_26 rfl (by decide) rfl ?_
    refine a_iinc (y := 0 + 1) (lv' := [(3, .int (0 + 1)), (2, .int (nI 0)), (0, .ref (g_ad G a)), (1, .int (nI q))]) 1 30 rfl dX5_isUnder_27 rfl (rfl) (by decide) rfl ?_
    refine a_goto 7 dX5_isUnder_30 (by decide) ?_
    refine a_iload_n 0 8 rfl dX5_isUnder_7 rfl rfl ?_
    refine a_bipush (x := 6) 10 rfl dX5_isUnder_8 (by decide) ?_
    refine a_icmp_ge 33 13 rfl dX5_isUnder_10 (by decide) (fun hc => absurd hc ((by decide))) (fun _ => ?_)
    by_cases e12 : q = 0
    · skip
      refine a_iload_n 1 14 rfl dX5_isUnder_13 rfl rfl ?_
      refine a_iload_n 3 15 rfl dX5_isUnder_14 rfl rfl ?_
      refine a_icmp_eq 33 18 rfl dX5_isUnder_15 (by decide) (fun _ => ?_) (fun hc => absurd ((by rw [e12])) hc)
      refine a_iload_n 1 34 rfl dX5_isUnder_33 rfl rfl ?_
      refine a_iload_n 3 35 rfl dX5_isUnder_34 rfl rfl ?_
      refine a_icmp_ne 42 38 rfl dX5_isUnder_35 (by decide) (fun hc => absurd ((by rw [e12])) hc) (fun _ => ?_)
      refine a_iconst (x := 1) 39 rfl dX5_isUnder_38 (by decide) ?_
      refine a_goto 43 dX5_isUnder_39 (by decide) ?_
      exact a_ireturn .boolean rfl rfl ((by rw [if_pos (by simp [f_under, e12])])) (rfl) dX5_isUnder_43
    · skip
      refine a_iload_n 1 14 rfl dX5_isUnder_13 rfl rfl ?_
      refine a_iload_n 3 15 rfl dX5_isUnder_14 rfl rfl ?_
      refine a_icmp_eq 33 18 rfl dX5_isUnder_15 (by decide) (fun hc => absurd hc (ne (by omega) hq (fun z => e12 z.symm))) (fun _ => ?_)
      refine a_iload_n 1 19 rfl dX5_isUnder_18 rfl rfl ?_
      refine a_if_eq 33 22 rfl dX5_isUnder_19 (by decide) (fun _ => ?_) (fun hc => absurd (rfl) hc)
      refine a_iload_n 1 34 rfl dX5_isUnder_33 rfl rfl ?_
      refine a_iload_n 3 35 rfl dX5_isUnder_34 rfl rfl ?_
      refine a_icmp_ne 42 38 rfl dX5_isUnder_35 (by decide) (fun _ => ?_) (fun hc => absurd hc (ne (by omega) hq (fun z => e12 z.symm)))
      refine a_iconst (x := 0) 43 rfl dX5_isUnder_42 (by decide) ?_
      exact a_ireturn .boolean rfl rfl ((by rw [if_neg (by simp [f_under]; omega)])) (rfl) dX5_isUnder_43
-- Text
theorem r_X10_init (m : Nat) (hm0 : 0 < m) (hm : m ≤ 1000) (hT : h[a]? = some (c_O 9 [.null, .int 0])) : g_Run G mX10_init 1 1 m [.ref (g_ad G a), .int (nI m)] h none ((h ++ [c_B G m (fun _ => 0)]).set a (c_O 9 [.ref (g_ad G h.length), .int 0])) := by
  have hT2 : (h ++ [c_B G m (fun _ => 0)])[a]? = some (c_O 9 [.null, .int 0]) := by rw [List.getElem?_append_left (g_lt hT)]; exact hT
  refine g_Run.of (lv := [(0, .ref (g_ad G a)), (1, .int (nI m))]) (by decide) (Nat.le_of_ble_eq_true rfl) rfl ?_
  refine a_aload_n 0 1 rfl dX10_init_0 rfl rfl ?_
  refine a_objInit q_257 q_143 q_144 (Nat.le_of_ble_eq_true rfl) (by decide) 4 rfl dX10_init_1 ?_
  refine a_aload_n 0 5 rfl dX10_init_4 rfl rfl ?_
  refine a_iload_n 1 6 rfl dX10_init_5 rfl rfl ?_
  refine a_if_le 13 9 rfl dX10_init_6 (by decide) (fun hc => absurd hc (nI_nle hm0 (by omega))) (fun _ => ?_)
  refine a_iload_n 1 10 rfl dX10_init_9 rfl rfl ?_
  refine a_goto 14 dX10_init_10 (by decide) ?_
  refine a_eq (pc2 := 14) (h2 := h) rfl rfl rfl rfl ?_
  refine a_widen (u2 := 0 + 1) (v2 := 0 + m) (by omega) (by omega) ?_
  refine a_newB q_265 (nI_pos (by omega)) (g_cl (by omega)) (by omega) 16 rfl dX10_init_14 ?_
  refine a_putF (fs' := [.ref (g_ad G (h.length)), .int 0]) 0 cl_9 q_258 (by decide) (hT2) rfl rfl rfl rfl rfl (Nat.le_of_ble_eq_true rfl) rfl 19 rfl dX10_init_16 ?_
  exact a_return rfl (rfl) (rfl) dX10_init_19
theorem r_X10_length (hT : h[a]? = some (c_O 9 [.ref (g_ad G kb), .int i])) : g_Run G mX10_length 1 0 0 [.ref (g_ad G a)] h (some (.int i)) h := by
  refine g_Run.of (lv := [(0, .ref (g_ad G a))]) (by decide) (Nat.le_of_ble_eq_true rfl) rfl ?_
  refine a_aload_n 0 1 rfl dX10_length_0 rfl rfl ?_
  refine a_get 1 cl_9 f_RX10_15_9 (by decide) (hT) rfl 4 rfl dX10_length_1 ?_
  exact a_ireturn .int rfl rfl (rfl) (rfl) dX10_length_4
theorem r_X10_clear (hT : h[a]? = some (c_O 9 [.ref (g_ad G kb), .int i])) : g_Run G mX10_clear 1 0 0 [.ref (g_ad G a)] h none (h.set a (c_O 9 [.ref (g_ad G kb), .int 0])) := by
  refine g_Run.of (lv := [(0, .ref (g_ad G a))]) (by decide) (Nat.le_of_ble_eq_true rfl) rfl ?_
  refine a_aload_n 0 1 rfl dX10_clear_0 rfl rfl ?_
  refine a_iconst (x := 0) 2 rfl dX10_clear_1 (by decide) ?_
  refine a_put (fs' := [.ref (g_ad G kb), .int 0]) 1 cl_9 f_RX10_15_9 (by decide) (hT) rfl rfl rfl (Nat.le_of_ble_eq_true rfl) rfl 5 rfl dX10_clear_2 ?_
  exact a_return rfl (rfl) (rfl) dX10_clear_5
theorem r_X10_at_in {m j : Nat} {f : Nat → Int32} (hT : h[a]? = some (c_O 9 [.ref (g_ad G kb), .int (nI n)])) (hB : h[kb]? = some (c_B G m f)) (hm : m ≤ 1000) (hn : n ≤ m) (hj : j < n) : g_Run G mX10_at 1 0 0 [.ref (g_ad G a), .int (nI j)] h (some (.int (f j))) h := by
  refine g_Run.of (lv := [(0, .ref (g_ad G a)), (1, .int (nI j))]) (by decide) (Nat.le_of_ble_eq_true rfl) rfl ?_
  refine a_iload_n 1 1 rfl dX10_at_0 rfl rfl ?_
  refine a_if_lt 30 4 rfl dX10_at_1 (by decide) (fun hc => absurd hc (nI_pos (by omega))) (fun _ => ?_)
  refine a_iload_n 1 5 rfl dX10_at_4 rfl rfl ?_
  refine a_aload_n 0 6 rfl dX10_at_5 rfl rfl ?_
  refine a_get 1 cl_9 f_RX10_15_9 (by decide) (hT) rfl 9 rfl dX10_at_6 ?_
  refine a_icmp_ge 30 12 rfl dX10_at_9 (by decide) (fun hc => absurd hc (nI_ge hj (by omega))) (fun _ => ?_)
  refine a_iload_n 1 13 rfl dX10_at_12 rfl rfl ?_
  refine a_aload_n 0 14 rfl dX10_at_13 rfl rfl ?_
  refine a_get 0 cl_9 f_RX10_9_9 (by decide) (hT) rfl 17 rfl dX10_at_14 ?_
  refine a_alen (y := nI m) 2 (hB) rfl rfl 18 rfl dX10_at_17 ?_
  refine a_icmp_ge 30 21 rfl dX10_at_18 (by decide) (fun hc => absurd hc (nI_ge (by omega) (by omega))) (fun _ => ?_)
  refine a_aload_n 0 22 rfl dX10_at_21 rfl rfl ?_
  refine a_get 0 cl_9 f_RX10_9_9 (by decide) (hT) rfl 25 rfl dX10_at_22 ?_
  refine a_iload_n 1 26 rfl dX10_at_25 rfl rfl ?_
  refine a_bald (hB) (vp_in_nI (by omega) (by omega)) 27 rfl dX10_at_26 ?_
  refine a_goto 32 dX10_at_27 (by decide) ?_
  exact a_ireturn .int rfl rfl ((by rw [g_cl (by omega)])) (rfl) dX10_at_32
theorem r_X10_at_out (hT : h[a]? = some (c_O 9 [.ref (g_ad G kb), .int (nI n)])) (hn : n ≤ 1000) (hi : ¬ vp_in i n) : g_Run G mX10_at 1 0 0 [.ref (g_ad G a), .int i] h (some (.int (-2))) h := by
  refine g_Run.of (lv := [(0, .ref (g_ad G a)), (1, .int i)]) (by decide) (Nat.le_of_ble_eq_true rfl) rfl ?_
  by_cases c0 : i < 0
  · skip
    refine a_iload_n 1 1 rfl dX10_at_0 rfl rfl ?_
    refine a_if_lt 30 4 rfl dX10_at_1 (by decide) (fun _ => ?_) (fun hc => absurd (c0) hc)
    refine a_bipush (x := (-2)) 32 rfl dX10_at_30 (by decide) ?_
    exact a_ireturn .int rfl rfl (rfl) (rfl) dX10_at_32
  · skip
    refine a_iload_n 1 1 rfl dX10_at_0 rfl rfl ?_
    refine a_if_lt 30 4 rfl dX10_at_1 (by decide) (fun hc => absurd hc (c0)) (fun _ => ?_)
    refine a_iload_n 1 5 rfl dX10_at_4 rfl rfl ?_
    refine a_aload_n 0 6 rfl dX10_at_5 rfl rfl ?_
    refine a_get 1 cl_9 f_RX10_15_9 (by decide) (hT) rfl 9 rfl dX10_at_6 ?_
    refine a_icmp_ge 30 12 rfl dX10_at_9 (by decide) (fun _ => ?_) (fun hc => absurd (g_out_ge hi c0 (by omega)) hc)
    refine a_bipush (x := (-2)) 32 rfl dX10_at_30 (by decide) ?_
    exact a_ireturn .int rfl rfl (rfl) (rfl) dX10_at_32
theorem r_X10_append {m : Nat} {f : Nat → Int32} (hT : h[a]? = some (c_O 9 [.ref (g_ad G kb), .int (nI n)])) (hB : h[kb]? = some (c_B G m f)) (hne : a ≠ kb) (hm : m ≤ 1000) (hn : n < m) : g_Run G mX10_append 1 0 0 [.ref (g_ad G a), .int i] h (some (.int 1)) ((h.set kb (c_B G m (upd f n (vp_nar .byte i.toInt8.toInt32)))).set a (c_O 9 [.ref (g_ad G kb), .int (nI (n + 1))])) := by
  refine g_Run.of (lv := [(0, .ref (g_ad G a)), (1, .int i)]) (by decide) (Nat.le_of_ble_eq_true rfl) rfl ?_
  refine a_aload_n 0 1 rfl dX10_append_0 rfl rfl ?_
  refine a_get 1 cl_9 f_RX10_15_9 (by decide) (hT) rfl 4 rfl dX10_append_1 ?_
  refine a_if_lt 19 7 rfl dX10_append_4 (by decide) (fun hc => absurd hc (nI_pos (by omega))) (fun _ => ?_)
  refine a_aload_n 0 8 rfl dX10_append_7 rfl rfl ?_
  refine a_get 1 cl_9 f_RX10_15_9 (by decide) (hT) rfl 11 rfl dX10_append_8 ?_
  refine a_aload_n 0 12 rfl dX10_append_11 rfl rfl ?_
  refine a_get 0 cl_9 f_RX10_9_9 (by decide) (hT) rfl 15 rfl dX10_append_12 ?_
  refine a_alen (y := nI m) 2 (hB) rfl rfl 16 rfl dX10_append_15 ?_
  refine a_icmp_lt 21 19 rfl dX10_append_16 (by decide) (fun _ => ?_) (fun hc => absurd (nI_lt hn (by omega)) hc)
  refine a_aload_n 0 22 rfl dX10_append_21 rfl rfl ?_
  refine a_get 0 cl_9 f_RX10_9_9 (by decide) (hT) rfl 25 rfl dX10_append_22 ?_
  refine a_aload_n 0 26 rfl dX10_append_25 rfl rfl ?_
  refine a_get 1 cl_9 f_RX10_15_9 (by decide) (hT) rfl 29 rfl dX10_append_26 ?_
  refine a_iload_n 1 30 rfl dX10_append_29 rfl rfl ?_
  refine a_i2b 31 rfl dX10_append_30 ?_
  refine a_bast (hB) (vp_in_nI (by omega) (by omega)) 32 rfl dX10_append_31 ?_
  have hT2 := g_set_ne (c := c_B G m (upd f (nI n).toNatClampNeg (vp_nar .byte i.toInt8.toInt32))) (Ne.symm hne) hT
  refine a_aload_n 0 33 rfl dX10_append_32 rfl rfl ?_
  refine a_dup 34 rfl dX10_append_33 rfl ?_
  refine a_get 1 cl_9 f_RX10_15_9 (by decide) (hT2) rfl 37 rfl dX10_append_34 ?_
  refine a_iconst (x := 1) 38 rfl dX10_append_37 (by decide) ?_
  refine a_iadd 39 rfl dX10_append_38 ?_
  refine a_put (fs' := [.ref (g_ad G kb), .int ((nI n) + 1)]) 1 cl_9 f_RX10_15_9 (by decide) (hT2) rfl rfl rfl (Nat.le_of_ble_eq_true rfl) rfl 42 rfl dX10_append_39 ?_
  refine a_iconst (x := 1) 43 rfl dX10_append_42 (by decide) ?_
  exact a_ireturn .boolean rfl rfl (rfl) ((by rw [g_cl (by omega), ← nI_1 n])) dX10_append_43
theorem r_X10_append_full {m : Nat} {f : Nat → Int32} (hT : h[a]? = some (c_O 9 [.ref (g_ad G kb), .int (nI n)])) (hB : h[kb]? = some (c_B G m f)) (hm : m ≤ 1000) (hn : n = m) : g_Run G mX10_append 1 0 0 [.ref (g_ad G a), .int i] h (some (.int 0)) h := by
  refine g_Run.of (lv := [(0, .ref (g_ad G a)), (1, .int i)]) (by decide) (Nat.le_of_ble_eq_true rfl) rfl ?_
  refine a_aload_n 0 1 rfl dX10_append_0 rfl rfl ?_
  refine a_get 1 cl_9 f_RX10_15_9 (by decide) (hT) rfl 4 rfl dX10_append_1 ?_
  refine a_if_lt 19 7 rfl dX10_append_4 (by decide) (fun hc => absurd hc (nI_pos (by omega))) (fun _ => ?_)
  refine a_aload_n 0 8 rfl dX10_append_7 rfl rfl ?_
  refine a_get 1 cl_9 f_RX10_15_9 (by decide) (hT) rfl 11 rfl dX10_append_8 ?_
  refine a_aload_n 0 12 rfl dX10_append_11 rfl rfl ?_
  refine a_get 0 cl_9 f_RX10_9_9 (by decide) (hT) rfl 15 rfl dX10_append_12 ?_
  refine a_alen (y := nI m) 2 (hB) rfl rfl 16 rfl dX10_append_15 ?_
  refine a_icmp_lt 21 19 rfl dX10_append_16 (by decide) (fun hc => absurd hc (nI_nlt (by omega) (by omega))) (fun _ => ?_)
  refine a_iconst (x := 0) 20 rfl dX10_append_19 (by decide) ?_
  exact a_ireturn .boolean rfl rfl (rfl) (rfl) dX10_append_20
-- Numbers
theorem r_X8_isMissing {th so mn : Int32} (hL : h[a]? = some (c_O 7 [.ref (g_ad G kb), .int th, .int so, .int mn])) : g_Run G mX8_isMissing 1 0 0 [.ref (g_ad G a)] h (some (.int (if th = 0 then 1 else 0))) h := by
  refine g_Run.of (lv := [(0, .ref (g_ad G a))]) (by decide) (Nat.le_of_ble_eq_true rfl) rfl ?_
  refine a_aload_n 0 1 rfl dX8_isMissing_0 rfl rfl ?_
  refine a_get 1 cl_7 f_RX8_15_7 (by decide) (hL) rfl 4 rfl dX8_isMissing_1 ?_
  refine a_if_ne 11 7 rfl dX8_isMissing_4 (by decide) (fun c4 => ?_) (fun c4 => ?_)
  · skip
    refine a_iconst (x := 0) 12 rfl dX8_isMissing_11 (by decide) ?_
    exact a_ireturn .boolean rfl rfl ((by rw [if_neg c4])) (rfl) dX8_isMissing_12
  · skip
    refine a_iconst (x := 1) 8 rfl dX8_isMissing_7 (by decide) ?_
    refine a_goto 12 dX8_isMissing_8 (by decide) ?_
    exact a_ireturn .boolean rfl rfl ((by rw [if_pos c4])) (rfl) dX8_isMissing_12
theorem r_X8_remove {th so mn : Int32} (hL : h[a]? = some (c_O 7 [.ref (g_ad G kb), .int th, .int so, .int mn])) : g_Run G mX8_remove 1 0 0 [.ref (g_ad G a)] h none (h.set a (c_O 7 [.ref (g_ad G kb), .int 0, .int so, .int 0])) := by
  refine g_Run.of (lv := [(0, .ref (g_ad G a))]) (by decide) (Nat.le_of_ble_eq_true rfl) rfl ?_
  refine a_aload_n 0 1 rfl dX8_remove_0 rfl rfl ?_
  refine a_iconst (x := 0) 2 rfl dX8_remove_1 (by decide) ?_
  refine a_put (fs' := [.ref (g_ad G kb), .int 0, .int so, .int mn]) 1 cl_7 f_RX8_15_7 (by decide) (hL) rfl rfl rfl (Nat.le_of_ble_eq_true rfl) rfl 5 rfl dX8_remove_2 ?_
  refine a_aload_n 0 6 rfl dX8_remove_5 rfl rfl ?_
  refine a_iconst (x := 0) 7 rfl dX8_remove_6 (by decide) ?_
  refine a_put (fs' := [.ref (g_ad G kb), .int 0, .int so, .int 0]) 3 cl_7 f_RX8_19_7 (by decide) (g_set_eq (hL)) rfl rfl rfl (Nat.le_of_ble_eq_true rfl) rfl 10 rfl dX8_remove_7 ?_
  exact a_return rfl (rfl) ((by rw [List.set_set])) dX8_remove_10
theorem r_X8_hasPlace_in {th so : Int32} {j : Nat} {f : Nat → Int64} (hL : h[a]? = some (c_O 7 [.ref (g_ad G kb), .int th, .int so, .int (nI n)])) (hB : h[kb]? = some (c_L G 20 f)) (hn : n ≤ 20) (hj : j < n) : g_Run G mX8_hasPlace 1 0 0 [.ref (g_ad G a), .int (nI j)] h (some (.int 1)) h := by
  refine g_Run.of (lv := [(0, .ref (g_ad G a)), (1, .int (nI j))]) (by decide) (Nat.le_of_ble_eq_true rfl) rfl ?_
  refine a_iload_n 1 1 rfl dX8_hasPlace_0 rfl rfl ?_
  refine a_if_lt 25 4 rfl dX8_hasPlace_1 (by decide) (fun hc => absurd hc (nI_pos (by omega))) (fun _ => ?_)
  refine a_iload_n 1 5 rfl dX8_hasPlace_4 rfl rfl ?_
  refine a_aload_n 0 6 rfl dX8_hasPlace_5 rfl rfl ?_
  refine a_get 3 cl_7 f_RX8_19_7 (by decide) (hL) rfl 9 rfl dX8_hasPlace_6 ?_
  refine a_icmp_ge 25 12 rfl dX8_hasPlace_9 (by decide) (fun hc => absurd hc (nI_ge hj (by omega))) (fun _ => ?_)
  refine a_iload_n 1 13 rfl dX8_hasPlace_12 rfl rfl ?_
  refine a_aload_n 0 14 rfl dX8_hasPlace_13 rfl rfl ?_
  refine a_get 0 cl_7 f_RX8_9_7 (by decide) (hL) rfl 17 rfl dX8_hasPlace_14 ?_
  refine a_alen (y := 20) 1 (hB) rfl rfl 18 rfl dX8_hasPlace_17 ?_
  refine a_icmp_ge 25 21 rfl dX8_hasPlace_18 (by decide) (fun hc => absurd hc (nI_ge (b := 20) (by omega) (by omega))) (fun _ => ?_)
  refine a_iconst (x := 1) 22 rfl dX8_hasPlace_21 (by decide) ?_
  refine a_goto 26 dX8_hasPlace_22 (by decide) ?_
  exact a_ireturn .boolean rfl rfl (rfl) (rfl) dX8_hasPlace_26
theorem r_X8_hasPlace_out {th so : Int32} (hL : h[a]? = some (c_O 7 [.ref (g_ad G kb), .int th, .int so, .int (nI n)])) (hn : n ≤ 20) (hi : ¬ vp_in i n) : g_Run G mX8_hasPlace 1 0 0 [.ref (g_ad G a), .int i] h (some (.int 0)) h := by
  refine g_Run.of (lv := [(0, .ref (g_ad G a)), (1, .int i)]) (by decide) (Nat.le_of_ble_eq_true rfl) rfl ?_
  by_cases c0 : i < 0
  · skip
    refine a_iload_n 1 1 rfl dX8_hasPlace_0 rfl rfl ?_
    refine a_if_lt 25 4 rfl dX8_hasPlace_1 (by decide) (fun _ => ?_) (fun hc => absurd (c0) hc)
    refine a_iconst (x := 0) 26 rfl dX8_hasPlace_25 (by decide) ?_
    exact a_ireturn .boolean rfl rfl (rfl) (rfl) dX8_hasPlace_26
  · skip
    refine a_iload_n 1 1 rfl dX8_hasPlace_0 rfl rfl ?_
    refine a_if_lt 25 4 rfl dX8_hasPlace_1 (by decide) (fun hc => absurd hc (c0)) (fun _ => ?_)
    refine a_iload_n 1 5 rfl dX8_hasPlace_4 rfl rfl ?_
    refine a_aload_n 0 6 rfl dX8_hasPlace_5 rfl rfl ?_
    refine a_get 3 cl_7 f_RX8_19_7 (by decide) (hL) rfl 9 rfl dX8_hasPlace_6 ?_
    refine a_icmp_ge 25 12 rfl dX8_hasPlace_9 (by decide) (fun _ => ?_) (fun hc => absurd (g_out_ge hi c0 (by omega)) hc)
    refine a_iconst (x := 0) 26 rfl dX8_hasPlace_25 (by decide) ?_
    exact a_ireturn .boolean rfl rfl (rfl) (rfl) dX8_hasPlace_26
theorem r_X8_at_in {th so : Int32} {j : Nat} {f : Nat → Int64} (hL : h[a]? = some (c_O 7 [.ref (g_ad G kb), .int th, .int so, .int (nI n)])) (hB : h[kb]? = some (c_L G 20 f)) (hn : n ≤ 20) (hj : j < n) : g_Run G mX8_at 1 0 0 [.ref (g_ad G a), .int (nI j)] h (some (.long (f j))) h := by
  refine g_Run.of (lv := [(0, .ref (g_ad G a)), (1, .int (nI j))]) (by decide) (Nat.le_of_ble_eq_true rfl) rfl ?_
  refine a_iload_n 1 1 rfl dX8_at_0 rfl rfl ?_
  refine a_if_lt 30 4 rfl dX8_at_1 (by decide) (fun hc => absurd hc (nI_pos (by omega))) (fun _ => ?_)
  refine a_iload_n 1 5 rfl dX8_at_4 rfl rfl ?_
  refine a_aload_n 0 6 rfl dX8_at_5 rfl rfl ?_
  refine a_get 3 cl_7 f_RX8_19_7 (by decide) (hL) rfl 9 rfl dX8_at_6 ?_
  refine a_icmp_ge 30 12 rfl dX8_at_9 (by decide) (fun hc => absurd hc (nI_ge hj (by omega))) (fun _ => ?_)
  refine a_iload_n 1 13 rfl dX8_at_12 rfl rfl ?_
  refine a_aload_n 0 14 rfl dX8_at_13 rfl rfl ?_
  refine a_get 0 cl_7 f_RX8_9_7 (by decide) (hL) rfl 17 rfl dX8_at_14 ?_
  refine a_alen (y := 20) 1 (hB) rfl rfl 18 rfl dX8_at_17 ?_
  refine a_icmp_ge 30 21 rfl dX8_at_18 (by decide) (fun hc => absurd hc (nI_ge (b := 20) (by omega) (by omega))) (fun _ => ?_)
  refine a_aload_n 0 22 rfl dX8_at_21 rfl rfl ?_
  refine a_get 0 cl_7 f_RX8_9_7 (by decide) (hL) rfl 25 rfl dX8_at_22 ?_
  refine a_iload_n 1 26 rfl dX8_at_25 rfl rfl ?_
  refine a_lald (hB) (vp_in_nI (by omega) (by omega)) 27 rfl dX8_at_26 ?_
  refine a_goto 31 dX8_at_27 (by decide) ?_
  exact a_lreturn rfl ((by rw [g_cl (by omega)])) (rfl) dX8_at_31
theorem r_X8_place_out {th so : Int32} (hL : h[a]? = some (c_O 7 [.ref (g_ad G kb), .int th, .int so, .int (nI n)])) (hn : n ≤ 20) (hi : ¬ vp_in i n) : g_Run G mX8_place 1 0 0 [.ref (g_ad G a), .int i, .long x] h (some (.int 0)) h := by
  refine g_Run.of (lv := [(0, .ref (g_ad G a)), (1, .int i), (2, .long x)]) (by decide) (Nat.le_of_ble_eq_true rfl) rfl ?_
  by_cases c0 : i < 0
  · skip
    refine a_iload_n 1 1 rfl dX8_place_0 rfl rfl ?_
    refine a_if_lt 21 4 rfl dX8_place_1 (by decide) (fun _ => ?_) (fun hc => absurd (c0) hc)
    refine a_iconst (x := 0) 22 rfl dX8_place_21 (by decide) ?_
    exact a_ireturn .boolean rfl rfl (rfl) (rfl) dX8_place_22
  · skip
    refine a_iload_n 1 1 rfl dX8_place_0 rfl rfl ?_
    refine a_if_lt 21 4 rfl dX8_place_1 (by decide) (fun hc => absurd hc (c0)) (fun _ => ?_)
    refine a_iload_n 1 5 rfl dX8_place_4 rfl rfl ?_
    refine a_aload_n 0 6 rfl dX8_place_5 rfl rfl ?_
    refine a_get 3 cl_7 f_RX8_19_7 (by decide) (hL) rfl 9 rfl dX8_place_6 ?_
    refine a_icmp_ge 21 12 rfl dX8_place_9 (by decide) (fun _ => ?_) (fun hc => absurd (g_out_ge hi c0 (by omega)) hc)
    refine a_iconst (x := 0) 22 rfl dX8_place_21 (by decide) ?_
    exact a_ireturn .boolean rfl rfl (rfl) (rfl) dX8_place_22
theorem r_X8_place_in {th so : Int32} {j : Nat} {f : Nat → Int64} (hL : h[a]? = some (c_O 7 [.ref (g_ad G kb), .int th, .int so, .int (nI n)])) (hB : h[kb]? = some (c_L G 20 f)) (hn : n ≤ 20) (hj : j < n) : g_Run G mX8_place 1 0 0 [.ref (g_ad G a), .int (nI j), .long x] h (some (.int 1)) (h.set kb (c_L G 20 (vp_updL f j (if so = 0 then x.toInt32.toInt64 else x)))) := by
  refine g_Run.of (lv := [(0, .ref (g_ad G a)), (1, .int (nI j)), (2, .long x)]) (by decide) (Nat.le_of_ble_eq_true rfl) rfl ?_
  refine a_iload_n 1 1 rfl dX8_place_0 rfl rfl ?_
  refine a_if_lt 21 4 rfl dX8_place_1 (by decide) (fun hc => absurd hc (nI_pos (by omega))) (fun _ => ?_)
  refine a_iload_n 1 5 rfl dX8_place_4 rfl rfl ?_
  refine a_aload_n 0 6 rfl dX8_place_5 rfl rfl ?_
  refine a_get 3 cl_7 f_RX8_19_7 (by decide) (hL) rfl 9 rfl dX8_place_6 ?_
  refine a_icmp_ge 21 12 rfl dX8_place_9 (by decide) (fun hc => absurd hc (nI_ge hj (by omega))) (fun _ => ?_)
  refine a_iload_n 1 13 rfl dX8_place_12 rfl rfl ?_
  refine a_aload_n 0 14 rfl dX8_place_13 rfl rfl ?_
  refine a_get 0 cl_7 f_RX8_9_7 (by decide) (hL) rfl 17 rfl dX8_place_14 ?_
  refine a_alen (y := 20) 1 (hB) rfl rfl 18 rfl dX8_place_17 ?_
  refine a_icmp_lt 23 21 rfl dX8_place_18 (by decide) (fun _ => ?_) (fun hc => absurd (nI_lt (b := 20) (by omega) (by omega)) hc)
  refine a_aload_n 0 24 rfl dX8_place_23 rfl rfl ?_
  refine a_get 0 cl_7 f_RX8_9_7 (by decide) (hL) rfl 27 rfl dX8_place_24 ?_
  refine a_iload_n 1 28 rfl dX8_place_27 rfl rfl ?_
  refine a_aload_n 0 29 rfl dX8_place_28 rfl rfl ?_
  refine a_get 2 cl_7 f_RX8_23_7 (by decide) (hL) rfl 32 rfl dX8_place_29 ?_
  refine a_if_ne 41 35 rfl dX8_place_32 (by decide) (fun c32 => ?_) (fun c32 => ?_)
  · skip
    refine a_lload_n 2 42 rfl dX8_place_41 rfl rfl ?_
    refine a_last (hB) (vp_in_nI (by omega) (by omega)) 43 rfl dX8_place_42 ?_
    refine a_iconst (x := 1) 44 rfl dX8_place_43 (by decide) ?_
    exact a_ireturn .boolean rfl rfl (rfl) ((by rw [g_cl (by omega), if_neg c32])) dX8_place_44
  · skip
    refine a_lload_n 2 36 rfl dX8_place_35 rfl rfl ?_
    refine a_l2i 37 rfl dX8_place_36 ?_
    refine a_i2l 38 rfl dX8_place_37 ?_
    refine a_goto 42 dX8_place_38 (by decide) ?_
    refine a_last (hB) (vp_in_nI (by omega) (by omega)) 43 rfl dX8_place_42 ?_
    refine a_iconst (x := 1) 44 rfl dX8_place_43 (by decide) ?_
    exact a_ireturn .boolean rfl rfl (rfl) ((by rw [g_cl (by omega), if_pos c32])) dX8_place_44
theorem r_X8_lay {th so mn so2 mn2 : Int32} {f : Nat → Int64} (hL : h[a]? = some (c_O 7 [.ref (g_ad G kb), .int th, .int so, .int mn])) (hB : h[kb]? = some (c_L G 20 f)) (hne : a ≠ kb) : ∃ f2 : Nat → Int64, (∀ j, j < 20 → f2 j = 0) ∧ g_Run G mX8_lay 1 0 0 [.ref (g_ad G a), .int so2, .int mn2] h none ((h.set a (c_O 7 [.ref (g_ad G kb), .int 1, .int so2, .int mn2])).set kb (c_L G 20 f2)) := by
  have hB2 : (h.set a (c_O 7 [.ref (g_ad G kb), .int 1, .int so2, .int mn2]))[kb]? = some (c_L G 20 f) := g_set_ne hne hB
  have hL2 : ∀ f2, ((h.set a (c_O 7 [.ref (g_ad G kb), .int 1, .int so2, .int mn2])).set kb (c_L G 20 f2))[a]? = some (c_O 7 [.ref (g_ad G kb), .int 1, .int so2, .int mn2]) := fun f2 => g_set_ne (Ne.symm hne) (g_set_eq hL)
  have hB3 : ∀ f2, ((h.set a (c_O 7 [.ref (g_ad G kb), .int 1, .int so2, .int mn2])).set kb (c_L G 20 f2))[kb]? = some (c_L G 20 f2) := fun f2 => g_set_eq hB2
  have key : ∀ j k : Nat, k + j = 20 → ∀ f1 : Nat → Int64, (∀ q, q < k → f1 q = 0) → ∃ f2 : Nat → Int64, (∀ q, q < 20 → f2 q = 0) ∧ g_A G mX8_lay 1 0 0 17 [(3, .int (nI k)), (0, .ref (g_ad G a)), (1, .int so2), (2, .int mn2)] [] ((h.set a (c_O 7 [.ref (g_ad G kb), .int 1, .int so2, .int mn2])).set kb (c_L G 20 f1)) none ((h.set a (c_O 7 [.ref (g_ad G kb), .int 1, .int so2, .int mn2])).set kb (c_L G 20 f2)) := by
    intro j
    induction j with
    | zero =>
      intro k hk f1 hf
      refine ⟨f1, fun q hq => hf q (by omega), ?_⟩
      refine a_iload_n 0 18 rfl dX8_lay_17 rfl rfl ?_
      refine a_aload_n 1 19 rfl dX8_lay_18 rfl rfl ?_
      refine a_get 0 cl_7 f_RX8_9_7 (by decide) (hL2 f1) rfl 22 rfl dX8_lay_19 ?_
      refine a_alen (y := 20) 1 (hB3 f1) rfl rfl 23 rfl dX8_lay_22 ?_
      refine a_icmp_ge 39 26 rfl dX8_lay_23 (by decide) (fun _ => ?_) (fun hc => absurd ((nI_le (a := 20) (by omega) (by omega))) hc)
      exact a_return rfl (rfl) (rfl) dX8_lay_39
    | succ j ih =>
      intro k hk f1 hf
      obtain ⟨f2, hf2, w⟩ := ih (k + 1) (by omega) (vp_updL f1 k 0) (fun q hq => by
        by_cases e : q = k
        · rw [e]; exact pk_uLs
        · rw [pk_uLn e]; exact hf q (by omega))
      refine ⟨f2, hf2, ?_⟩
      refine a_iload_n 0 18 rfl dX8_lay_17 rfl rfl ?_
      refine a_aload_n 1 19 rfl dX8_lay_18 rfl rfl ?_
      refine a_get 0 cl_7 f_RX8_9_7 (by decide) (hL2 f1) rfl 22 rfl dX8_lay_19 ?_
      refine a_alen (y := 20) 1 (hB3 f1) rfl rfl 23 rfl dX8_lay_22 ?_
      refine a_icmp_ge 39 26 rfl dX8_lay_23 (by decide) (fun hc => absurd hc (nI_ge (b := 20) (by omega) (by omega))) (fun _ => ?_)
      refine a_aload_n 1 27 rfl dX8_lay_26 rfl rfl ?_
      refine a_get 0 cl_7 f_RX8_9_7 (by decide) (hL2 f1) rfl 30 rfl dX8_lay_27 ?_
      refine a_iload_n 0 31 rfl dX8_lay_30 rfl rfl ?_
      refine a_lconst (x := 0) 32 rfl dX8_lay_31 (by decide) ?_
      refine a_last (hB3 f1) (vp_in_nI (by omega) (by omega)) 33 rfl dX8_lay_32 ?_
      refine a_iinc (y := nI (k + 1)) (lv' := [(3, .int (nI (k + 1))), (0, .ref (g_ad G a)), (1, .int so2), (2, .int mn2)]) 0 36 rfl dX8_lay_33 rfl (nI_1 k) (by decide) rfl ?_
      refine a_goto 17 dX8_lay_36 (by decide) ?_
      refine a_eq rfl rfl rfl ?_ w
      rw [List.set_set, g_cl (by omega)]
  obtain ⟨f2, hf2, w⟩ := key 20 0 rfl f (fun q hq => absurd hq (Nat.not_lt_zero q))
  refine ⟨f2, hf2, ?_⟩
  refine g_Run.of (lv := [(0, .ref (g_ad G a)), (1, .int so2), (2, .int mn2)]) (by decide) (Nat.le_of_ble_eq_true rfl) rfl ?_
  refine a_aload_n 0 1 rfl dX8_lay_0 rfl rfl ?_
  refine a_iconst (x := 1) 2 rfl dX8_lay_1 (by decide) ?_
  refine a_put (fs' := [.ref (g_ad G kb), .int 1, .int so, .int mn]) 1 cl_7 f_RX8_15_7 (by decide) (hL) rfl rfl rfl (Nat.le_of_ble_eq_true rfl) rfl 5 rfl dX8_lay_2 ?_
  refine a_aload_n 0 6 rfl dX8_lay_5 rfl rfl ?_
  refine a_iload_n 1 7 rfl dX8_lay_6 rfl rfl ?_
  refine a_put (fs' := [.ref (g_ad G kb), .int 1, .int so2, .int mn]) 2 cl_7 f_RX8_23_7 (by decide) (g_set_eq (hL)) rfl rfl rfl (Nat.le_of_ble_eq_true rfl) rfl 10 rfl dX8_lay_7 ?_
  refine a_aload_n 0 11 rfl dX8_lay_10 rfl rfl ?_
  refine a_iload_n 2 12 rfl dX8_lay_11 rfl rfl ?_
  refine a_put (fs' := [.ref (g_ad G kb), .int 1, .int so2, .int mn2]) 3 cl_7 f_RX8_19_7 (by decide) (g_set_eq (g_set_eq (hL))) rfl rfl rfl (Nat.le_of_ble_eq_true rfl) rfl 15 rfl dX8_lay_12 ?_
  refine a_iconst (x := 0) 16 rfl dX8_lay_15 (by decide) ?_
  refine a_istore_n (lv' := [(3, .int 0), (0, .ref (g_ad G a)), (1, .int so2), (2, .int mn2)]) 17 rfl dX8_lay_16 rfl (by decide) rfl ?_
  refine a_eq rfl rfl rfl ?_ w
  rw [List.set_set, List.set_set, g_set_self hB2]
end SM1
