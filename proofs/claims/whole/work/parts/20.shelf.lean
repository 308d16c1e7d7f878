/-! Shelf -/
section SH1
variable {G : g_G} {h : List va_E} {a b ka kb kc kd n p9 : Nat} {i y y2 y3 y4 : Int32} {f c9 f8 : Nat → Option Nat}
abbrev c_Sh (G : g_G) (ka kc : Nat) (th so : Int32) (p : Nat) : va_E := c_O 8 [.ref (g_ad G ka), .ref (g_ad G kc), .int th, .int so, .int (nI p)]
theorem r_X9_isMissing (hS : h[a]? = some (c_Sh G ka kc y y2 p9)) : g_Run G mX9_isMissing 1 0 0 [.ref (g_ad G a)] h (some (.int (if y = 0 then 1 else 0))) h := by
  refine g_Run.of (lv := [(0, .ref (g_ad G a))]) (by decide) (Nat.le_of_ble_eq_true rfl) rfl ?_
  refine a_aload_n 0 1 rfl dX9_isMissing_0 rfl rfl ?_
  refine a_get 2 cl_8 f_RX9_20_8 (by decide) (hS) rfl 4 rfl dX9_isMissing_1 ?_
  refine a_if_ne 11 7 rfl dX9_isMissing_4 (by decide) (fun c4 => ?_) (fun c4 => ?_)
  · skip
    refine a_iconst (x := 0) 12 rfl dX9_isMissing_11 (by decide) ?_
    exact a_ireturn .boolean rfl rfl ((by rw [if_neg c4])) (rfl) dX9_isMissing_12
  · skip
    refine a_iconst (x := 1) 8 rfl dX9_isMissing_7 (by decide) ?_
    refine a_goto 12 dX9_isMissing_8 (by decide) ?_
    exact a_ireturn .boolean rfl rfl ((by rw [if_pos c4])) (rfl) dX9_isMissing_12
theorem r_X9_places (hS : h[a]? = some (c_Sh G ka kc y y2 p9)) : g_Run G mX9_places 1 0 0 [.ref (g_ad G a)] h (some (.int (nI p9))) h := by
  refine g_Run.of (lv := [(0, .ref (g_ad G a))]) (by decide) (Nat.le_of_ble_eq_true rfl) rfl ?_
  refine a_aload_n 0 1 rfl dX9_places_0 rfl rfl ?_
  refine a_get 4 cl_8 f_RX9_24_8 (by decide) (hS) rfl 4 rfl dX9_places_1 ?_
  exact a_ireturn .int rfl rfl (rfl) (rfl) dX9_places_4
theorem r_X9_remove (hS : h[a]? = some (c_Sh G ka kc y y2 p9)) : g_Run G mX9_remove 1 0 0 [.ref (g_ad G a)] h none (h.set a (c_Sh G ka kc 0 y2 0)) := by
  refine g_Run.of (lv := [(0, .ref (g_ad G a))]) (by decide) (Nat.le_of_ble_eq_true rfl) rfl ?_
  refine a_aload_n 0 1 rfl dX9_remove_0 rfl rfl ?_
  refine a_iconst (x := 0) 2 rfl dX9_remove_1 (by decide) ?_
  refine a_put (fs' := [.ref (g_ad G ka), .ref (g_ad G kc), .int 0, .int y2, .int (nI p9)]) 2 cl_8 f_RX9_20_8 (by decide) (hS) rfl rfl rfl (Nat.le_of_ble_eq_true rfl) rfl 5 rfl dX9_remove_2 ?_
  refine a_aload_n 0 6 rfl dX9_remove_5 rfl rfl ?_
  refine a_iconst (x := 0) 7 rfl dX9_remove_6 (by decide) ?_
  refine a_put (fs' := [.ref (g_ad G ka), .ref (g_ad G kc), .int 0, .int y2, .int 0]) 4 cl_8 f_RX9_24_8 (by decide) (g_set_eq (hS)) rfl rfl rfl (Nat.le_of_ble_eq_true rfl) rfl 10 rfl dX9_remove_7 ?_
  exact a_return rfl (rfl) ((by rw [List.set_set]; rfl)) dX9_remove_10
theorem r_X9_lay {p8 : Nat} (hS : h[a]? = some (c_Sh G ka kc y y2 p9)) (hB : h[ka]? = some (c_Q G 3 6 f)) (hne : a ≠ ka) : ∃ f2 : Nat → Option Nat, (∀ j, j < 6 → f2 j = none) ∧ g_Run G mX9_lay 1 0 0 [.ref (g_ad G a), .int y3, .int (nI p8)] h none ((h.set a (c_Sh G ka kc 1 y3 p8)).set ka (c_Q G 3 6 f2)) := by
  have hB2 : (h.set a (c_Sh G ka kc 1 y3 p8))[ka]? = some (c_Q G 3 6 f) := g_set_ne hne hB
  have key : ∀ jj ii : Nat, ii + jj = 6 → ∀ f1 : Nat → Option Nat, (∀ q7, q7 < ii → f1 q7 = none) → ∃ f2 : Nat → Option Nat, (∀ q7, q7 < 6 → f2 q7 = none) ∧ g_A G mX9_lay 1 0 0 17 [(3, .int (nI ii)), (0, .ref (g_ad G a)), (1, .int y3), (2, .int (nI p8))] [] ((h.set a (c_Sh G ka kc 1 y3 p8)).set ka (c_Q G 3 6 f1)) none ((h.set a (c_Sh G ka kc 1 y3 p8)).set ka (c_Q G 3 6 f2)) := by
    intro jj
    induction jj with
    | zero =>
      intro ii hii f1 hf
      refine ⟨f1, fun q7 hq7 => hf q7 (by omega), ?_⟩
      refine a_iload_n 0 18 rfl dX9_lay_17 rfl rfl ?_
      refine a_aload_n 1 19 rfl dX9_lay_18 rfl rfl ?_
      refine a_get 0 cl_8 f_RX9_11_8 (by decide) (g_set_ne (Ne.symm hne) (g_set_eq hS)) rfl 22 rfl dX9_lay_19 ?_
      refine a_alen (y := 6) 3 (g_set_eq hB2) rfl rfl 23 rfl dX9_lay_22 ?_
      refine a_icmp_ge 39 26 rfl dX9_lay_23 (by decide) (fun _ => ?_) (fun hc => absurd ((nI_le (a := 6) (by omega) (by omega))) hc)
      exact a_return rfl (rfl) (rfl) dX9_lay_39
    | succ jj ih =>
      intro ii hii f1 hf
      obtain ⟨f2, hf2, w⟩ := ih (ii + 1) (by omega) (va_up f1 ii none) (fun q7 hq7 => by
        by_cases e7 : q7 = ii
        · rw [e7, va_up_self]
        · rw [va_up_ne _ _ e7]; exact hf q7 (by omega))
      refine ⟨f2, hf2, ?_⟩
      refine a_iload_n 0 18 rfl dX9_lay_17 rfl rfl ?_
      refine a_aload_n 1 19 rfl dX9_lay_18 rfl rfl ?_
      refine a_get 0 cl_8 f_RX9_11_8 (by decide) (g_set_ne (Ne.symm hne) (g_set_eq hS)) rfl 22 rfl dX9_lay_19 ?_
      refine a_alen (y := 6) 3 (g_set_eq hB2) rfl rfl 23 rfl dX9_lay_22 ?_
      refine a_icmp_ge 39 26 rfl dX9_lay_23 (by decide) (fun hc => absurd hc (nI_ge (b := 6) (by omega) (by omega))) (fun _ => ?_)
      refine a_aload_n 1 27 rfl dX9_lay_26 rfl rfl ?_
      refine a_get 0 cl_8 f_RX9_11_8 (by decide) (g_set_ne (Ne.symm hne) (g_set_eq hS)) rfl 30 rfl dX9_lay_27 ?_
      refine a_iload_n 0 31 rfl dX9_lay_30 rfl rfl ?_
      refine a_null 32 rfl dX9_lay_31 ?_
      refine a_ast3N (g_set_eq hB2) (vp_in_nI (by omega) (by omega)) 33 rfl dX9_lay_32 ?_
      refine a_iinc (y := nI (ii + 1)) (lv' := [(3, .int (nI (ii + 1))), (0, .ref (g_ad G a)), (1, .int y3), (2, .int (nI p8))]) 0 36 rfl dX9_lay_33 rfl (nI_1 ii) (by decide) rfl ?_
      refine a_goto 17 dX9_lay_36 (by decide) ?_
      refine a_eq rfl rfl rfl ?_ w
      rw [List.set_set, g_cl (by omega)]
  obtain ⟨f2, hf2, w⟩ := key 6 0 rfl f (fun q7 hq7 => absurd hq7 (Nat.not_lt_zero q7))
  refine ⟨f2, hf2, ?_⟩
  refine g_Run.of (lv := [(0, .ref (g_ad G a)), (1, .int y3), (2, .int (nI p8))]) (by decide) (Nat.le_of_ble_eq_true rfl) rfl ?_
  refine a_aload_n 0 1 rfl dX9_lay_0 rfl rfl ?_
  refine a_iconst (x := 1) 2 rfl dX9_lay_1 (by decide) ?_
  refine a_put (fs' := [.ref (g_ad G ka), .ref (g_ad G kc), .int 1, .int y2, .int (nI p9)]) 2 cl_8 f_RX9_20_8 (by decide) (hS) rfl rfl rfl (Nat.le_of_ble_eq_true rfl) rfl 5 rfl dX9_lay_2 ?_
  refine a_aload_n 0 6 rfl dX9_lay_5 rfl rfl ?_
  refine a_iload_n 1 7 rfl dX9_lay_6 rfl rfl ?_
  refine a_put (fs' := [.ref (g_ad G ka), .ref (g_ad G kc), .int 1, .int y3, .int (nI p9)]) 3 cl_8 f_RX9_28_8 (by decide) (g_set_eq (hS)) rfl rfl rfl (Nat.le_of_ble_eq_true rfl) rfl 10 rfl dX9_lay_7 ?_
  refine a_aload_n 0 11 rfl dX9_lay_10 rfl rfl ?_
  refine a_iload_n 2 12 rfl dX9_lay_11 rfl rfl ?_
  refine a_put (fs' := [.ref (g_ad G ka), .ref (g_ad G kc), .int 1, .int y3, .int (nI p8)]) 4 cl_8 f_RX9_24_8 (by decide) (g_set_eq (g_set_eq (hS))) rfl rfl rfl (Nat.le_of_ble_eq_true rfl) rfl 15 rfl dX9_lay_12 ?_
  refine a_iconst (x := 0) 16 rfl dX9_lay_15 (by decide) ?_
  refine a_istore_n (lv' := [(3, .int 0), (0, .ref (g_ad G a)), (1, .int y3), (2, .int (nI p8))]) 17 rfl dX9_lay_16 rfl (by decide) rfl ?_
  refine a_eq rfl rfl rfl ?_ w
  rw [List.set_set, List.set_set, g_set_self hB2]
theorem r_X9_hasPlaces_t {i9 n9 : Nat} (hS : h[a]? = some (c_Sh G ka kc y y2 p9)) (hp : p9 ≤ 6) (hin : i9 + n9 ≤ p9) : g_Run G mX9_hasPlaces 1 0 0 [.ref (g_ad G a), .int (nI i9), .int (nI n9)] h (some (.int 1)) h := by
  refine g_Run.of (lv := [(0, .ref (g_ad G a)), (1, .int (nI i9)), (2, .int (nI n9))]) (by decide) (Nat.le_of_ble_eq_true rfl) rfl ?_
  refine a_iload_n 2 1 rfl dX9_hasPlaces_0 rfl rfl ?_
  refine a_if_lt 30 4 rfl dX9_hasPlaces_1 (by decide) (fun hc => absurd hc (nI_pos (by omega))) (fun _ => ?_)
  refine a_iload_n 1 5 rfl dX9_hasPlaces_4 rfl rfl ?_
  refine a_if_lt 30 8 rfl dX9_hasPlaces_5 (by decide) (fun hc => absurd hc (nI_pos (by omega))) (fun _ => ?_)
  refine a_iload_n 2 9 rfl dX9_hasPlaces_8 rfl rfl ?_
  refine a_aload_n 0 10 rfl dX9_hasPlaces_9 rfl rfl ?_
  refine a_get 4 cl_8 f_RX9_24_8 (by decide) (hS) rfl 13 rfl dX9_hasPlaces_10 ?_
  refine a_icmp_gt 30 16 rfl dX9_hasPlaces_13 (by decide) (fun hc => absurd hc (nI_nlt (by omega) (by omega))) (fun _ => ?_)
  refine a_iload_n 1 17 rfl dX9_hasPlaces_16 rfl rfl ?_
  refine a_aload_n 0 18 rfl dX9_hasPlaces_17 rfl rfl ?_
  refine a_get 4 cl_8 f_RX9_24_8 (by decide) (hS) rfl 21 rfl dX9_hasPlaces_18 ?_
  refine a_iload_n 2 22 rfl dX9_hasPlaces_21 rfl rfl ?_
  refine a_isub 23 rfl dX9_hasPlaces_22 ?_
  refine a_icmp_gt 30 26 rfl dX9_hasPlaces_23 (by decide) (fun hc => absurd hc ((by rw [pk_sub (by omega)]; exact nI_nlt (by omega) (by omega)))) (fun _ => ?_)
  refine a_iconst (x := 1) 27 rfl dX9_hasPlaces_26 (by decide) ?_
  refine a_goto 31 dX9_hasPlaces_27 (by decide) ?_
  exact a_ireturn .boolean rfl rfl (rfl) (rfl) dX9_hasPlaces_31
theorem r_X9_hasPlaces_f (hS : h[a]? = some (c_Sh G ka kc y y2 p9)) (hp : p9 ≤ 6) (hno : ∀ i9 n9 : Nat, i = nI i9 → y3 = nI n9 → ¬ i9 + n9 ≤ p9) : g_Run G mX9_hasPlaces 1 0 0 [.ref (g_ad G a), .int i, .int y3] h (some (.int 0)) h := by
  refine g_Run.of (lv := [(0, .ref (g_ad G a)), (1, .int i), (2, .int y3)]) (by decide) (Nat.le_of_ble_eq_true rfl) rfl ?_
  by_cases e1 : y3 < 0
  · skip
    refine a_iload_n 2 1 rfl dX9_hasPlaces_0 rfl rfl ?_
    refine a_if_lt 30 4 rfl dX9_hasPlaces_1 (by decide) (fun _ => ?_) (fun hc => absurd (e1) hc)
    refine a_iconst (x := 0) 31 rfl dX9_hasPlaces_30 (by decide) ?_
    exact a_ireturn .boolean rfl rfl (rfl) (rfl) dX9_hasPlaces_31
  · by_cases e2 : i < 0
    · skip
      refine a_iload_n 2 1 rfl dX9_hasPlaces_0 rfl rfl ?_
      refine a_if_lt 30 4 rfl dX9_hasPlaces_1 (by decide) (fun hc => absurd hc (e1)) (fun _ => ?_)
      refine a_iload_n 1 5 rfl dX9_hasPlaces_4 rfl rfl ?_
      refine a_if_lt 30 8 rfl dX9_hasPlaces_5 (by decide) (fun _ => ?_) (fun hc => absurd (e2) hc)
      refine a_iconst (x := 0) 31 rfl dX9_hasPlaces_30 (by decide) ?_
      exact a_ireturn .boolean rfl rfl (rfl) (rfl) dX9_hasPlaces_31
    · obtain ⟨n9, hn9, en9⟩ := nI_of e1
      obtain ⟨i9, hi9, ei9⟩ := nI_of e2
      have e3 := hno i9 n9 ei9 en9
      by_cases e4 : p9 < n9
      · skip
        refine a_iload_n 2 1 rfl dX9_hasPlaces_0 rfl rfl ?_
        refine a_if_lt 30 4 rfl dX9_hasPlaces_1 (by decide) (fun hc => absurd hc (e1)) (fun _ => ?_)
        refine a_iload_n 1 5 rfl dX9_hasPlaces_4 rfl rfl ?_
        refine a_if_lt 30 8 rfl dX9_hasPlaces_5 (by decide) (fun hc => absurd hc (e2)) (fun _ => ?_)
        refine a_iload_n 2 9 rfl dX9_hasPlaces_8 rfl rfl ?_
        refine a_aload_n 0 10 rfl dX9_hasPlaces_9 rfl rfl ?_
        refine a_get 4 cl_8 f_RX9_24_8 (by decide) (hS) rfl 13 rfl dX9_hasPlaces_10 ?_
        refine a_icmp_gt 30 16 rfl dX9_hasPlaces_13 (by decide) (fun _ => ?_) (fun hc => absurd ((by rw [en9]; exact nI_lt e4 (by omega))) hc)
        refine a_iconst (x := 0) 31 rfl dX9_hasPlaces_30 (by decide) ?_
        exact a_ireturn .boolean rfl rfl (rfl) (rfl) dX9_hasPlaces_31
      · skip
        refine a_iload_n 2 1 rfl dX9_hasPlaces_0 rfl rfl ?_
        refine a_if_lt 30 4 rfl dX9_hasPlaces_1 (by decide) (fun hc => absurd hc (e1)) (fun _ => ?_)
        refine a_iload_n 1 5 rfl dX9_hasPlaces_4 rfl rfl ?_
        refine a_if_lt 30 8 rfl dX9_hasPlaces_5 (by decide) (fun hc => absurd hc (e2)) (fun _ => ?_)
        refine a_iload_n 2 9 rfl dX9_hasPlaces_8 rfl rfl ?_
        refine a_aload_n 0 10 rfl dX9_hasPlaces_9 rfl rfl ?_
        refine a_get 4 cl_8 f_RX9_24_8 (by decide) (hS) rfl 13 rfl dX9_hasPlaces_10 ?_
        refine a_icmp_gt 30 16 rfl dX9_hasPlaces_13 (by decide) (fun hc => absurd hc ((by rw [en9]; exact nI_nlt (by omega) (by omega)))) (fun _ => ?_)
        refine a_iload_n 1 17 rfl dX9_hasPlaces_16 rfl rfl ?_
        refine a_aload_n 0 18 rfl dX9_hasPlaces_17 rfl rfl ?_
        refine a_get 4 cl_8 f_RX9_24_8 (by decide) (hS) rfl 21 rfl dX9_hasPlaces_18 ?_
        refine a_iload_n 2 22 rfl dX9_hasPlaces_21 rfl rfl ?_
        refine a_isub 23 rfl dX9_hasPlaces_22 ?_
        refine a_icmp_gt 30 26 rfl dX9_hasPlaces_23 (by decide) (fun _ => ?_) (fun hc => absurd ((by rw [en9, ei9, pk_sub (by omega)]; exact nI_lt (by omega) (by omega))) hc)
        refine a_iconst (x := 0) 31 rfl dX9_hasPlaces_30 (by decide) ?_
        exact a_ireturn .boolean rfl rfl (rfl) (rfl) dX9_hasPlaces_31
theorem r_X9_at_in {j : Nat} (hS : h[a]? = some (c_Sh G ka kc y y2 p9)) (hR : h[ka]? = some (c_Q G 3 6 f)) (hp : p9 ≤ 6) (hj : j < p9) : g_Run G mX9_at 1 0 0 [.ref (g_ad G a), .int (nI j)] h (some (va_rf (f j))) h := by
  refine g_Run.of (lv := [(0, .ref (g_ad G a)), (1, .int (nI j))]) (by decide) (Nat.le_of_ble_eq_true rfl) rfl ?_
  refine a_iload_n 1 1 rfl dX9_at_0 rfl rfl ?_
  refine a_if_lt 30 4 rfl dX9_at_1 (by decide) (fun hc => absurd hc (nI_pos (by omega))) (fun _ => ?_)
  refine a_iload_n 1 5 rfl dX9_at_4 rfl rfl ?_
  refine a_aload_n 0 6 rfl dX9_at_5 rfl rfl ?_
  refine a_get 4 cl_8 f_RX9_24_8 (by decide) (hS) rfl 9 rfl dX9_at_6 ?_
  refine a_icmp_ge 30 12 rfl dX9_at_9 (by decide) (fun hc => absurd hc (nI_ge hj (by omega))) (fun _ => ?_)
  refine a_iload_n 1 13 rfl dX9_at_12 rfl rfl ?_
  refine a_aload_n 0 14 rfl dX9_at_13 rfl rfl ?_
  refine a_get 0 cl_8 f_RX9_11_8 (by decide) (hS) rfl 17 rfl dX9_at_14 ?_
  refine a_alen (y := 6) 3 (hR) rfl rfl 18 rfl dX9_at_17 ?_
  refine a_icmp_ge 30 21 rfl dX9_at_18 (by decide) (fun hc => absurd hc (nI_ge (b := 6) (by omega) (by omega))) (fun _ => ?_)
  refine a_aload_n 0 22 rfl dX9_at_21 rfl rfl ?_
  refine a_get 0 cl_8 f_RX9_11_8 (by decide) (hS) rfl 25 rfl dX9_at_22 ?_
  refine a_iload_n 1 26 rfl dX9_at_25 rfl rfl ?_
  refine a_ald3 (hR) (vp_in_nI (by omega) (by omega)) 27 rfl dX9_at_26 ?_
  refine a_goto 31 dX9_at_27 (by decide) ?_
  exact a_areturn rfl (Or.inl ⟨_, rfl⟩) (va_rf_or _) ((by rw [g_cl (by omega)])) (rfl) dX9_at_31
theorem r_X9_at_out (hS : h[a]? = some (c_Sh G ka kc y y2 p9)) (hp : p9 ≤ 6) (hi : ¬ vp_in i p9) : g_Run G mX9_at 1 0 0 [.ref (g_ad G a), .int i] h (some .null) h := by
  refine g_Run.of (lv := [(0, .ref (g_ad G a)), (1, .int i)]) (by decide) (Nat.le_of_ble_eq_true rfl) rfl ?_
  by_cases c0 : i < 0
  · skip
    refine a_iload_n 1 1 rfl dX9_at_0 rfl rfl ?_
    refine a_if_lt 30 4 rfl dX9_at_1 (by decide) (fun _ => ?_) (fun hc => absurd (c0) hc)
    refine a_null 31 rfl dX9_at_30 ?_
    exact a_areturn rfl (Or.inl ⟨_, rfl⟩) (Or.inl rfl) (rfl) (rfl) dX9_at_31
  · skip
    refine a_iload_n 1 1 rfl dX9_at_0 rfl rfl ?_
    refine a_if_lt 30 4 rfl dX9_at_1 (by decide) (fun hc => absurd hc (c0)) (fun _ => ?_)
    refine a_iload_n 1 5 rfl dX9_at_4 rfl rfl ?_
    refine a_aload_n 0 6 rfl dX9_at_5 rfl rfl ?_
    refine a_get 4 cl_8 f_RX9_24_8 (by decide) (hS) rfl 9 rfl dX9_at_6 ?_
    refine a_icmp_ge 30 12 rfl dX9_at_9 (by decide) (fun _ => ?_) (fun hc => absurd (g_out_ge hi c0 (by omega)) hc)
    refine a_null 31 rfl dX9_at_30 ?_
    exact a_areturn rfl (Or.inl ⟨_, rfl⟩) (Or.inl rfl) (rfl) (rfl) dX9_at_31
/-- whether a shelf of sort s may hold a family of kind k -/
def f_may (s k : Nat) : Bool := s == 0 || f_under k (if s = 1 then 3 else 2)
theorem r_X9_mayHoldN : g_Run G mX9_mayHold 3 0 0 [.ref (g_ad G a), .null] h (some (.int 1)) h := by
  refine g_Run.of (lv := [(0, .ref (g_ad G a)), (1, .null)]) (by decide) (Nat.le_of_ble_eq_true rfl) rfl ?_
  refine a_aload_nN 1 1 rfl dX9_mayHold_0 rfl rfl ?_
  refine a_ifnullN 31 dX9_mayHold_1 (by decide) ?_
  refine a_iconst (x := 1) 32 rfl dX9_mayHold_31 (by decide) ?_
  refine a_goto 36 dX9_mayHold_32 (by decide) ?_
  exact a_ireturn .boolean rfl rfl (rfl) (rfl) dX9_mayHold_36
theorem r_X9_mayHold {s9 k9 : Nat} {x : Int64} (hS : h[a]? = some (c_Sh G ka kc y (nI s9) p9)) (hF : h[b]? = some (c_O 5 [.int (nI k9), .int y2, .long x])) (hs : s9 < 3) (hk : k9 < 6) : g_Run G mX9_mayHold 3 0 0 [.ref (g_ad G a), .ref (g_ad G b)] h (some (.int (if f_may s9 k9 then 1 else 0))) h := by
  refine g_Run.of (lv := [(0, .ref (g_ad G a)), (1, .ref (g_ad G b))]) (by decide) (Nat.le_of_ble_eq_true rfl) rfl ?_
  refine a_aload_n 1 1 rfl dX9_mayHold_0 rfl rfl ?_
  refine a_ifnull 4 rfl dX9_mayHold_1 ?_
  refine a_aload_n 0 5 rfl dX9_mayHold_4 rfl rfl ?_
  refine a_get 3 cl_8 f_RX9_28_8 (by decide) (hS) rfl 8 rfl dX9_mayHold_5 ?_
  by_cases e0 : s9 = 0
  · skip
    refine a_if_eq 31 11 rfl dX9_mayHold_8 (by decide) (fun _ => ?_) (fun hc => absurd ((by rw [e0]; rfl)) hc)
    refine a_iconst (x := 1) 32 rfl dX9_mayHold_31 (by decide) ?_
    refine a_goto 36 dX9_mayHold_32 (by decide) ?_
    exact a_ireturn .boolean rfl rfl ((by rw [if_pos (by simp [f_may, e0])])) (rfl) dX9_mayHold_36
  · have n0 : ¬ nI s9 = 0 := nI_ne0 (by omega) (by omega)
    refine a_if_eq 31 11 rfl dX9_mayHold_8 (by decide) (fun hc => absurd hc (n0)) (fun _ => ?_)
    refine a_aload_n 1 12 rfl dX9_mayHold_11 rfl rfl ?_
    refine a_aload_n 0 13 rfl dX9_mayHold_12 rfl rfl ?_
    refine a_get 3 cl_8 f_RX9_28_8 (by decide) (hS) rfl 16 rfl dX9_mayHold_13 ?_
    refine a_iconst (x := 1) 17 rfl dX9_mayHold_16 (by decide) ?_
    by_cases e1 : s9 = 1
    · have hu : f_may s9 k9 = f_under k9 3 := by simp [f_may, e1]
      refine a_icmp_ne 24 20 rfl dX9_mayHold_17 (by decide) (fun hc => absurd ((by rw [e1]; rfl)) hc) (fun _ => ?_)
      refine a_iconst (x := 3) 21 rfl dX9_mayHold_20 (by decide) ?_
      refine a_goto 25 dX9_mayHold_21 (by decide) ?_
      refine a_callVN (as := [.int 3]) (rest := []) (st2 := [.int (if f_under k9 3 then 1 else 0)]) (u1 := 0) (v1 := 0) (u2 := 0) (v2 := 0) (r_X5_isUnder (q := 3) hF hk (by omega)) (⟨_, _, _, _, hF, rfl⟩) oX5_isUnder q_940 q_942 q_61 rfl (by decide) (by decide) rfl (Nat.le_of_ble_eq_true rfl) 28 rfl dX9_mayHold_25 rfl ?_
      by_cases e2 : f_under k9 3 = true
      · skip
        refine a_if_eq 35 31 rfl dX9_mayHold_28 (by decide) (fun hc => absurd hc ((by rw [if_pos e2]; decide))) (fun _ => ?_)
        refine a_iconst (x := 1) 32 rfl dX9_mayHold_31 (by decide) ?_
        refine a_goto 36 dX9_mayHold_32 (by decide) ?_
        exact a_ireturn .boolean rfl rfl ((by rw [if_pos (hu.trans e2)])) (rfl) dX9_mayHold_36
      · skip
        refine a_if_eq 35 31 rfl dX9_mayHold_28 (by decide) (fun _ => ?_) (fun hc => absurd ((by rw [if_neg e2])) hc)
        refine a_iconst (x := 0) 36 rfl dX9_mayHold_35 (by decide) ?_
        exact a_ireturn .boolean rfl rfl ((by rw [if_neg (fun z => e2 (hu.symm.trans z))])) (rfl) dX9_mayHold_36
    · have e3 : s9 = 2 := by omega
      have hu : f_may s9 k9 = f_under k9 2 := by simp [f_may, e3]
      refine a_icmp_ne 24 20 rfl dX9_mayHold_17 (by decide) (fun _ => ?_) (fun hc => absurd hc ((fun z => e1 ((nI_eq (b := 1) (by omega) (by omega)).mp z))))
      refine a_iconst (x := 2) 25 rfl dX9_mayHold_24 (by decide) ?_
      refine a_callVN (as := [.int 2]) (rest := []) (st2 := [.int (if f_under k9 2 then 1 else 0)]) (u1 := 0) (v1 := 0) (u2 := 0) (v2 := 0) (r_X5_isUnder (q := 2) hF hk (by omega)) (⟨_, _, _, _, hF, rfl⟩) oX5_isUnder q_940 q_942 q_61 rfl (by decide) (by decide) rfl (Nat.le_of_ble_eq_true rfl) 28 rfl dX9_mayHold_25 rfl ?_
      by_cases e2 : f_under k9 2 = true
      · skip
        refine a_if_eq 35 31 rfl dX9_mayHold_28 (by decide) (fun hc => absurd hc ((by rw [if_pos e2]; decide))) (fun _ => ?_)
        refine a_iconst (x := 1) 32 rfl dX9_mayHold_31 (by decide) ?_
        refine a_goto 36 dX9_mayHold_32 (by decide) ?_
        exact a_ireturn .boolean rfl rfl ((by rw [if_pos (hu.trans e2)])) (rfl) dX9_mayHold_36
      · skip
        refine a_if_eq 35 31 rfl dX9_mayHold_28 (by decide) (fun _ => ?_) (fun hc => absurd ((by rw [if_neg e2])) hc)
        refine a_iconst (x := 0) 36 rfl dX9_mayHold_35 (by decide) ?_
        exact a_ireturn .boolean rfl rfl ((by rw [if_neg (fun z => e2 (hu.symm.trans z))])) (rfl) dX9_mayHold_36
/-- what stands behind a reference: nothing, or a family of kind k -/
def g_at (G : g_G) (h : List va_E) (r : Option Nat) (k : Option Nat) : Prop := match k with
  | none => r = none
  | some k => ∃ (o : Nat) (fg : Int32) (td : Int64), r = some (g_ad G o) ∧ h[o]? = some (c_O 5 [.int (nI k), .int fg, .long td]) ∧ k < 6
def f_mayo (s : Nat) (k : Option Nat) : Bool := match k with
  | none => true
  | some k => f_may s k
theorem g_at.fam {G : g_G} {h : List va_E} {r k : Option Nat} (hg : g_at G h r k) : g_fam G h r := by
  intro x7 hx7
  cases k with
  | none => rw [show r = none from hg] at hx7; cases hx7
  | some k =>
    obtain ⟨o, fg, td, e1, e2, e3⟩ := hg
    rw [e1] at hx7
    exact ⟨o, _, (Option.some.inj hx7).symm, e2⟩
theorem g_at.kp {G : g_G} {h h1 : List va_E} {S : List Nat} {r k : Option Nat} (hg : g_at G h r k) (hk : g_kp S h h1) (hs : ∀ k ∈ S, ∀ fs, h[k]? ≠ some (c_O 5 fs)) : g_at G h1 r k := by
  cases k with
  | none => exact hg
  | some k =>
    obtain ⟨o, fg, td, e1, e2, e3⟩ := hg
    exact ⟨o, fg, td, e1, hk.at (fun z => hs o z _ e2) e2, e3⟩
theorem r_mayHold_at {s9 : Nat} {r k : Option Nat} (hS : h[a]? = some (c_Sh G ka kc y (nI s9) p9)) (hs : s9 < 3) (hr : g_at G h r k) : g_Run G mX9_mayHold 3 0 0 [.ref (g_ad G a), va_rf r] h (some (.int (if f_mayo s9 k then 1 else 0))) h := by
  cases k with
  | none => rw [show r = none from hr]; exact r_X9_mayHoldN
  | some k =>
    obtain ⟨o, fg, td, e1, e2, e3⟩ := hr
    rw [e1]
    exact r_X9_mayHold hS e2 hs e3
theorem a_aload_nR {G : g_G} {M : g_M} {d u v pc : Nat} {lv : List (Nat × Value)} {rest : List Value} {h h' : List va_E} {r : Option Value} (q : Nat) {kf : Fin 4} {i : Nat} {x : Option Nat} (pc2 : Nat) (hp : pc + 1 = pc2) (hdg : decode M.2.1 pc = .ok (.aload_n kf, 1)) (hi : (kf : Nat) = i) (hq : lv[q]? = some (i, va_rf x)) (kk : g_A G M d u v pc2 lv (va_rf x :: rest) h r h') : g_A G M d u v pc lv rest h r h' := by
  cases x with
  | none => exact a_aload_nN q pc2 hp hdg hi hq kk
  | some x => exact a_aload_n q pc2 hp hdg hi hq kk
theorem r_X9_place {s9 j : Nat} {r k : Option Nat} (hS : h[a]? = some (c_Sh G ka kc y (nI s9) p9)) (hR : h[ka]? = some (c_Q G 3 6 f)) (hs : s9 < 3) (hp : p9 ≤ 6) (hj : j < p9) (hr : g_at G h r k) : g_Run G mX9_place 4 0 0 [.ref (g_ad G a), .int (nI j), va_rf r] h (some (.int (if f_mayo s9 k then 1 else 0))) (if f_mayo s9 k then h.set ka (c_Q G 3 6 (va_up f j r)) else h) := by
  refine g_Run.of (lv := [(0, .ref (g_ad G a)), (1, .int (nI j)), (2, va_rf r)]) (by decide) (by cases r <;> exact Nat.le_of_ble_eq_true rfl) (by cases r <;> rfl) ?_
  refine a_iload_n 1 1 rfl dX9_place_0 rfl rfl ?_
  refine a_if_lt 29 4 rfl dX9_place_1 (by decide) (fun hc => absurd hc (nI_pos (by omega))) (fun _ => ?_)
  refine a_iload_n 1 5 rfl dX9_place_4 rfl rfl ?_
  refine a_aload_n 0 6 rfl dX9_place_5 rfl rfl ?_
  refine a_get 4 cl_8 f_RX9_24_8 (by decide) (hS) rfl 9 rfl dX9_place_6 ?_
  refine a_icmp_ge 29 12 rfl dX9_place_9 (by decide) (fun hc => absurd hc (nI_ge hj (by omega))) (fun _ => ?_)
  refine a_iload_n 1 13 rfl dX9_place_12 rfl rfl ?_
  refine a_aload_n 0 14 rfl dX9_place_13 rfl rfl ?_
  refine a_get 0 cl_8 f_RX9_11_8 (by decide) (hS) rfl 17 rfl dX9_place_14 ?_
  refine a_alen (y := 6) 3 (hR) rfl rfl 18 rfl dX9_place_17 ?_
  refine a_icmp_ge 29 21 rfl dX9_place_18 (by decide) (fun hc => absurd hc (nI_ge (b := 6) (by omega) (by omega))) (fun _ => ?_)
  refine a_aload_n 0 22 rfl dX9_place_21 rfl rfl ?_
  refine a_aload_nR 2 23 rfl dX9_place_22 rfl rfl ?_
  refine a_callV (as := [va_rf (r)]) (rest := []) (st2 := [.int (if f_mayo s9 k then 1 else 0)]) (u1 := 0) (v1 := 0) (u2 := 0) (v2 := 0) (r_mayHold_at hS hs hr) (⟨_, _, _, _, hS, rfl⟩) oX9_mayHold q_936 q_938 q_60 rfl (by decide) (by decide) rfl (Nat.le_of_ble_eq_true rfl) 26 rfl dX9_place_23 rfl ?_
  by_cases e2 : f_mayo s9 k = true
  · skip
    refine a_if_ne 31 29 rfl dX9_place_26 (by decide) (fun _ => ?_) (fun hc => absurd hc ((by rw [if_pos e2]; decide)))
    refine a_aload_n 0 32 rfl dX9_place_31 rfl rfl ?_
    refine a_get 0 cl_8 f_RX9_11_8 (by decide) (hS) rfl 35 rfl dX9_place_32 ?_
    refine a_iload_n 1 36 rfl dX9_place_35 rfl rfl ?_
    refine a_aload_nR 2 37 rfl dX9_place_36 rfl rfl ?_
    refine a_ast3R (hR) (hr.fam) (vp_in_nI (by omega) (by omega)) 38 rfl dX9_place_37 ?_
    refine a_iconst (x := 1) 39 rfl dX9_place_38 (by decide) ?_
    exact a_ireturn .boolean rfl rfl ((by rw [if_pos e2])) ((by rw [if_pos e2, g_cl (by omega)])) dX9_place_39
  · skip
    refine a_if_ne 31 29 rfl dX9_place_26 (by decide) (fun hc => absurd ((by rw [if_neg e2])) hc) (fun _ => ?_)
    refine a_iconst (x := 0) 30 rfl dX9_place_29 (by decide) ?_
    exact a_ireturn .boolean rfl rfl ((by rw [if_neg e2])) ((by rw [if_neg e2])) dX9_place_30
theorem r_X9_becomeLike {s8 y5 : Int32} {p8 : Nat} (hS : h[a]? = some (c_Sh G ka kc y y2 p9)) (hR : h[ka]? = some (c_Q G 3 6 f)) (hE : h[b]? = some (c_Sh G kb kd y5 s8 p8)) (hQ : h[kb]? = some (c_Q G 3 6 f8)) (hp : p8 ≤ 6) (hfam : ∀ j, j < p8 → g_fam G h (f8 j)) (n1 : a ≠ ka) (n2 : a ≠ b) (n3 : a ≠ kb) (n4 : ka ≠ b) (n5 : ka ≠ kb) : ∃ f2 : Nat → Option Nat, (∀ j, j < 6 → f2 j = if j < p8 then f8 j else none) ∧ g_Run G mX9_becomeLike 2 0 0 [.ref (g_ad G a), .ref (g_ad G b)] h none ((h.set a (c_Sh G ka kc 1 s8 p8)).set ka (c_Q G 3 6 f2)) := by
  obtain ⟨f0, hf0, w0⟩ := r_X9_lay (y3 := s8) (p8 := p8) hS hR n1
  obtain ⟨h2, eh2⟩ : ∃ h2, h2 = h.set a (c_Sh G ka kc 1 s8 p8) := ⟨_, rfl⟩
  have a2 : h2[a]? = some (c_Sh G ka kc 1 s8 p8) := by rw [eh2]; exact g_set_eq hS
  have b2 : h2[ka]? = some (c_Q G 3 6 f) := by rw [eh2]; exact g_set_ne n1 hR
  have c2 : h2[b]? = some (c_Sh G kb kd y5 s8 p8) := by rw [eh2]; exact g_set_ne n2 hE
  have d2 : h2[kb]? = some (c_Q G 3 6 f8) := by rw [eh2]; exact g_set_ne n3 hQ
  have e2 : ∀ j, j < p8 → g_fam G h2 (f8 j) := fun j hj => by rw [eh2]; exact (hfam j hj).set hS (nf_O (by decide) _)
  have key : ∀ jj ii : Nat, ii + jj = 6 → ∀ f1 : Nat → Option Nat, (∀ q7, q7 < ii → f1 q7 = if q7 < p8 then f8 q7 else none) → ∃ f2 : Nat → Option Nat, (∀ q7, q7 < 6 → f2 q7 = if q7 < p8 then f8 q7 else none) ∧ g_A G mX9_becomeLike 2 0 0 14 [(2, .int (nI ii)), (0, .ref (g_ad G a)), (1, .ref (g_ad G b))] [] (h2.set ka (c_Q G 3 6 f1)) none (h2.set ka (c_Q G 3 6 f2)) := by
    intro jj
    induction jj with
    | zero =>
      intro ii hii f1 hf
      refine ⟨f1, fun q7 hq7 => hf q7 (by omega), ?_⟩
      refine a_iload_n 0 15 rfl dX9_becomeLike_14 rfl rfl ?_
      refine a_aload_n 1 16 rfl dX9_becomeLike_15 rfl rfl ?_
      refine a_get 0 cl_8 f_RX9_11_8 (by decide) (g_set_ne (Ne.symm n1) a2) rfl 19 rfl dX9_becomeLike_16 ?_
      refine a_alen (y := 6) 3 (g_set_eq b2) rfl rfl 20 rfl dX9_becomeLike_19 ?_
      refine a_icmp_ge 40 23 rfl dX9_becomeLike_20 (by decide) (fun _ => ?_) (fun hc => absurd ((nI_le (a := 6) (by omega) (by omega))) hc)
      exact a_return rfl (rfl) (rfl) dX9_becomeLike_40
    | succ jj ih =>
      intro ii hii f1 hf
      obtain ⟨r9, er9⟩ : ∃ r9, r9 = (if ii < p8 then f8 ii else none) := ⟨_, rfl⟩
      obtain ⟨f2, hf2, w⟩ := ih (ii + 1) (by omega) (va_up f1 ii r9) (fun q7 hq7 => by
        by_cases e7 : q7 = ii
        · rw [e7, va_up_self, er9]
        · rw [va_up_ne _ _ e7]; exact hf q7 (by omega))
      refine ⟨f2, hf2, ?_⟩
      have hb3 : (h2.set ka (c_Q G 3 6 f1))[b]? = some (c_Sh G kb kd y5 s8 p8) := g_set_ne n4 c2
      have hd3 : (h2.set ka (c_Q G 3 6 f1))[kb]? = some (c_Q G 3 6 f8) := g_set_ne n5 d2
      have hat : g_Run G mX9_at 1 0 0 [.ref (g_ad G b), .int (nI ii)] (h2.set ka (c_Q G 3 6 f1)) (some (va_rf r9)) (h2.set ka (c_Q G 3 6 f1)) := by
        by_cases e7 : ii < p8
        · rw [er9, if_pos e7]; exact r_X9_at_in hb3 hd3 hp e7
        · rw [er9, if_neg e7]
          exact r_X9_at_out hb3 hp (fun z => e7 (by obtain ⟨j7, hj7, ej7⟩ := vp_in_of z (by omega); rw [(nI_eq (by omega) (by omega)).mp ej7]; exact hj7))
      have hfm : g_fam G (h2.set ka (c_Q G 3 6 f1)) r9 := by
        by_cases e7 : ii < p8
        · rw [er9, if_pos e7]; exact (e2 ii e7).set b2 (nf_Q _)
        · rw [er9, if_neg e7]; intro x7 hx7; cases hx7
      refine a_iload_n 0 15 rfl dX9_becomeLike_14 rfl rfl ?_
      refine a_aload_n 1 16 rfl dX9_becomeLike_15 rfl rfl ?_
      refine a_get 0 cl_8 f_RX9_11_8 (by decide) (g_set_ne (Ne.symm n1) a2) rfl 19 rfl dX9_becomeLike_16 ?_
      refine a_alen (y := 6) 3 (g_set_eq b2) rfl rfl 20 rfl dX9_becomeLike_19 ?_
      refine a_icmp_ge 40 23 rfl dX9_becomeLike_20 (by decide) (fun hc => absurd hc (nI_ge (b := 6) (by omega) (by omega))) (fun _ => ?_)
      refine a_aload_n 1 24 rfl dX9_becomeLike_23 rfl rfl ?_
      refine a_get 0 cl_8 f_RX9_11_8 (by decide) (g_set_ne (Ne.symm n1) a2) rfl 27 rfl dX9_becomeLike_24 ?_
      refine a_iload_n 0 28 rfl dX9_becomeLike_27 rfl rfl ?_
      refine a_aload_n 2 29 rfl dX9_becomeLike_28 rfl rfl ?_
      refine a_iload_n 0 30 rfl dX9_becomeLike_29 rfl rfl ?_
      refine a_callV (as := [.int (nI ii)]) (rest := [.int (nI ii), .ref (g_ad G ka)]) (st2 := [va_rf (r9), .int (nI ii), .ref (g_ad G ka)]) (u1 := 0) (v1 := 0) (u2 := 0) (v2 := 0) (hat) (⟨_, _, _, _, hb3, rfl⟩) oX9_at q_964 q_953 q_62 rfl (by decide) (by decide) rfl (Nat.le_of_ble_eq_true rfl) 33 rfl dX9_becomeLike_30 rfl ?_
      refine a_ast3R (g_set_eq b2) (hfm) (vp_in_nI (by omega) (by omega)) 34 rfl dX9_becomeLike_33 ?_
      refine a_iinc (y := nI (ii + 1)) (lv' := [(2, .int (nI (ii + 1))), (0, .ref (g_ad G a)), (1, .ref (g_ad G b))]) 0 37 rfl dX9_becomeLike_34 rfl (nI_1 ii) (by decide) rfl ?_
      refine a_goto 14 dX9_becomeLike_37 (by decide) ?_
      refine a_eq rfl rfl rfl ?_ w
      rw [List.set_set, g_cl (by omega)]
  obtain ⟨f2, hf2, w⟩ := key 6 0 rfl f0 (fun q7 hq7 => absurd hq7 (Nat.not_lt_zero q7))
  refine ⟨f2, hf2, ?_⟩
  rw [← eh2] at w0 ⊢
  refine g_Run.of (lv := [(0, .ref (g_ad G a)), (1, .ref (g_ad G b))]) (by decide) (Nat.le_of_ble_eq_true rfl) rfl ?_
  refine a_aload_n 0 1 rfl dX9_becomeLike_0 rfl rfl ?_
  refine a_aload_n 1 2 rfl dX9_becomeLike_1 rfl rfl ?_
  refine a_get 3 cl_8 f_RX9_28_8 (by decide) (hE) rfl 5 rfl dX9_becomeLike_2 ?_
  refine a_aload_n 1 6 rfl dX9_becomeLike_5 rfl rfl ?_
  refine a_get 4 cl_8 f_RX9_24_8 (by decide) (hE) rfl 9 rfl dX9_becomeLike_6 ?_
  refine a_callV (as := [.int s8, .int (nI p8)]) (rest := []) (st2 := []) (u1 := 0) (v1 := 0) (u2 := 0) (v2 := 0) (w0) (⟨_, _, _, _, hS, rfl⟩) oX9_lay q_963 q_918 q_56 rfl (by decide) (by decide) rfl (Nat.le_of_ble_eq_true rfl) 12 rfl dX9_becomeLike_9 rfl ?_
  refine a_iconst (x := 0) 13 rfl dX9_becomeLike_12 (by decide) ?_
  refine a_istore_n (lv' := [(2, .int 0), (0, .ref (g_ad G a)), (1, .ref (g_ad G b))]) 14 rfl dX9_becomeLike_13 rfl (by decide) rfl ?_
  exact w
end SH1
