/-! Shelf.placeAll; Acts; Cascade -/
section AC1
variable {G : g_G} {h : List va_E} {a b ka kb kc kd n p9 : Nat} {i y y2 y3 y4 : Int32} {f c9 f8 : Nat → Option Nat}
/-- of the t kinds from i on, how many stand ahead of the first that may not -/
def f_lead (s : Nat) (kk : Nat → Option Nat) : Nat → Nat → Nat
  | 0, _ => 0
  | t + 1, i => if f_mayo s (kk i) then f_lead s kk t (i + 1) + 1 else 0
theorem f_lead_le (s : Nat) (kk : Nat → Option Nat) : ∀ t i, f_lead s kk t i ≤ t := by
  intro t
  induction t with
  | zero => intro i; exact Nat.le_refl _
  | succ t ih => intro i; have e9 := ih (i + 1); unfold f_lead; split <;> omega
theorem r_X9_placeAll {s9 i9 j9 n9 p8 : Nat} {y5 y6 : Int32} {kk : Nat → Option Nat} (hS : h[a]? = some (c_Sh G ka kc y (nI s9) p9)) (hR : h[ka]? = some (c_Q G 3 6 f)) (hC : h[kc]? = some (c_Q G 3 6 c9)) (hE : h[b]? = some (c_Sh G kb kd y5 y6 p8)) (hQ : h[kb]? = some (c_Q G 3 6 f8)) (hs : s9 < 3) (hp9 : p9 ≤ 6) (hp8 : p8 ≤ 6) (hi : i9 + n9 ≤ p8) (hj : j9 + n9 ≤ p9) (n1 : a ≠ kc) (n2 : b ≠ kc) (n3 : kb ≠ kc) (n4 : ka ≠ kc) (n5 : a ≠ ka) (hk : ∀ q7, q7 < p8 → g_at G h (f8 q7) (kk q7)) : ∃ c2 f2 : Nat → Option Nat, (∀ q7, f2 q7 = if j9 ≤ q7 ∧ q7 < j9 + f_lead s9 kk n9 i9 then f8 (i9 + (q7 - j9)) else f q7) ∧ g_Run G mX9_placeAll 5 0 0 [.ref (g_ad G a), .ref (g_ad G b), .int (nI i9), .int (nI j9), .int (nI n9)] h (some (.int (if f_lead s9 kk n9 i9 = n9 then 1 else 0))) ((h.set kc (c_Q G 3 6 c2)).set ka (c_Q G 3 6 f2)) := by
  -- the first loop
  have nfQ : ∀ (f7 : Nat → Option Nat) (fs : List Value), (c_Q G 3 6 f7 : va_E) ≠ c_O 5 fs := fun f7 fs => nf_Q f7 fs
  have key : ∀ jj ii : Nat, ii + jj = n9 → ∀ c1 : Nat → Option Nat, (∀ q7, q7 < ii → c1 q7 = f8 (i9 + q7)) → (∀ c2 : Nat → Option Nat, (∀ q7, q7 < n9 → c2 q7 = f8 (i9 + q7)) → ∃ (r7 : Option Value) (h7 : List va_E), g_A G mX9_placeAll 5 0 0 41 [(5, .int (nI n9)), (0, .ref (g_ad G a)), (1, .ref (g_ad G b)), (2, .int (nI i9)), (3, .int (nI j9)), (4, .int (nI n9))] [] (h.set kc (c_Q G 3 6 c2)) r7 h7) → ∃ c2 : Nat → Option Nat, (∀ q7, q7 < n9 → c2 q7 = f8 (i9 + q7)) ∧ ∀ (r7 : Option Value) (h7 : List va_E), g_A G mX9_placeAll 5 0 0 41 [(5, .int (nI n9)), (0, .ref (g_ad G a)), (1, .ref (g_ad G b)), (2, .int (nI i9)), (3, .int (nI j9)), (4, .int (nI n9))] [] (h.set kc (c_Q G 3 6 c2)) r7 h7 → g_A G mX9_placeAll 5 0 0 3 [(5, .int (nI ii)), (0, .ref (g_ad G a)), (1, .ref (g_ad G b)), (2, .int (nI i9)), (3, .int (nI j9)), (4, .int (nI n9))] [] (h.set kc (c_Q G 3 6 c1)) r7 h7 := by
    intro jj
    induction jj with
    | zero =>
      intro ii hii c1 hc1 _
      refine ⟨c1, fun q7 hq7 => hc1 q7 (by omega), fun r7 h7 hA => ?_⟩
      refine a_iload 0 5 rfl dX9_placeAll_3 rfl ?_
      refine a_iload 5 7 rfl dX9_placeAll_5 rfl ?_
      refine a_icmp_ge 41 10 rfl dX9_placeAll_7 (by decide) (fun _ => ?_) (fun hc => absurd (nI_le (by omega) (by omega)) hc)
      rw [show ii = n9 by omega]
      exact hA
    | succ jj ih =>
      intro ii hii c1 hc1 hx
      obtain ⟨c2, hc2, w⟩ := ih (ii + 1) (by omega) (va_up c1 ii (f8 (i9 + ii))) (fun q7 hq7 => by
        by_cases e7 : q7 = ii
        · rw [e7, va_up_self]
        · rw [va_up_ne _ _ e7]; exact hc1 q7 (by omega)) hx
      refine ⟨c2, hc2, fun r7 h7 hA => ?_⟩
      have hE3 : (h.set kc (c_Q G 3 6 c1))[b]? = some (c_Sh G kb kd y5 y6 p8) := g_set_ne (Ne.symm n2) hE
      have hQ3 : (h.set kc (c_Q G 3 6 c1))[kb]? = some (c_Q G 3 6 f8) := g_set_ne (Ne.symm n3) hQ
      refine a_iload 0 5 rfl dX9_placeAll_3 rfl ?_
      refine a_iload 5 7 rfl dX9_placeAll_5 rfl ?_
      refine a_icmp_ge 41 10 rfl dX9_placeAll_7 (by decide) (fun hc => absurd hc (nI_ge (by omega) (by omega))) (fun _ => ?_)
      refine a_iload 0 12 rfl dX9_placeAll_10 rfl ?_
      refine a_aload_n 1 13 rfl dX9_placeAll_12 rfl rfl ?_
      refine a_get 1 cl_8 f_RX9_17_8 (by decide) (g_set_ne (Ne.symm n1) hS) rfl 16 rfl dX9_placeAll_13 ?_
      refine a_alen (y := 6) 3 (g_set_eq hC) rfl rfl 17 rfl dX9_placeAll_16 ?_
      refine a_icmp_ge 41 20 rfl dX9_placeAll_17 (by decide) (fun hc => absurd hc (nI_ge (b := 6) (by omega) (by omega))) (fun _ => ?_)
      refine a_aload_n 1 21 rfl dX9_placeAll_20 rfl rfl ?_
      refine a_get 1 cl_8 f_RX9_17_8 (by decide) (g_set_ne (Ne.symm n1) hS) rfl 24 rfl dX9_placeAll_21 ?_
      refine a_iload 0 26 rfl dX9_placeAll_24 rfl ?_
      refine a_aload_n 2 27 rfl dX9_placeAll_26 rfl rfl ?_
      refine a_iload_n 3 28 rfl dX9_placeAll_27 rfl rfl ?_
      refine a_iload 0 30 rfl dX9_placeAll_28 rfl ?_
      refine a_iadd 31 rfl dX9_placeAll_30 ?_
      refine a_eq (st2 := [.int (nI (i9 + ii)), .ref (g_ad G b), .int (nI ii), .ref (g_ad G kc)]) rfl rfl (by rw [nI_add]) rfl ?_
      refine a_callV (as := [.int (nI (i9 + ii))]) (rest := [.int (nI ii), .ref (g_ad G kc)]) (st2 := [va_rf (f8 (i9 + ii)), .int (nI ii), .ref (g_ad G kc)]) (u1 := 0) (v1 := 0) (u2 := 0) (v2 := 0) (r_X9_at_in hE3 hQ3 hp8 (by omega)) (⟨_, _, _, _, hE3, rfl⟩) oX9_at q_964 q_953 q_62 rfl (by omega) (by decide) rfl (Nat.le_of_ble_eq_true rfl) 34 rfl dX9_placeAll_31 rfl ?_
      refine a_ast3R (g_set_eq hC) (((hk (i9 + ii) (by omega)).fam.set hC (nfQ _))) (vp_in_nI (by omega) (by omega)) 35 rfl dX9_placeAll_34 ?_
      refine a_iinc (y := nI (ii + 1)) (lv' := [(5, .int (nI (ii + 1))), (0, .ref (g_ad G a)), (1, .ref (g_ad G b)), (2, .int (nI i9)), (3, .int (nI j9)), (4, .int (nI n9))]) 0 38 rfl dX9_placeAll_35 rfl (nI_1 ii) (by decide) rfl ?_
      refine a_goto 3 dX9_placeAll_38 (by decide) ?_
      refine a_eq (lv2 := [(5, .int (nI (ii + 1))), (0, .ref (g_ad G a)), (1, .ref (g_ad G b)), (2, .int (nI i9)), (3, .int (nI j9)), (4, .int (nI n9))]) rfl rfl rfl ?_ (w r7 h7 hA)
      rw [List.set_set, g_cl (by omega)]
  -- the second loop
  have key2 : ∀ (c2 : Nat → Option Nat), (∀ q7, q7 < n9 → c2 q7 = f8 (i9 + q7)) → ∀ jj ii : Nat, ii + jj = n9 → ∀ f1 : Nat → Option Nat, ∃ f2 : Nat → Option Nat, (∀ q7, f2 q7 = if j9 + ii ≤ q7 ∧ q7 < j9 + ii + f_lead s9 kk jj (i9 + ii) then f8 (i9 + (q7 - j9)) else f1 q7) ∧ g_A G mX9_placeAll 5 0 0 44 [(5, .int (nI ii)), (0, .ref (g_ad G a)), (1, .ref (g_ad G b)), (2, .int (nI i9)), (3, .int (nI j9)), (4, .int (nI n9))] [] ((h.set kc (c_Q G 3 6 c2)).set ka (c_Q G 3 6 f1)) (some (.int (if f_lead s9 kk jj (i9 + ii) = jj then 1 else 0))) ((h.set kc (c_Q G 3 6 c2)).set ka (c_Q G 3 6 f2)) := by
    intro c2 hc2 jj
    have hS2 : (h.set kc (c_Q G 3 6 c2))[a]? = some (c_Sh G ka kc y (nI s9) p9) := g_set_ne (Ne.symm n1) hS
    have hR2 : (h.set kc (c_Q G 3 6 c2))[ka]? = some (c_Q G 3 6 f) := g_set_ne (Ne.symm n4) hR
    have hC2 : (h.set kc (c_Q G 3 6 c2))[kc]? = some (c_Q G 3 6 c2) := g_set_eq hC
    induction jj with
    | zero =>
      intro ii hii f1
      refine ⟨f1, fun q7 => by rw [if_neg (by rw [f_lead]; omega)], ?_⟩
      refine a_iload 0 46 rfl dX9_placeAll_44 rfl ?_
      refine a_iload 5 48 rfl dX9_placeAll_46 rfl ?_
      refine a_icmp_ge 87 51 rfl dX9_placeAll_48 (by decide) (fun _ => ?_) (fun hc => absurd (nI_le (by omega) (by omega)) hc)
      refine a_iconst (x := 1) 88 rfl dX9_placeAll_87 (by decide) ?_
      exact a_ireturn .boolean rfl rfl (rfl) (rfl) dX9_placeAll_88
    | succ jj ih =>
      intro ii hii f1
      have hS3 : ((h.set kc (c_Q G 3 6 c2)).set ka (c_Q G 3 6 f1))[a]? = some (c_Sh G ka kc y (nI s9) p9) := g_set_ne (Ne.symm n5) hS2
      have hR3 : ((h.set kc (c_Q G 3 6 c2)).set ka (c_Q G 3 6 f1))[ka]? = some (c_Q G 3 6 f1) := g_set_eq hR2
      have hg3 : g_at G ((h.set kc (c_Q G 3 6 c2)).set ka (c_Q G 3 6 f1)) (f8 (i9 + ii)) (kk (i9 + ii)) := by
        refine (hk (i9 + ii) (by omega)).kp (S := [kc, ka]) ((g_kp.rf.set (by simp)).set (by simp)) (fun k7 hk7 fs z => ?_)
        simp only [List.mem_cons, List.not_mem_nil, or_false] at hk7
        rcases hk7 with e7 | e7
        · rw [e7, hC] at z; cases z
        · rw [e7, hR] at z; cases z
      have w := r_X9_place (j := j9 + ii) hS3 hR3 hs hp9 (by omega) hg3
      have hnI : nI j9 + nI ii = nI (j9 + ii) := nI_add _ _
      by_cases e2 : f_mayo s9 (kk (i9 + ii)) = true
      · rw [if_pos e2, if_pos e2, List.set_set] at w
        obtain ⟨f2, hf2, w2⟩ := ih (ii + 1) (by omega) (va_up f1 (j9 + ii) (f8 (i9 + ii)))
        have el : f_lead s9 kk (jj + 1) (i9 + ii) = f_lead s9 kk jj (i9 + (ii + 1)) + 1 := by rw [f_lead, if_pos e2]; rfl
        refine ⟨f2, fun q7 => ?_, ?_⟩
        · rw [hf2 q7, el]
          by_cases e7 : q7 = j9 + ii
          · rw [if_neg (by omega), if_pos (by omega), e7, va_up_self, show j9 + ii - j9 = ii by omega]
          · rw [va_up_ne _ _ e7]
            by_cases e8 : j9 + (ii + 1) ≤ q7 ∧ q7 < j9 + (ii + 1) + f_lead s9 kk jj (i9 + (ii + 1))
            · rw [if_pos e8, if_pos (by omega)]
            · rw [if_neg e8, if_neg (by omega)]
        · have er : (if f_lead s9 kk (jj + 1) (i9 + ii) = jj + 1 then (1 : Int32) else 0) = (if f_lead s9 kk jj (i9 + (ii + 1)) = jj then 1 else 0) := by
            rw [el]
            by_cases e9 : f_lead s9 kk jj (i9 + (ii + 1)) = jj
            · rw [if_pos (by omega), if_pos e9]
            · rw [if_neg (by omega), if_neg e9]
          rw [er]
          refine a_iload 0 46 rfl dX9_placeAll_44 rfl ?_
          refine a_iload 5 48 rfl dX9_placeAll_46 rfl ?_
          refine a_icmp_ge 87 51 rfl dX9_placeAll_48 (by decide) (fun hc => absurd hc (nI_ge (by omega) (by omega))) (fun _ => ?_)
          refine a_iload 0 53 rfl dX9_placeAll_51 rfl ?_
          refine a_aload_n 1 54 rfl dX9_placeAll_53 rfl rfl ?_
          refine a_get 1 cl_8 f_RX9_17_8 (by decide) (hS3) rfl 57 rfl dX9_placeAll_54 ?_
          refine a_alen (y := 6) 3 (g_set_ne n4 hC2) rfl rfl 58 rfl dX9_placeAll_57 ?_
          refine a_icmp_ge 87 61 rfl dX9_placeAll_58 (by decide) (fun hc => absurd hc (nI_ge (b := 6) (by omega) (by omega))) (fun _ => ?_)
          refine a_aload_n 1 62 rfl dX9_placeAll_61 rfl rfl ?_
          refine a_iload_n 4 63 rfl dX9_placeAll_62 rfl rfl ?_
          refine a_iload 0 65 rfl dX9_placeAll_63 rfl ?_
          refine a_iadd 66 rfl dX9_placeAll_65 ?_
          refine a_aload_n 1 67 rfl dX9_placeAll_66 rfl rfl ?_
          refine a_get 1 cl_8 f_RX9_17_8 (by decide) (hS3) rfl 70 rfl dX9_placeAll_67 ?_
          refine a_iload 0 72 rfl dX9_placeAll_70 rfl ?_
          refine a_ald3 (g_set_ne n4 hC2) (vp_in_nI (by omega) (by omega)) 73 rfl dX9_placeAll_72 ?_
          refine a_eq (st2 := [va_rf (f8 (i9 + ii)), .int (nI (j9 + ii)), .ref (g_ad G a)]) rfl rfl (by rw [g_cl (by omega), hc2 ii (by omega), hnI]) rfl ?_
          refine a_callV (as := [.int (nI (j9 + ii)), va_rf (f8 (i9 + ii))]) (rest := []) (st2 := [.int 1]) (u1 := 0) (v1 := 0) (u2 := 0) (v2 := 0) (w) (⟨_, _, _, _, hS3, rfl⟩) oX9_place q_977 q_934 q_59 rfl (by omega) (by decide) rfl (Nat.le_of_ble_eq_true rfl) 76 rfl dX9_placeAll_73 rfl ?_
          refine a_if_ne 81 79 rfl dX9_placeAll_76 (by decide) (fun _ => ?_) (fun hc => absurd hc ((by decide)))
          refine a_iinc (y := nI (ii + 1)) (lv' := [(5, .int (nI (ii + 1))), (0, .ref (g_ad G a)), (1, .ref (g_ad G b)), (2, .int (nI i9)), (3, .int (nI j9)), (4, .int (nI n9))]) 0 84 rfl dX9_placeAll_81 rfl (nI_1 ii) (by decide) rfl ?_
          refine a_goto 44 dX9_placeAll_84 (by decide) ?_
          exact w2
      · rw [if_neg e2, if_neg e2] at w
        have el : f_lead s9 kk (jj + 1) (i9 + ii) = 0 := by rw [f_lead, if_neg e2]
        refine ⟨f1, fun q7 => by rw [el, if_neg (by omega)], ?_⟩
        refine a_iload 0 46 rfl dX9_placeAll_44 rfl ?_
        refine a_iload 5 48 rfl dX9_placeAll_46 rfl ?_
        refine a_icmp_ge 87 51 rfl dX9_placeAll_48 (by decide) (fun hc => absurd hc (nI_ge (by omega) (by omega))) (fun _ => ?_)
        refine a_iload 0 53 rfl dX9_placeAll_51 rfl ?_
        refine a_aload_n 1 54 rfl dX9_placeAll_53 rfl rfl ?_
        refine a_get 1 cl_8 f_RX9_17_8 (by decide) (hS3) rfl 57 rfl dX9_placeAll_54 ?_
        refine a_alen (y := 6) 3 (g_set_ne n4 hC2) rfl rfl 58 rfl dX9_placeAll_57 ?_
        refine a_icmp_ge 87 61 rfl dX9_placeAll_58 (by decide) (fun hc => absurd hc (nI_ge (b := 6) (by omega) (by omega))) (fun _ => ?_)
        refine a_aload_n 1 62 rfl dX9_placeAll_61 rfl rfl ?_
        refine a_iload_n 4 63 rfl dX9_placeAll_62 rfl rfl ?_
        refine a_iload 0 65 rfl dX9_placeAll_63 rfl ?_
        refine a_iadd 66 rfl dX9_placeAll_65 ?_
        refine a_aload_n 1 67 rfl dX9_placeAll_66 rfl rfl ?_
        refine a_get 1 cl_8 f_RX9_17_8 (by decide) (hS3) rfl 70 rfl dX9_placeAll_67 ?_
        refine a_iload 0 72 rfl dX9_placeAll_70 rfl ?_
        refine a_ald3 (g_set_ne n4 hC2) (vp_in_nI (by omega) (by omega)) 73 rfl dX9_placeAll_72 ?_
        refine a_eq (st2 := [va_rf (f8 (i9 + ii)), .int (nI (j9 + ii)), .ref (g_ad G a)]) rfl rfl (by rw [g_cl (by omega), hc2 ii (by omega), hnI]) rfl ?_
        refine a_callV (as := [.int (nI (j9 + ii)), va_rf (f8 (i9 + ii))]) (rest := []) (st2 := [.int 0]) (u1 := 0) (v1 := 0) (u2 := 0) (v2 := 0) (w) (⟨_, _, _, _, hS3, rfl⟩) oX9_place q_977 q_934 q_59 rfl (by omega) (by decide) rfl (Nat.le_of_ble_eq_true rfl) 76 rfl dX9_placeAll_73 rfl ?_
        refine a_if_ne 81 79 rfl dX9_placeAll_76 (by decide) (fun hc => absurd (rfl) hc) (fun _ => ?_)
        refine a_iconst (x := 0) 80 rfl dX9_placeAll_79 (by decide) ?_
        exact a_ireturn .boolean rfl rfl ((by rw [el, if_neg (by omega)])) (rfl) dX9_placeAll_80
  have tie : ∀ c2 : Nat → Option Nat, (∀ q7, q7 < n9 → c2 q7 = f8 (i9 + q7)) → ∃ f2 : Nat → Option Nat, (∀ q7, f2 q7 = if j9 ≤ q7 ∧ q7 < j9 + f_lead s9 kk n9 i9 then f8 (i9 + (q7 - j9)) else f q7) ∧ g_A G mX9_placeAll 5 0 0 41 [(5, .int (nI n9)), (0, .ref (g_ad G a)), (1, .ref (g_ad G b)), (2, .int (nI i9)), (3, .int (nI j9)), (4, .int (nI n9))] [] (h.set kc (c_Q G 3 6 c2)) (some (.int (if f_lead s9 kk n9 i9 = n9 then 1 else 0))) ((h.set kc (c_Q G 3 6 c2)).set ka (c_Q G 3 6 f2)) := by
    intro c2 hc2
    obtain ⟨f2, hf2, w2⟩ := key2 c2 hc2 n9 0 (by omega) f
    refine ⟨f2, hf2, ?_⟩
    rw [g_set_self (g_set_ne (Ne.symm n4) hR)] at w2
    refine a_iconst (x := 0) 42 rfl dX9_placeAll_41 (by decide) ?_
    refine a_istore (lv' := [(5, .int 0), (0, .ref (g_ad G a)), (1, .ref (g_ad G b)), (2, .int (nI i9)), (3, .int (nI j9)), (4, .int (nI n9))]) 44 rfl dX9_placeAll_42 (by decide) rfl ?_
    exact w2
  obtain ⟨c2, hc2, w⟩ := key n9 0 (by omega) c9 (fun q7 hq7 => absurd hq7 (Nat.not_lt_zero q7)) (fun c2 hc2 => by obtain ⟨f2, _, w2⟩ := tie c2 hc2; exact ⟨_, _, w2⟩)
  obtain ⟨f2, hf2, w2⟩ := tie c2 hc2
  refine ⟨c2, f2, hf2, ?_⟩
  have w3 := w _ _ w2
  rw [g_set_self hC] at w3
  refine g_Run.of (lv := [(0, .ref (g_ad G a)), (1, .ref (g_ad G b)), (2, .int (nI i9)), (3, .int (nI j9)), (4, .int (nI n9))]) (by decide) (Nat.le_of_ble_eq_true rfl) rfl ?_
  refine a_iconst (x := 0) 1 rfl dX9_placeAll_0 (by decide) ?_
  refine a_istore (lv' := [(5, .int 0), (0, .ref (g_ad G a)), (1, .ref (g_ad G b)), (2, .int (nI i9)), (3, .int (nI j9)), (4, .int (nI n9))]) 3 rfl dX9_placeAll_1 (by decide) rfl ?_
  exact w3
end AC1
