/-! Acts.run, begunAt; Cascade -/
section CA1
variable {G : g_G} {h : List va_E} {a b ka n : Nat} {i y y2 y3 y4 : Int32}
theorem r_X0_begunAt_in {m k9 j : Nat} {nu fg : Int32} {f : Nat → Int32} (hA : h[a]? = some (c_Ac G ka m k9 nu fg)) (hR : h[ka]? = some (c_I G 24 f)) (hm : m ≤ 24) (hj : j < m) : g_Run G mX0_begunAt 1 0 0 [.ref (g_ad G a), .int (nI j)] h (some (.int (f j))) h := by
  refine g_Run.of (lv := [(0, .ref (g_ad G a)), (1, .int (nI j))]) (by decide) (Nat.le_of_ble_eq_true rfl) rfl ?_
  refine a_iload_n 1 1 rfl dX0_begunAt_0 rfl rfl ?_
  refine a_if_lt 30 4 rfl dX0_begunAt_1 (by decide) (fun hc => absurd hc (nI_pos (by omega))) (fun _ => ?_)
  refine a_iload_n 1 5 rfl dX0_begunAt_4 rfl rfl ?_
  refine a_aload_n 0 6 rfl dX0_begunAt_5 rfl rfl ?_
  refine a_get 1 cl_0 f_RX0_15_0 (by decide) (hA) rfl 9 rfl dX0_begunAt_6 ?_
  refine a_icmp_ge 30 12 rfl dX0_begunAt_9 (by decide) (fun hc => absurd hc (nI_ge hj (by omega))) (fun _ => ?_)
  refine a_iload_n 1 13 rfl dX0_begunAt_12 rfl rfl ?_
  refine a_aload_n 0 14 rfl dX0_begunAt_13 rfl rfl ?_
  refine a_get 0 cl_0 f_RX0_9_0 (by decide) (hA) rfl 17 rfl dX0_begunAt_14 ?_
  refine a_alen (y := 24) 0 (hR) rfl rfl 18 rfl dX0_begunAt_17 ?_
  refine a_icmp_ge 30 21 rfl dX0_begunAt_18 (by decide) (fun hc => absurd hc (nI_ge (b := 24) (by omega) (by omega))) (fun _ => ?_)
  refine a_aload_n 0 22 rfl dX0_begunAt_21 rfl rfl ?_
  refine a_get 0 cl_0 f_RX0_9_0 (by decide) (hA) rfl 25 rfl dX0_begunAt_22 ?_
  refine a_iload_n 1 26 rfl dX0_begunAt_25 rfl rfl ?_
  refine a_iald (hR) (vp_in_nI (by omega) (by omega)) 27 rfl dX0_begunAt_26 ?_
  refine a_goto 32 dX0_begunAt_27 (by decide) ?_
  exact a_ireturn .int rfl rfl ((by rw [g_cl (by omega)])) (rfl) dX0_begunAt_32
theorem r_X0_begunAt_out {m : Nat} {v1 v2 v3 : Value} {v0 : Value} (hA : h[a]? = some (c_O 0 [v0, .int (nI m), v1, v2, v3])) (hm : m ≤ 24) (hi : ¬ vp_in i m) : g_Run G mX0_begunAt 1 0 0 [.ref (g_ad G a), .int i] h (some (.int (-2))) h := by
  refine g_Run.of (lv := [(0, .ref (g_ad G a)), (1, .int i)]) (by decide) (Nat.le_of_ble_eq_true rfl) rfl ?_
  refine a_iload_n 1 1 rfl dX0_begunAt_0 rfl rfl ?_
  by_cases c0 : i < 0
  · refine a_if_lt 30 4 rfl dX0_begunAt_1 (by decide) (fun _ => ?_) (fun hc => absurd c0 hc)
    refine a_bipush (x := (-2)) 32 rfl dX0_begunAt_30 (by decide) ?_
    exact a_ireturn .int rfl rfl rfl rfl dX0_begunAt_32
  · refine a_if_lt 30 4 rfl dX0_begunAt_1 (by decide) (fun hc => absurd hc c0) (fun _ => ?_)
    refine a_iload_n 1 5 rfl dX0_begunAt_4 rfl rfl ?_
    refine a_aload_n 0 6 rfl dX0_begunAt_5 rfl rfl ?_
    refine a_get 1 cl_0 f_RX0_15_0 (by decide) hA rfl 9 rfl dX0_begunAt_6 ?_
    refine a_icmp_ge 30 12 rfl dX0_begunAt_9 (by decide) (fun _ => ?_) (fun hc => absurd (g_out_ge hi c0 (by omega)) hc)
    refine a_bipush (x := (-2)) 32 rfl dX0_begunAt_30 (by decide) ?_
    exact a_ireturn .int rfl rfl rfl rfl dX0_begunAt_32
theorem r_X0_runA {m k9 k8 : Nat} {nu fg nu2 fg2 x : Int32} {td : Int64} {f : Nat → Int32} (hA : h[a]? = some (c_Ac G ka m k8 nu2 fg2)) (hR : h[ka]? = some (c_I G 24 f)) (hF : h[b]? = some (c_O 5 [.int (nI k9), .int fg, .long td])) (hne : a ≠ ka) (hk : k9 < 6) : ∃ f2, f_ext f f2 0 (l_act k9 0) ∧ g_Run G mX0_run 9 0 0 [.ref (g_ad G a), .ref (g_ad G b), .int nu, .int (nI 0), .int x] h (some (.int (f_act k9 0 x nu fg))) ((h.set ka (c_I G 24 f2)).set a (c_Ac G ka (l_act k9 0).length k9 nu fg)) := by
  have hab : a ≠ b := fun z => by rw [z, hF] at hA; cases hA
  obtain ⟨h2, eh2⟩ : ∃ h2, h2 = h.set a (c_Ac G ka 0 k9 nu fg) := ⟨_, rfl⟩
  have a2 : h2[a]? = some (c_Ac G ka 0 k9 nu fg) := by rw [eh2]; exact g_set_eq hA
  have b2 : h2[ka]? = some (c_I G 24 f) := by rw [eh2]; exact g_set_ne hne hR
  have fin : ∀ f2 : Nat → Int32, (h2.set ka (c_I G 24 f2)).set a (c_Ac G ka (0 + (l_act k9 0).length) k9 nu fg) = (h.set ka (c_I G 24 f2)).set a (c_Ac G ka (l_act k9 0).length k9 nu fg) := fun f2 => by
    rw [eh2, List.set_comm _ _ hne, List.set_set, Nat.zero_add]
  have hs := l_act_short (w := 0) hk (by omega)
  have act : g_act G mX0_grows 8 [.int (nI k9), .int x] a ka k9 nu fg (f_act k9 0 x nu fg) (l_act k9 0) := r_X0_grows hk (by omega)
  obtain ⟨f2, e2, w⟩ := act h2 0 f a2 b2 hne (by omega)
  refine ⟨f2, e2, ?_⟩
  rw [fin] at w
  refine g_Run.of (lv := [(0, .ref (g_ad G a)), (1, .ref (g_ad G b)), (2, .int nu), (3, .int (nI 0)), (4, .int x)]) (by decide) (Nat.le_of_ble_eq_true rfl) rfl ?_
  refine a_aload_n 0 1 rfl dX0_run_0 rfl rfl ?_
  refine a_iconst (x := 0) 2 rfl dX0_run_1 (by decide) ?_
  refine a_put (fs' := [.ref (g_ad G ka), .int 0, .int (nI k8), .int nu2, .int fg2]) 1 cl_0 f_RX0_15_0 (by decide) (hA) rfl rfl rfl (Nat.le_of_ble_eq_true rfl) rfl 5 rfl dX0_run_2 ?_
  refine a_aload_n 0 6 rfl dX0_run_5 rfl rfl ?_
  refine a_aload_n 1 7 rfl dX0_run_6 rfl rfl ?_
  refine a_get 0 cl_5 f_RX0_19_5 (by decide) (g_set_ne hab hF) rfl 10 rfl dX0_run_7 ?_
  refine a_put (fs' := [.ref (g_ad G ka), .int 0, .int (nI k9), .int nu2, .int fg2]) 2 cl_0 f_RX0_24_0 (by decide) (g_set_eq (hA)) rfl rfl rfl (Nat.le_of_ble_eq_true rfl) rfl 13 rfl dX0_run_10 ?_
  refine a_aload_n 0 14 rfl dX0_run_13 rfl rfl ?_
  refine a_aload_n 1 15 rfl dX0_run_14 rfl rfl ?_
  refine a_get 1 cl_5 f_RX0_25_5 (by decide) (g_set_ne hab (g_set_ne hab hF)) rfl 18 rfl dX0_run_15 ?_
  refine a_put (fs' := [.ref (g_ad G ka), .int 0, .int (nI k9), .int nu2, .int fg]) 4 cl_0 f_RX0_28_0 (by decide) (g_set_eq (g_set_eq (hA))) rfl rfl rfl (Nat.le_of_ble_eq_true rfl) rfl 21 rfl dX0_run_18 ?_
  refine a_aload_n 0 22 rfl dX0_run_21 rfl rfl ?_
  refine a_iload_n 2 23 rfl dX0_run_22 rfl rfl ?_
  refine a_put (fs' := [.ref (g_ad G ka), .int 0, .int (nI k9), .int nu, .int fg]) 3 cl_0 f_RX0_29_0 (by decide) (g_set_eq (g_set_eq (g_set_eq (hA)))) rfl rfl rfl (Nat.le_of_ble_eq_true rfl) rfl 26 rfl dX0_run_23 ?_
  refine a_eq (h2 := h2) rfl rfl rfl (by rw [eh2, List.set_set, List.set_set, List.set_set]; rfl) ?_
  refine a_iload_n 3 27 rfl dX0_run_26 rfl rfl ?_
  refine a_lookup (off := 25) 52 dX0_run_27 (by decide) (by decide) (by decide) ?_
  refine a_aload_n 0 53 rfl dX0_run_52 rfl rfl ?_
  refine a_aload_n 0 54 rfl dX0_run_53 rfl rfl ?_
  refine a_get 2 cl_0 f_RX0_24_0 (by decide) (a2) rfl 57 rfl dX0_run_54 ?_
  refine a_iload 4 59 rfl dX0_run_57 rfl ?_
  refine a_callV (as := [.int (nI k9), .int x]) (rest := []) (st2 := [.int (f_act k9 0 x nu fg)]) (u1 := 0) (v1 := 0) (u2 := 0) (v2 := 0) (w) (⟨_, _, _, _, a2, rfl⟩) oX0_grows q_1010 q_1012 q_70 rfl (by omega) (by decide) rfl (Nat.le_of_ble_eq_true rfl) 62 rfl dX0_run_59 rfl ?_
  exact a_ireturn .int rfl rfl (rfl) (rfl) dX0_run_62

theorem r_X0_runB {m k9 k8 : Nat} {nu fg nu2 fg2 x : Int32} {td : Int64} {f : Nat → Int32} (hA : h[a]? = some (c_Ac G ka m k8 nu2 fg2)) (hR : h[ka]? = some (c_I G 24 f)) (hF : h[b]? = some (c_O 5 [.int (nI k9), .int fg, .long td])) (hne : a ≠ ka) (hk : k9 < 6) : ∃ f2, f_ext f f2 0 (l_act k9 1) ∧ g_Run G mX0_run 9 0 0 [.ref (g_ad G a), .ref (g_ad G b), .int nu, .int (nI 1), .int x] h (some (.int (f_act k9 1 x nu fg))) ((h.set ka (c_I G 24 f2)).set a (c_Ac G ka (l_act k9 1).length k9 nu fg)) := by
  have hab : a ≠ b := fun z => by rw [z, hF] at hA; cases hA
  obtain ⟨h2, eh2⟩ : ∃ h2, h2 = h.set a (c_Ac G ka 0 k9 nu fg) := ⟨_, rfl⟩
  have a2 : h2[a]? = some (c_Ac G ka 0 k9 nu fg) := by rw [eh2]; exact g_set_eq hA
  have b2 : h2[ka]? = some (c_I G 24 f) := by rw [eh2]; exact g_set_ne hne hR
  have fin : ∀ f2 : Nat → Int32, (h2.set ka (c_I G 24 f2)).set a (c_Ac G ka (0 + (l_act k9 1).length) k9 nu fg) = (h.set ka (c_I G 24 f2)).set a (c_Ac G ka (l_act k9 1).length k9 nu fg) := fun f2 => by
    rw [eh2, List.set_comm _ _ hne, List.set_set, Nat.zero_add]
  have hs := l_act_short (w := 1) hk (by omega)
  have act : g_act G mX0_turns 8 [.int (nI k9), .int x] a ka k9 nu fg (f_act k9 1 x nu fg) (l_act k9 1) := r_X0_turns hk hk (by omega)
  obtain ⟨f2, e2, w⟩ := act h2 0 f a2 b2 hne (by omega)
  refine ⟨f2, e2, ?_⟩
  rw [fin] at w
  refine g_Run.of (lv := [(0, .ref (g_ad G a)), (1, .ref (g_ad G b)), (2, .int nu), (3, .int (nI 1)), (4, .int x)]) (by decide) (Nat.le_of_ble_eq_true rfl) rfl ?_
  refine a_aload_n 0 1 rfl dX0_run_0 rfl rfl ?_
  refine a_iconst (x := 0) 2 rfl dX0_run_1 (by decide) ?_
  refine a_put (fs' := [.ref (g_ad G ka), .int 0, .int (nI k8), .int nu2, .int fg2]) 1 cl_0 f_RX0_15_0 (by decide) (hA) rfl rfl rfl (Nat.le_of_ble_eq_true rfl) rfl 5 rfl dX0_run_2 ?_
  refine a_aload_n 0 6 rfl dX0_run_5 rfl rfl ?_
  refine a_aload_n 1 7 rfl dX0_run_6 rfl rfl ?_
  refine a_get 0 cl_5 f_RX0_19_5 (by decide) (g_set_ne hab hF) rfl 10 rfl dX0_run_7 ?_
  refine a_put (fs' := [.ref (g_ad G ka), .int 0, .int (nI k9), .int nu2, .int fg2]) 2 cl_0 f_RX0_24_0 (by decide) (g_set_eq (hA)) rfl rfl rfl (Nat.le_of_ble_eq_true rfl) rfl 13 rfl dX0_run_10 ?_
  refine a_aload_n 0 14 rfl dX0_run_13 rfl rfl ?_
  refine a_aload_n 1 15 rfl dX0_run_14 rfl rfl ?_
  refine a_get 1 cl_5 f_RX0_25_5 (by decide) (g_set_ne hab (g_set_ne hab hF)) rfl 18 rfl dX0_run_15 ?_
  refine a_put (fs' := [.ref (g_ad G ka), .int 0, .int (nI k9), .int nu2, .int fg]) 4 cl_0 f_RX0_28_0 (by decide) (g_set_eq (g_set_eq (hA))) rfl rfl rfl (Nat.le_of_ble_eq_true rfl) rfl 21 rfl dX0_run_18 ?_
  refine a_aload_n 0 22 rfl dX0_run_21 rfl rfl ?_
  refine a_iload_n 2 23 rfl dX0_run_22 rfl rfl ?_
  refine a_put (fs' := [.ref (g_ad G ka), .int 0, .int (nI k9), .int nu, .int fg]) 3 cl_0 f_RX0_29_0 (by decide) (g_set_eq (g_set_eq (g_set_eq (hA)))) rfl rfl rfl (Nat.le_of_ble_eq_true rfl) rfl 26 rfl dX0_run_23 ?_
  refine a_eq (h2 := h2) rfl rfl rfl (by rw [eh2, List.set_set, List.set_set, List.set_set]; rfl) ?_
  refine a_iload_n 3 27 rfl dX0_run_26 rfl rfl ?_
  refine a_lookup (off := 36) 63 dX0_run_27 (by decide) (by decide) (by decide) ?_
  refine a_aload_n 0 64 rfl dX0_run_63 rfl rfl ?_
  refine a_aload_n 0 65 rfl dX0_run_64 rfl rfl ?_
  refine a_get 2 cl_0 f_RX0_24_0 (by decide) (a2) rfl 68 rfl dX0_run_65 ?_
  refine a_iload 4 70 rfl dX0_run_68 rfl ?_
  refine a_callV (as := [.int (nI k9), .int x]) (rest := []) (st2 := [.int (f_act k9 1 x nu fg)]) (u1 := 0) (v1 := 0) (u2 := 0) (v2 := 0) (w) (⟨_, _, _, _, a2, rfl⟩) oX0_turns q_1018 q_1020 q_72 rfl (by omega) (by decide) rfl (Nat.le_of_ble_eq_true rfl) 73 rfl dX0_run_70 rfl ?_
  exact a_ireturn .int rfl rfl (rfl) (rfl) dX0_run_73

theorem r_X0_runC {m k9 k8 : Nat} {nu fg nu2 fg2 x : Int32} {td : Int64} {f : Nat → Int32} (hA : h[a]? = some (c_Ac G ka m k8 nu2 fg2)) (hR : h[ka]? = some (c_I G 24 f)) (hF : h[b]? = some (c_O 5 [.int (nI k9), .int fg, .long td])) (hne : a ≠ ka) (hk : k9 < 6) : ∃ f2, f_ext f f2 0 (l_act k9 2) ∧ g_Run G mX0_run 9 0 0 [.ref (g_ad G a), .ref (g_ad G b), .int nu, .int (nI 2), .int x] h (some (.int (f_act k9 2 x nu fg))) ((h.set ka (c_I G 24 f2)).set a (c_Ac G ka (l_act k9 2).length k9 nu fg)) := by
  have hab : a ≠ b := fun z => by rw [z, hF] at hA; cases hA
  obtain ⟨h2, eh2⟩ : ∃ h2, h2 = h.set a (c_Ac G ka 0 k9 nu fg) := ⟨_, rfl⟩
  have a2 : h2[a]? = some (c_Ac G ka 0 k9 nu fg) := by rw [eh2]; exact g_set_eq hA
  have b2 : h2[ka]? = some (c_I G 24 f) := by rw [eh2]; exact g_set_ne hne hR
  have fin : ∀ f2 : Nat → Int32, (h2.set ka (c_I G 24 f2)).set a (c_Ac G ka (0 + (l_act k9 2).length) k9 nu fg) = (h.set ka (c_I G 24 f2)).set a (c_Ac G ka (l_act k9 2).length k9 nu fg) := fun f2 => by
    rw [eh2, List.set_comm _ _ hne, List.set_set, Nat.zero_add]
  have hs := l_act_short (w := 2) hk (by omega)
  have act : g_act G mX0_tells 8 [.int (nI k9), .int x] a ka k9 nu fg (f_act k9 2 x nu fg) (l_act k9 2) := r_X0_tells hk hk (by omega)
  obtain ⟨f2, e2, w⟩ := act h2 0 f a2 b2 hne (by omega)
  refine ⟨f2, e2, ?_⟩
  rw [fin] at w
  refine g_Run.of (lv := [(0, .ref (g_ad G a)), (1, .ref (g_ad G b)), (2, .int nu), (3, .int (nI 2)), (4, .int x)]) (by decide) (Nat.le_of_ble_eq_true rfl) rfl ?_
  refine a_aload_n 0 1 rfl dX0_run_0 rfl rfl ?_
  refine a_iconst (x := 0) 2 rfl dX0_run_1 (by decide) ?_
  refine a_put (fs' := [.ref (g_ad G ka), .int 0, .int (nI k8), .int nu2, .int fg2]) 1 cl_0 f_RX0_15_0 (by decide) (hA) rfl rfl rfl (Nat.le_of_ble_eq_true rfl) rfl 5 rfl dX0_run_2 ?_
  refine a_aload_n 0 6 rfl dX0_run_5 rfl rfl ?_
  refine a_aload_n 1 7 rfl dX0_run_6 rfl rfl ?_
  refine a_get 0 cl_5 f_RX0_19_5 (by decide) (g_set_ne hab hF) rfl 10 rfl dX0_run_7 ?_
  refine a_put (fs' := [.ref (g_ad G ka), .int 0, .int (nI k9), .int nu2, .int fg2]) 2 cl_0 f_RX0_24_0 (by decide) (g_set_eq (hA)) rfl rfl rfl (Nat.le_of_ble_eq_true rfl) rfl 13 rfl dX0_run_10 ?_
  refine a_aload_n 0 14 rfl dX0_run_13 rfl rfl ?_
  refine a_aload_n 1 15 rfl dX0_run_14 rfl rfl ?_
  refine a_get 1 cl_5 f_RX0_25_5 (by decide) (g_set_ne hab (g_set_ne hab hF)) rfl 18 rfl dX0_run_15 ?_
  refine a_put (fs' := [.ref (g_ad G ka), .int 0, .int (nI k9), .int nu2, .int fg]) 4 cl_0 f_RX0_28_0 (by decide) (g_set_eq (g_set_eq (hA))) rfl rfl rfl (Nat.le_of_ble_eq_true rfl) rfl 21 rfl dX0_run_18 ?_
  refine a_aload_n 0 22 rfl dX0_run_21 rfl rfl ?_
  refine a_iload_n 2 23 rfl dX0_run_22 rfl rfl ?_
  refine a_put (fs' := [.ref (g_ad G ka), .int 0, .int (nI k9), .int nu, .int fg]) 3 cl_0 f_RX0_29_0 (by decide) (g_set_eq (g_set_eq (g_set_eq (hA)))) rfl rfl rfl (Nat.le_of_ble_eq_true rfl) rfl 26 rfl dX0_run_23 ?_
  refine a_eq (h2 := h2) rfl rfl rfl (by rw [eh2, List.set_set, List.set_set, List.set_set]; rfl) ?_
  refine a_iload_n 3 27 rfl dX0_run_26 rfl rfl ?_
  refine a_lookup (off := 47) 74 dX0_run_27 (by decide) (by decide) (by decide) ?_
  refine a_aload_n 0 75 rfl dX0_run_74 rfl rfl ?_
  refine a_aload_n 0 76 rfl dX0_run_75 rfl rfl ?_
  refine a_get 2 cl_0 f_RX0_24_0 (by decide) (a2) rfl 79 rfl dX0_run_76 ?_
  refine a_iload 4 81 rfl dX0_run_79 rfl ?_
  refine a_callV (as := [.int (nI k9), .int x]) (rest := []) (st2 := [.int (f_act k9 2 x nu fg)]) (u1 := 0) (v1 := 0) (u2 := 0) (v2 := 0) (w) (⟨_, _, _, _, a2, rfl⟩) oX0_tells q_1022 q_1024 q_73 rfl (by omega) (by decide) rfl (Nat.le_of_ble_eq_true rfl) 84 rfl dX0_run_81 rfl ?_
  exact a_ireturn .int rfl rfl (rfl) (rfl) dX0_run_84

/-- run: what the act answers, the bodies that it begins -/
theorem r_X0_run {m k9 k8 w9 : Nat} {nu fg nu2 fg2 x : Int32} {td : Int64} {f : Nat → Int32} (hA : h[a]? = some (c_Ac G ka m k8 nu2 fg2)) (hR : h[ka]? = some (c_I G 24 f)) (hF : h[b]? = some (c_O 5 [.int (nI k9), .int fg, .long td])) (hne : a ≠ ka) (hk : k9 < 6) (hw : w9 < 3) : ∃ f2, f_ext f f2 0 (l_act k9 w9) ∧ g_Run G mX0_run 9 0 0 [.ref (g_ad G a), .ref (g_ad G b), .int nu, .int (nI w9), .int x] h (some (.int (f_act k9 w9 x nu fg))) ((h.set ka (c_I G 24 f2)).set a (c_Ac G ka (l_act k9 w9).length k9 nu fg)) := by
  match w9, hw with
  | 0, _ => exact r_X0_runA hA hR hF hne hk
  | 1, _ => exact r_X0_runB hA hR hF hne hk
  | 2, _ => exact r_X0_runC hA hR hF hne hk
-- Cascade
abbrev c_Ca (G : g_G) (ka : Nat) (m : Int32) (bd : Int64) : va_E := c_O 1 [.ref (g_ad G ka), .int m, .long bd]
theorem r_X1_many {bd : Int64} (hC : h[a]? = some (c_Ca G ka y bd)) : g_Run G mX1_many 1 0 0 [.ref (g_ad G a)] h (some (.int y)) h := by
  refine g_Run.of (lv := [(0, .ref (g_ad G a))]) (by decide) (Nat.le_of_ble_eq_true rfl) rfl ?_
  refine a_aload_n 0 1 rfl dX1_many_0 rfl rfl ?_
  refine a_get 1 cl_1 f_RX1_15_1 (by decide) (hC) rfl 4 rfl dX1_many_1 ?_
  exact a_ireturn .int rfl rfl (rfl) (rfl) dX1_many_4
theorem r_X1_bounds {bd : Int64} (hC : h[a]? = some (c_Ca G ka y bd)) : g_Run G mX1_bounds 1 0 0 [.ref (g_ad G a)] h (some (.long bd)) h := by
  refine g_Run.of (lv := [(0, .ref (g_ad G a))]) (by decide) (Nat.le_of_ble_eq_true rfl) rfl ?_
  refine a_aload_n 0 1 rfl dX1_bounds_0 rfl rfl ?_
  refine a_get 2 cl_1 f_RX1_19_1 (by decide) (hC) rfl 4 rfl dX1_bounds_1 ?_
  exact a_lreturn rfl (rfl) (rfl) dX1_bounds_4
theorem r_X1_at_in {m j : Nat} {bd : Int64} {f : Nat → Int32} (hC : h[a]? = some (c_Ca G ka (nI m) bd)) (hR : h[ka]? = some (c_I G 12 f)) (hm : m ≤ 12) (hj : j < m) : g_Run G mX1_at 1 0 0 [.ref (g_ad G a), .int (nI j)] h (some (.int (f j))) h := by
  refine g_Run.of (lv := [(0, .ref (g_ad G a)), (1, .int (nI j))]) (by decide) (Nat.le_of_ble_eq_true rfl) rfl ?_
  refine a_iload_n 1 1 rfl dX1_at_0 rfl rfl ?_
  refine a_if_lt 30 4 rfl dX1_at_1 (by decide) (fun hc => absurd hc (nI_pos (by omega))) (fun _ => ?_)
  refine a_iload_n 1 5 rfl dX1_at_4 rfl rfl ?_
  refine a_aload_n 0 6 rfl dX1_at_5 rfl rfl ?_
  refine a_get 1 cl_1 f_RX1_15_1 (by decide) (hC) rfl 9 rfl dX1_at_6 ?_
  refine a_icmp_ge 30 12 rfl dX1_at_9 (by decide) (fun hc => absurd hc (nI_ge hj (by omega))) (fun _ => ?_)
  refine a_iload_n 1 13 rfl dX1_at_12 rfl rfl ?_
  refine a_aload_n 0 14 rfl dX1_at_13 rfl rfl ?_
  refine a_get 0 cl_1 f_RX1_9_1 (by decide) (hC) rfl 17 rfl dX1_at_14 ?_
  refine a_alen (y := 12) 0 (hR) rfl rfl 18 rfl dX1_at_17 ?_
  refine a_icmp_ge 30 21 rfl dX1_at_18 (by decide) (fun hc => absurd hc (nI_ge (b := 12) (by omega) (by omega))) (fun _ => ?_)
  refine a_aload_n 0 22 rfl dX1_at_21 rfl rfl ?_
  refine a_get 0 cl_1 f_RX1_9_1 (by decide) (hC) rfl 25 rfl dX1_at_22 ?_
  refine a_iload_n 1 26 rfl dX1_at_25 rfl rfl ?_
  refine a_iald (hR) (vp_in_nI (by omega) (by omega)) 27 rfl dX1_at_26 ?_
  refine a_goto 32 dX1_at_27 (by decide) ?_
  exact a_ireturn .int rfl rfl ((by rw [g_cl (by omega)])) (rfl) dX1_at_32
theorem r_X1_at_out {m : Nat} {bd : Int64} (hC : h[a]? = some (c_Ca G ka (nI m) bd)) (hm : m ≤ 12) (hi : ¬ vp_in i m) : g_Run G mX1_at 1 0 0 [.ref (g_ad G a), .int i] h (some (.int (-2))) h := by
  refine g_Run.of (lv := [(0, .ref (g_ad G a)), (1, .int i)]) (by decide) (Nat.le_of_ble_eq_true rfl) rfl ?_
  by_cases c0 : i < 0
  · skip
    refine a_iload_n 1 1 rfl dX1_at_0 rfl rfl ?_
    refine a_if_lt 30 4 rfl dX1_at_1 (by decide) (fun _ => ?_) (fun hc => absurd (c0) hc)
    refine a_bipush (x := (-2)) 32 rfl dX1_at_30 (by decide) ?_
    exact a_ireturn .int rfl rfl (rfl) (rfl) dX1_at_32
  · skip
    refine a_iload_n 1 1 rfl dX1_at_0 rfl rfl ?_
    refine a_if_lt 30 4 rfl dX1_at_1 (by decide) (fun hc => absurd hc (c0)) (fun _ => ?_)
    refine a_iload_n 1 5 rfl dX1_at_4 rfl rfl ?_
    refine a_aload_n 0 6 rfl dX1_at_5 rfl rfl ?_
    refine a_get 1 cl_1 f_RX1_15_1 (by decide) (hC) rfl 9 rfl dX1_at_6 ?_
    refine a_icmp_ge 30 12 rfl dX1_at_9 (by decide) (fun _ => ?_) (fun hc => absurd (g_out_ge hi c0 (by omega)) hc)
    refine a_bipush (x := (-2)) 32 rfl dX1_at_30 (by decide) ?_
    exact a_ireturn .int rfl rfl (rfl) (rfl) dX1_at_32
/-- halving between what fits and what is too many -/
def f_half (l i : Nat) : Nat → Nat → Nat → Nat
  | 0, lo, _ => lo
  | t + 1, lo, hi => if hi - lo ≤ 1 then lo else if f_ch ((lo + hi) / 2) i ≤ l then f_half l i t ((lo + hi) / 2) hi else f_half l i t lo ((lo + hi) / 2)
theorem f_half_le (l i : Nat) : ∀ t lo hi, lo ≤ hi → lo ≤ f_half l i t lo hi ∧ f_half l i t lo hi ≤ hi := by
  intro t
  induction t with
  | zero => intro lo hi hh; exact ⟨Nat.le_refl _, hh⟩
  | succ t ih =>
    intro lo hi hh
    unfold f_half
    split
    · exact ⟨Nat.le_refl _, hh⟩
    · split
      · have e9 := ih ((lo + hi) / 2) hi (by omega)
        exact ⟨by omega, e9.2⟩
      · have e9 := ih lo ((lo + hi) / 2) (by omega)
        exact ⟨e9.1, by omega⟩
def f_great (l i : Nat) : Nat := f_half l i 64 i (l + i)
theorem f_great_le (l i : Nat) : i ≤ f_great l i ∧ f_great l i ≤ l + i := f_half_le l i 64 i (l + i) (by omega)
theorem r_X1_greatest {l9 i9 : Nat} (hl : l9 ≤ 2000000000) (hi : i9 ≤ 12) : g_Run G mX1_greatestWithin 2 0 0 [.long (lN l9), .int (nI i9)] h (some (.int (nI (f_great l9 i9)))) h := by
  have hadd : lN l9 + (nI i9).toInt64 = lN (l9 + i9) := by rw [nI_l (by omega), lN_add]
  have hi9 : (nI i9).toInt64 = lN i9 := nI_l (by omega)
  refine g_Run.of (lv := [(0, .long (lN l9)), (2, .int (nI i9))]) (by decide) (Nat.le_of_ble_eq_true rfl) rfl ?_
  refine a_iload_n 1 1 rfl dX1_greatestWithin_0 rfl rfl ?_
  refine a_i2l 2 rfl dX1_greatestWithin_1 ?_
  refine a_lstore_n (lv' := [(3, .long ((nI i9).toInt64)), (0, .long (lN l9)), (2, .int (nI i9))]) 3 rfl dX1_greatestWithin_2 rfl (by decide) rfl ?_
  refine a_lload_n 1 4 rfl dX1_greatestWithin_3 rfl rfl ?_
  refine a_iload_n 2 5 rfl dX1_greatestWithin_4 rfl rfl ?_
  refine a_i2l 6 rfl dX1_greatestWithin_5 ?_
  refine a_ladd 7 rfl dX1_greatestWithin_6 ?_
  refine a_lstore (lv' := [(5, .long ((lN l9) + ((nI i9).toInt64))), (3, .long ((nI i9).toInt64)), (0, .long (lN l9)), (2, .int (nI i9))]) 9 rfl dX1_greatestWithin_7 (by decide) rfl ?_
  refine a_iconst (x := 0) 10 rfl dX1_greatestWithin_9 (by decide) ?_
  refine a_istore (lv' := [(7, .int 0), (5, .long ((lN l9) + ((nI i9).toInt64))), (3, .long ((nI i9).toInt64)), (0, .long (lN l9)), (2, .int (nI i9))]) 12 rfl dX1_greatestWithin_10 (by decide) rfl ?_
  refine a_eq (lv2 := [(7, .int (nI 0)), (5, .long (lN (l9 + i9))), (3, .long (lN i9)), (0, .long (lN l9)), (2, .int (nI i9))]) rfl (by rw [hadd, hi9]; rfl) rfl rfl ?_
  have key : ∀ jj ii : Nat, ii + jj = 64 → ∀ lo hi : Nat, lo ≤ hi → hi ≤ l9 + i9 → i9 ≤ lo → g_A G mX1_greatestWithin 2 0 0 12 [(7, .int (nI ii)), (5, .long (lN hi)), (3, .long (lN lo)), (0, .long (lN l9)), (2, .int (nI i9))] [] h (some (.int (nI (f_half l9 i9 jj lo hi)))) h := by
    intro jj
    induction jj with
    | zero =>
      intro ii hii lo hi hlh hhi hlo
      refine a_iload 0 14 rfl dX1_greatestWithin_12 rfl ?_
      refine a_bipush (x := 64) 16 rfl dX1_greatestWithin_14 (by decide) ?_
      refine a_icmp_ge 65 19 rfl dX1_greatestWithin_16 (by decide) (fun _ => ?_) (fun hc => absurd ((nI_le (a := 64) (by omega) (by omega))) hc)
      refine a_lload_n 2 66 rfl dX1_greatestWithin_65 rfl rfl ?_
      refine a_l2i 67 rfl dX1_greatestWithin_66 ?_
      exact a_ireturn .int rfl rfl ((by rw [lN_i]; rfl)) (rfl) dX1_greatestWithin_67
    | succ jj ih =>
      intro ii hii lo hi hlh hhi hlo
      refine a_iload 0 14 rfl dX1_greatestWithin_12 rfl ?_
      refine a_bipush (x := 64) 16 rfl dX1_greatestWithin_14 (by decide) ?_
      refine a_icmp_ge 65 19 rfl dX1_greatestWithin_16 (by decide) (fun hc => absurd hc ((nI_ge (b := 64) (by omega) (by omega)))) (fun _ => ?_)
      refine a_lload 1 21 rfl dX1_greatestWithin_19 rfl ?_
      refine a_lload_n 2 22 rfl dX1_greatestWithin_21 rfl rfl ?_
      refine a_lsub 23 rfl dX1_greatestWithin_22 ?_
      refine a_lconst (x := 1) 24 rfl dX1_greatestWithin_23 (by decide) ?_
      refine a_lcmp 25 rfl dX1_greatestWithin_24 ?_
      refine a_eq (st2 := [.int (lg_cmp (lN (hi - lo)) (lN 1))]) rfl rfl (by rw [lN_sub hlh]; rfl) rfl ?_
      by_cases e9 : hi - lo ≤ 1
      · skip
        refine a_if_le 65 28 rfl dX1_greatestWithin_25 (by decide) (fun _ => ?_) (fun hc => absurd ((f_cmpT_le (by omega) (by omega) e9)) hc)
        refine a_lload_n 2 66 rfl dX1_greatestWithin_65 rfl rfl ?_
        refine a_l2i 67 rfl dX1_greatestWithin_66 ?_
        exact a_ireturn .int rfl rfl ((by rw [lN_i, f_half, if_pos e9])) (rfl) dX1_greatestWithin_67
      · have hmid : (lN lo + lN hi) / 2 = lN ((lo + hi) / 2) := by rw [lN_add]; exact pk_lDiv (b := 2) (by omega) (by omega) (by omega)
        refine a_if_le 65 28 rfl dX1_greatestWithin_25 (by decide) (fun hc => absurd hc ((f_cmpF_le (by omega) (by omega) (by omega)))) (fun _ => ?_)
        refine a_lload_n 2 29 rfl dX1_greatestWithin_28 rfl rfl ?_
        refine a_lload 1 31 rfl dX1_greatestWithin_29 rfl ?_
        refine a_ladd 32 rfl dX1_greatestWithin_31 ?_
        refine a_ldc2 q_720 35 rfl dX1_greatestWithin_32 ?_
        refine a_ldiv 36 rfl dX1_greatestWithin_35 ((by decide)) ?_
        refine a_eq (st2 := [.long (lN ((lo + hi) / 2))]) rfl rfl (by rw [hmid]) rfl ?_
        refine a_lstore (lv' := [(8, .long (lN ((lo + hi) / 2))), (7, .int (nI ii)), (5, .long (lN hi)), (3, .long (lN lo)), (0, .long (lN l9)), (2, .int (nI i9))]) 38 rfl dX1_greatestWithin_36 (by decide) rfl ?_
        refine a_lload 0 40 rfl dX1_greatestWithin_38 rfl ?_
        refine a_iload_n 5 41 rfl dX1_greatestWithin_40 rfl rfl ?_
        refine a_callSN (as := [.long (lN ((lo + hi) / 2)), .int (nI i9)]) (rest := []) (st2 := [.long (lN (f_ch ((lo + hi) / 2) i9))]) (u1 := 0) (v1 := 0) (u2 := 0) (v2 := 0) (r_choices (t9 := (lo + hi) / 2) (k9 := i9) (by omega) (by omega) (by omega)) oX11_choices q_721 q_722 rfl (by omega) (by decide) rfl (Nat.le_of_ble_eq_true rfl) 44 rfl dX1_greatestWithin_41 rfl ?_
        refine a_lload_n 4 45 rfl dX1_greatestWithin_44 rfl rfl ?_
        refine a_lcmp 46 rfl dX1_greatestWithin_45 ?_
        have hch := f_ch_le ((lo + hi) / 2) i9
        by_cases e8 : f_ch ((lo + hi) / 2) i9 ≤ l9
        · have e7 : f_half l9 i9 (jj + 1) lo hi = f_half l9 i9 jj ((lo + hi) / 2) hi := by rw [f_half, if_neg e9, if_pos e8]
          rw [e7]
          refine a_if_gt 55 49 rfl dX1_greatestWithin_46 (by decide) (fun hc => absurd hc ((f_cmpF_gt (by omega) (by omega) e8))) (fun _ => ?_)
          refine a_lload 0 51 rfl dX1_greatestWithin_49 rfl ?_
          refine a_lstore_n (lv' := [(3, .long (lN ((lo + hi) / 2))), (8, .long (lN ((lo + hi) / 2))), (7, .int (nI ii)), (5, .long (lN hi)), (0, .long (lN l9)), (2, .int (nI i9))]) 52 rfl dX1_greatestWithin_51 rfl (by decide) rfl ?_
          refine a_goto 59 dX1_greatestWithin_52 (by decide) ?_
          refine a_iinc (y := nI (ii + 1)) (lv' := [(7, .int (nI (ii + 1))), (3, .long (lN ((lo + hi) / 2))), (8, .long (lN ((lo + hi) / 2))), (5, .long (lN hi)), (0, .long (lN l9)), (2, .int (nI i9))]) 2 62 rfl dX1_greatestWithin_59 rfl (nI_1 ii) (by decide) rfl ?_
          refine a_goto 12 dX1_greatestWithin_62 (by decide) ?_
          refine a_sub (lv' := [(7, .int (nI (ii + 1))), (5, .long (lN hi)), (3, .long (lN ((lo + hi) / 2))), (0, .long (lN l9)), (2, .int (nI i9))]) [0, 3, 1, 4, 5] rfl ?_
          exact ih (ii + 1) (by omega) _ _ (by omega) hhi (by omega)
        · have e7 : f_half l9 i9 (jj + 1) lo hi = f_half l9 i9 jj lo ((lo + hi) / 2) := by rw [f_half, if_neg e9, if_neg e8]
          rw [e7]
          refine a_if_gt 55 49 rfl dX1_greatestWithin_46 (by decide) (fun _ => ?_) (fun hc => absurd ((f_cmpT_gt (by omega) (by omega) (by omega))) hc)
          refine a_lload 0 57 rfl dX1_greatestWithin_55 rfl ?_
          refine a_lstore (lv' := [(5, .long (lN ((lo + hi) / 2))), (8, .long (lN ((lo + hi) / 2))), (7, .int (nI ii)), (3, .long (lN lo)), (0, .long (lN l9)), (2, .int (nI i9))]) 59 rfl dX1_greatestWithin_57 (by decide) rfl ?_
          refine a_iinc (y := nI (ii + 1)) (lv' := [(7, .int (nI (ii + 1))), (5, .long (lN ((lo + hi) / 2))), (8, .long (lN ((lo + hi) / 2))), (3, .long (lN lo)), (0, .long (lN l9)), (2, .int (nI i9))]) 2 62 rfl dX1_greatestWithin_59 rfl (nI_1 ii) (by decide) rfl ?_
          refine a_goto 12 dX1_greatestWithin_62 (by decide) ?_
          refine a_sub (lv' := [(7, .int (nI (ii + 1))), (5, .long (lN ((lo + hi) / 2))), (3, .long (lN lo)), (0, .long (lN l9)), (2, .int (nI i9))]) [0, 1, 3, 4, 5] rfl ?_
          exact ih (ii + 1) (by omega) _ _ (by omega) (by omega) hlo
  exact key 64 0 (by omega) _ _ (by omega) (by omega) (by omega)
end CA1
